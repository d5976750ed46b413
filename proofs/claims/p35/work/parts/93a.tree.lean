set_option maxRecDepth 20000 in
theorem t_C_act {G : jv_X} {d : Nat} {B : Option Value → jg_H → Prop} {s : jg_H} (a1 : Int32) (a2 : Int32) (a3 : Int32) (a4 : Int32)
    (k1 : q_P G (d + 2) 81 [.ref 0, .int a1, .int a2, .int a3, .int a4] s (fun v t => q_W G (d + 2) jm_C_act B 9 [some (.ref 0), some (.int a1), some (.int a2), some (.int a3), some (.int a4), none] (v.toList ++ []) t)) :
    q_P G (d + 3) 80 [.ref 0, .int a1, .int a2, .int a3, .int a4] s B := by
  refine q_in (M := jm_C_act) rfl (Nat.le_of_ble_eq_true rfl) (ls := [some (.ref 0), some (.int a1), some (.int a2), some (.int a3), some (.int a4), none]) rfl ?_
  refine q_aload_n (pc' := 1) ja_C_act_0 rfl rfl ?_
  refine q_iload_n (pc' := 2) ja_C_act_1 rfl rfl ?_
  refine q_iload_n (pc' := 3) ja_C_act_2 rfl rfl ?_
  refine q_iload_n (pc' := 4) ja_C_act_3 rfl rfl ?_
  refine q_iload (pc' := 6) ja_C_act_4 rfl rfl ?_
  refine q_virt (pc' := 9) (c := 0) (as := [.int a1, .int a2, .int a3, .int a4]) (r := []) ja_C_act_6 rfl rfl rfl (by decide) ⟨rfl, by decide⟩ ?_
  exact k1
set_option maxRecDepth 20000 in
theorem t_C_act_9 {G : jv_X} {d : Nat} {B : Option Value → jg_H → Prop} {s : jg_H} (x1 : Int32) (x2 : Int32) (x3 : Int32) (x4 : Int32) (y0 : Int32)
    (k1 : ¬ y0 < 0 → y0 ≤ 0 → x1 < 1 → x1 = 2 → (s 60 0) < 0 → ∀ s1 : jg_H, s1 = jg_up s 0 19 ((s 0 19) + 1) → B (some (.int (s1 60 0))) s1)
    (k2 : ¬ y0 < 0 → y0 ≤ 0 → x1 < 1 → x1 = 2 → ¬ (s 60 0) < 0 → (s 60 0) < (s 60 1) → jv_in (s 60 0) 8 = true)
    (k3 : ¬ y0 < 0 → y0 ≤ 0 → x1 < 1 → x1 = 2 → ¬ (s 60 0) < 0 → (s 60 0) < (s 60 1) → ∀ s2 : jg_H, s2 = jg_up s 61 (s 60 0).toNatClampNeg x1 → jv_in (s2 60 0) 8 = true)
    (k4 : ¬ y0 < 0 → y0 ≤ 0 → x1 < 1 → x1 = 2 → ¬ (s 60 0) < 0 → (s 60 0) < (s 60 1) → ∀ s2 : jg_H, s2 = jg_up s 61 (s 60 0).toNatClampNeg x1 → ∀ s3 : jg_H, s3 = jg_up s2 62 (s2 60 0).toNatClampNeg x2 → jv_in (s3 60 0) 8 = true)
    (k5 : ¬ y0 < 0 → y0 ≤ 0 → x1 < 1 → x1 = 2 → ¬ (s 60 0) < 0 → (s 60 0) < (s 60 1) → ∀ s2 : jg_H, s2 = jg_up s 61 (s 60 0).toNatClampNeg x1 → ∀ s3 : jg_H, s3 = jg_up s2 62 (s2 60 0).toNatClampNeg x2 → ∀ s4 : jg_H, s4 = jg_up s3 63 (s3 60 0).toNatClampNeg (-1) → jv_in (s4 60 0) 8 = true)
    (k6 : ¬ y0 < 0 → y0 ≤ 0 → x1 < 1 → x1 = 2 → ¬ (s 60 0) < 0 → (s 60 0) < (s 60 1) → ∀ s2 : jg_H, s2 = jg_up s 61 (s 60 0).toNatClampNeg x1 → ∀ s3 : jg_H, s3 = jg_up s2 62 (s2 60 0).toNatClampNeg x2 → ∀ s4 : jg_H, s4 = jg_up s3 63 (s3 60 0).toNatClampNeg (-1) → ∀ s5 : jg_H, s5 = jg_up s4 64 (s4 60 0).toNatClampNeg x4 → ∀ s6 : jg_H, s6 = jg_up s5 60 0 ((s5 60 0) + 1) → ∀ s7 : jg_H, s7 = jg_up s6 0 19 ((s6 0 19) + 1) → B (some (.int (s7 60 0))) s7)
    (k7 : ¬ y0 < 0 → y0 ≤ 0 → x1 < 1 → x1 = 2 → ¬ (s 60 0) < 0 → ¬ (s 60 0) < (s 60 1) → ∀ s8 : jg_H, s8 = jg_up s 0 19 ((s 0 19) + 1) → B (some (.int (s8 60 0))) s8)
    (k8 : ¬ y0 < 0 → y0 ≤ 0 → x1 < 1 → ¬ x1 = 2 → ¬ x1 = 3 → ¬ x1 = 6 → (s 60 0) < 0 → ∀ s9 : jg_H, s9 = jg_up s 0 19 ((s 0 19) + 1) → B (some (.int (s9 60 0))) s9)
    (k9 : ¬ y0 < 0 → y0 ≤ 0 → x1 < 1 → ¬ x1 = 2 → ¬ x1 = 3 → ¬ x1 = 6 → ¬ (s 60 0) < 0 → (s 60 0) < (s 60 1) → jv_in (s 60 0) 8 = true)
    (k10 : ¬ y0 < 0 → y0 ≤ 0 → x1 < 1 → ¬ x1 = 2 → ¬ x1 = 3 → ¬ x1 = 6 → ¬ (s 60 0) < 0 → (s 60 0) < (s 60 1) → ∀ s10 : jg_H, s10 = jg_up s 61 (s 60 0).toNatClampNeg x1 → jv_in (s10 60 0) 8 = true)
    (k11 : ¬ y0 < 0 → y0 ≤ 0 → x1 < 1 → ¬ x1 = 2 → ¬ x1 = 3 → ¬ x1 = 6 → ¬ (s 60 0) < 0 → (s 60 0) < (s 60 1) → ∀ s10 : jg_H, s10 = jg_up s 61 (s 60 0).toNatClampNeg x1 → ∀ s11 : jg_H, s11 = jg_up s10 62 (s10 60 0).toNatClampNeg x2 → jv_in (s11 60 0) 8 = true)
    (k12 : ¬ y0 < 0 → y0 ≤ 0 → x1 < 1 → ¬ x1 = 2 → ¬ x1 = 3 → ¬ x1 = 6 → ¬ (s 60 0) < 0 → (s 60 0) < (s 60 1) → ∀ s10 : jg_H, s10 = jg_up s 61 (s 60 0).toNatClampNeg x1 → ∀ s11 : jg_H, s11 = jg_up s10 62 (s10 60 0).toNatClampNeg x2 → ∀ s12 : jg_H, s12 = jg_up s11 63 (s11 60 0).toNatClampNeg (-1) → jv_in (s12 60 0) 8 = true)
    (k13 : ¬ y0 < 0 → y0 ≤ 0 → x1 < 1 → ¬ x1 = 2 → ¬ x1 = 3 → ¬ x1 = 6 → ¬ (s 60 0) < 0 → (s 60 0) < (s 60 1) → ∀ s10 : jg_H, s10 = jg_up s 61 (s 60 0).toNatClampNeg x1 → ∀ s11 : jg_H, s11 = jg_up s10 62 (s10 60 0).toNatClampNeg x2 → ∀ s12 : jg_H, s12 = jg_up s11 63 (s11 60 0).toNatClampNeg (-1) → ∀ s13 : jg_H, s13 = jg_up s12 64 (s12 60 0).toNatClampNeg (-1) → ∀ s14 : jg_H, s14 = jg_up s13 60 0 ((s13 60 0) + 1) → ∀ s15 : jg_H, s15 = jg_up s14 0 19 ((s14 0 19) + 1) → B (some (.int (s15 60 0))) s15)
    (k14 : ¬ y0 < 0 → y0 ≤ 0 → x1 < 1 → ¬ x1 = 2 → ¬ x1 = 3 → ¬ x1 = 6 → ¬ (s 60 0) < 0 → ¬ (s 60 0) < (s 60 1) → ∀ s16 : jg_H, s16 = jg_up s 0 19 ((s 0 19) + 1) → B (some (.int (s16 60 0))) s16)
    (k15 : ¬ y0 < 0 → y0 ≤ 0 → x1 < 1 → ¬ x1 = 2 → ¬ x1 = 3 → x1 = 6 → (s 60 0) < 0 → ∀ s17 : jg_H, s17 = jg_up s 0 19 ((s 0 19) + 1) → B (some (.int (s17 60 0))) s17)
    (k16 : ¬ y0 < 0 → y0 ≤ 0 → x1 < 1 → ¬ x1 = 2 → ¬ x1 = 3 → x1 = 6 → ¬ (s 60 0) < 0 → (s 60 0) < (s 60 1) → jv_in (s 60 0) 8 = true)
    (k17 : ¬ y0 < 0 → y0 ≤ 0 → x1 < 1 → ¬ x1 = 2 → ¬ x1 = 3 → x1 = 6 → ¬ (s 60 0) < 0 → (s 60 0) < (s 60 1) → ∀ s18 : jg_H, s18 = jg_up s 61 (s 60 0).toNatClampNeg x1 → jv_in (s18 60 0) 8 = true)
    (k18 : ¬ y0 < 0 → y0 ≤ 0 → x1 < 1 → ¬ x1 = 2 → ¬ x1 = 3 → x1 = 6 → ¬ (s 60 0) < 0 → (s 60 0) < (s 60 1) → ∀ s18 : jg_H, s18 = jg_up s 61 (s 60 0).toNatClampNeg x1 → ∀ s19 : jg_H, s19 = jg_up s18 62 (s18 60 0).toNatClampNeg x2 → jv_in (s19 60 0) 8 = true)
    (k19 : ¬ y0 < 0 → y0 ≤ 0 → x1 < 1 → ¬ x1 = 2 → ¬ x1 = 3 → x1 = 6 → ¬ (s 60 0) < 0 → (s 60 0) < (s 60 1) → ∀ s18 : jg_H, s18 = jg_up s 61 (s 60 0).toNatClampNeg x1 → ∀ s19 : jg_H, s19 = jg_up s18 62 (s18 60 0).toNatClampNeg x2 → ∀ s20 : jg_H, s20 = jg_up s19 63 (s19 60 0).toNatClampNeg (-1) → jv_in (s20 60 0) 8 = true)
    (k20 : ¬ y0 < 0 → y0 ≤ 0 → x1 < 1 → ¬ x1 = 2 → ¬ x1 = 3 → x1 = 6 → ¬ (s 60 0) < 0 → (s 60 0) < (s 60 1) → ∀ s18 : jg_H, s18 = jg_up s 61 (s 60 0).toNatClampNeg x1 → ∀ s19 : jg_H, s19 = jg_up s18 62 (s18 60 0).toNatClampNeg x2 → ∀ s20 : jg_H, s20 = jg_up s19 63 (s19 60 0).toNatClampNeg (-1) → ∀ s21 : jg_H, s21 = jg_up s20 64 (s20 60 0).toNatClampNeg x4 → ∀ s22 : jg_H, s22 = jg_up s21 60 0 ((s21 60 0) + 1) → ∀ s23 : jg_H, s23 = jg_up s22 0 19 ((s22 0 19) + 1) → B (some (.int (s23 60 0))) s23)
    (k21 : ¬ y0 < 0 → y0 ≤ 0 → x1 < 1 → ¬ x1 = 2 → ¬ x1 = 3 → x1 = 6 → ¬ (s 60 0) < 0 → ¬ (s 60 0) < (s 60 1) → ∀ s24 : jg_H, s24 = jg_up s 0 19 ((s 0 19) + 1) → B (some (.int (s24 60 0))) s24)
    (k22 : ¬ y0 < 0 → y0 ≤ 0 → x1 < 1 → ¬ x1 = 2 → x1 = 3 → (s 60 0) < 0 → ∀ s25 : jg_H, s25 = jg_up s 0 19 ((s 0 19) + 1) → B (some (.int (s25 60 0))) s25)
    (k23 : ¬ y0 < 0 → y0 ≤ 0 → x1 < 1 → ¬ x1 = 2 → x1 = 3 → ¬ (s 60 0) < 0 → (s 60 0) < (s 60 1) → jv_in (s 60 0) 8 = true)
    (k24 : ¬ y0 < 0 → y0 ≤ 0 → x1 < 1 → ¬ x1 = 2 → x1 = 3 → ¬ (s 60 0) < 0 → (s 60 0) < (s 60 1) → ∀ s26 : jg_H, s26 = jg_up s 61 (s 60 0).toNatClampNeg x1 → jv_in (s26 60 0) 8 = true)
    (k25 : ¬ y0 < 0 → y0 ≤ 0 → x1 < 1 → ¬ x1 = 2 → x1 = 3 → ¬ (s 60 0) < 0 → (s 60 0) < (s 60 1) → ∀ s26 : jg_H, s26 = jg_up s 61 (s 60 0).toNatClampNeg x1 → ∀ s27 : jg_H, s27 = jg_up s26 62 (s26 60 0).toNatClampNeg x2 → jv_in (s27 60 0) 8 = true)
    (k26 : ¬ y0 < 0 → y0 ≤ 0 → x1 < 1 → ¬ x1 = 2 → x1 = 3 → ¬ (s 60 0) < 0 → (s 60 0) < (s 60 1) → ∀ s26 : jg_H, s26 = jg_up s 61 (s 60 0).toNatClampNeg x1 → ∀ s27 : jg_H, s27 = jg_up s26 62 (s26 60 0).toNatClampNeg x2 → ∀ s28 : jg_H, s28 = jg_up s27 63 (s27 60 0).toNatClampNeg (-1) → jv_in (s28 60 0) 8 = true)
    (k27 : ¬ y0 < 0 → y0 ≤ 0 → x1 < 1 → ¬ x1 = 2 → x1 = 3 → ¬ (s 60 0) < 0 → (s 60 0) < (s 60 1) → ∀ s26 : jg_H, s26 = jg_up s 61 (s 60 0).toNatClampNeg x1 → ∀ s27 : jg_H, s27 = jg_up s26 62 (s26 60 0).toNatClampNeg x2 → ∀ s28 : jg_H, s28 = jg_up s27 63 (s27 60 0).toNatClampNeg (-1) → ∀ s29 : jg_H, s29 = jg_up s28 64 (s28 60 0).toNatClampNeg x4 → ∀ s30 : jg_H, s30 = jg_up s29 60 0 ((s29 60 0) + 1) → ∀ s31 : jg_H, s31 = jg_up s30 0 19 ((s30 0 19) + 1) → B (some (.int (s31 60 0))) s31)
    (k28 : ¬ y0 < 0 → y0 ≤ 0 → x1 < 1 → ¬ x1 = 2 → x1 = 3 → ¬ (s 60 0) < 0 → ¬ (s 60 0) < (s 60 1) → ∀ s32 : jg_H, s32 = jg_up s 0 19 ((s 0 19) + 1) → B (some (.int (s32 60 0))) s32)
    (k29 : ¬ y0 < 0 → y0 ≤ 0 → ¬ x1 < 1 → ¬ x1 ≤ 3 → x1 = 2 → (s 60 0) < 0 → ∀ s33 : jg_H, s33 = jg_up s 0 19 ((s 0 19) + 1) → B (some (.int (s33 60 0))) s33)
    (k30 : ¬ y0 < 0 → y0 ≤ 0 → ¬ x1 < 1 → ¬ x1 ≤ 3 → x1 = 2 → ¬ (s 60 0) < 0 → (s 60 0) < (s 60 1) → jv_in (s 60 0) 8 = true)
    (k31 : ¬ y0 < 0 → y0 ≤ 0 → ¬ x1 < 1 → ¬ x1 ≤ 3 → x1 = 2 → ¬ (s 60 0) < 0 → (s 60 0) < (s 60 1) → ∀ s34 : jg_H, s34 = jg_up s 61 (s 60 0).toNatClampNeg x1 → jv_in (s34 60 0) 8 = true)
    (k32 : ¬ y0 < 0 → y0 ≤ 0 → ¬ x1 < 1 → ¬ x1 ≤ 3 → x1 = 2 → ¬ (s 60 0) < 0 → (s 60 0) < (s 60 1) → ∀ s34 : jg_H, s34 = jg_up s 61 (s 60 0).toNatClampNeg x1 → ∀ s35 : jg_H, s35 = jg_up s34 62 (s34 60 0).toNatClampNeg x2 → jv_in (s35 60 0) 8 = true)
    (k33 : ¬ y0 < 0 → y0 ≤ 0 → ¬ x1 < 1 → ¬ x1 ≤ 3 → x1 = 2 → ¬ (s 60 0) < 0 → (s 60 0) < (s 60 1) → ∀ s34 : jg_H, s34 = jg_up s 61 (s 60 0).toNatClampNeg x1 → ∀ s35 : jg_H, s35 = jg_up s34 62 (s34 60 0).toNatClampNeg x2 → ∀ s36 : jg_H, s36 = jg_up s35 63 (s35 60 0).toNatClampNeg (-1) → jv_in (s36 60 0) 8 = true)
    (k34 : ¬ y0 < 0 → y0 ≤ 0 → ¬ x1 < 1 → ¬ x1 ≤ 3 → x1 = 2 → ¬ (s 60 0) < 0 → (s 60 0) < (s 60 1) → ∀ s34 : jg_H, s34 = jg_up s 61 (s 60 0).toNatClampNeg x1 → ∀ s35 : jg_H, s35 = jg_up s34 62 (s34 60 0).toNatClampNeg x2 → ∀ s36 : jg_H, s36 = jg_up s35 63 (s35 60 0).toNatClampNeg (-1) → ∀ s37 : jg_H, s37 = jg_up s36 64 (s36 60 0).toNatClampNeg x4 → ∀ s38 : jg_H, s38 = jg_up s37 60 0 ((s37 60 0) + 1) → ∀ s39 : jg_H, s39 = jg_up s38 0 19 ((s38 0 19) + 1) → B (some (.int (s39 60 0))) s39)
    (k35 : ¬ y0 < 0 → y0 ≤ 0 → ¬ x1 < 1 → ¬ x1 ≤ 3 → x1 = 2 → ¬ (s 60 0) < 0 → ¬ (s 60 0) < (s 60 1) → ∀ s40 : jg_H, s40 = jg_up s 0 19 ((s 0 19) + 1) → B (some (.int (s40 60 0))) s40)
    (k36 : ¬ y0 < 0 → y0 ≤ 0 → ¬ x1 < 1 → ¬ x1 ≤ 3 → ¬ x1 = 2 → ¬ x1 = 3 → ¬ x1 = 6 → (s 60 0) < 0 → ∀ s41 : jg_H, s41 = jg_up s 0 19 ((s 0 19) + 1) → B (some (.int (s41 60 0))) s41)
    (k37 : ¬ y0 < 0 → y0 ≤ 0 → ¬ x1 < 1 → ¬ x1 ≤ 3 → ¬ x1 = 2 → ¬ x1 = 3 → ¬ x1 = 6 → ¬ (s 60 0) < 0 → (s 60 0) < (s 60 1) → jv_in (s 60 0) 8 = true)
    (k38 : ¬ y0 < 0 → y0 ≤ 0 → ¬ x1 < 1 → ¬ x1 ≤ 3 → ¬ x1 = 2 → ¬ x1 = 3 → ¬ x1 = 6 → ¬ (s 60 0) < 0 → (s 60 0) < (s 60 1) → ∀ s42 : jg_H, s42 = jg_up s 61 (s 60 0).toNatClampNeg x1 → jv_in (s42 60 0) 8 = true)
    (k39 : ¬ y0 < 0 → y0 ≤ 0 → ¬ x1 < 1 → ¬ x1 ≤ 3 → ¬ x1 = 2 → ¬ x1 = 3 → ¬ x1 = 6 → ¬ (s 60 0) < 0 → (s 60 0) < (s 60 1) → ∀ s42 : jg_H, s42 = jg_up s 61 (s 60 0).toNatClampNeg x1 → ∀ s43 : jg_H, s43 = jg_up s42 62 (s42 60 0).toNatClampNeg x2 → jv_in (s43 60 0) 8 = true)
    (k40 : ¬ y0 < 0 → y0 ≤ 0 → ¬ x1 < 1 → ¬ x1 ≤ 3 → ¬ x1 = 2 → ¬ x1 = 3 → ¬ x1 = 6 → ¬ (s 60 0) < 0 → (s 60 0) < (s 60 1) → ∀ s42 : jg_H, s42 = jg_up s 61 (s 60 0).toNatClampNeg x1 → ∀ s43 : jg_H, s43 = jg_up s42 62 (s42 60 0).toNatClampNeg x2 → ∀ s44 : jg_H, s44 = jg_up s43 63 (s43 60 0).toNatClampNeg (-1) → jv_in (s44 60 0) 8 = true)
    (k41 : ¬ y0 < 0 → y0 ≤ 0 → ¬ x1 < 1 → ¬ x1 ≤ 3 → ¬ x1 = 2 → ¬ x1 = 3 → ¬ x1 = 6 → ¬ (s 60 0) < 0 → (s 60 0) < (s 60 1) → ∀ s42 : jg_H, s42 = jg_up s 61 (s 60 0).toNatClampNeg x1 → ∀ s43 : jg_H, s43 = jg_up s42 62 (s42 60 0).toNatClampNeg x2 → ∀ s44 : jg_H, s44 = jg_up s43 63 (s43 60 0).toNatClampNeg (-1) → ∀ s45 : jg_H, s45 = jg_up s44 64 (s44 60 0).toNatClampNeg (-1) → ∀ s46 : jg_H, s46 = jg_up s45 60 0 ((s45 60 0) + 1) → ∀ s47 : jg_H, s47 = jg_up s46 0 19 ((s46 0 19) + 1) → B (some (.int (s47 60 0))) s47)
    (k42 : ¬ y0 < 0 → y0 ≤ 0 → ¬ x1 < 1 → ¬ x1 ≤ 3 → ¬ x1 = 2 → ¬ x1 = 3 → ¬ x1 = 6 → ¬ (s 60 0) < 0 → ¬ (s 60 0) < (s 60 1) → ∀ s48 : jg_H, s48 = jg_up s 0 19 ((s 0 19) + 1) → B (some (.int (s48 60 0))) s48)
    (k43 : ¬ y0 < 0 → y0 ≤ 0 → ¬ x1 < 1 → ¬ x1 ≤ 3 → ¬ x1 = 2 → ¬ x1 = 3 → x1 = 6 → (s 60 0) < 0 → ∀ s49 : jg_H, s49 = jg_up s 0 19 ((s 0 19) + 1) → B (some (.int (s49 60 0))) s49)
    (k44 : ¬ y0 < 0 → y0 ≤ 0 → ¬ x1 < 1 → ¬ x1 ≤ 3 → ¬ x1 = 2 → ¬ x1 = 3 → x1 = 6 → ¬ (s 60 0) < 0 → (s 60 0) < (s 60 1) → jv_in (s 60 0) 8 = true)
    (k45 : ¬ y0 < 0 → y0 ≤ 0 → ¬ x1 < 1 → ¬ x1 ≤ 3 → ¬ x1 = 2 → ¬ x1 = 3 → x1 = 6 → ¬ (s 60 0) < 0 → (s 60 0) < (s 60 1) → ∀ s50 : jg_H, s50 = jg_up s 61 (s 60 0).toNatClampNeg x1 → jv_in (s50 60 0) 8 = true)
    (k46 : ¬ y0 < 0 → y0 ≤ 0 → ¬ x1 < 1 → ¬ x1 ≤ 3 → ¬ x1 = 2 → ¬ x1 = 3 → x1 = 6 → ¬ (s 60 0) < 0 → (s 60 0) < (s 60 1) → ∀ s50 : jg_H, s50 = jg_up s 61 (s 60 0).toNatClampNeg x1 → ∀ s51 : jg_H, s51 = jg_up s50 62 (s50 60 0).toNatClampNeg x2 → jv_in (s51 60 0) 8 = true)
    (k47 : ¬ y0 < 0 → y0 ≤ 0 → ¬ x1 < 1 → ¬ x1 ≤ 3 → ¬ x1 = 2 → ¬ x1 = 3 → x1 = 6 → ¬ (s 60 0) < 0 → (s 60 0) < (s 60 1) → ∀ s50 : jg_H, s50 = jg_up s 61 (s 60 0).toNatClampNeg x1 → ∀ s51 : jg_H, s51 = jg_up s50 62 (s50 60 0).toNatClampNeg x2 → ∀ s52 : jg_H, s52 = jg_up s51 63 (s51 60 0).toNatClampNeg (-1) → jv_in (s52 60 0) 8 = true)
    (k48 : ¬ y0 < 0 → y0 ≤ 0 → ¬ x1 < 1 → ¬ x1 ≤ 3 → ¬ x1 = 2 → ¬ x1 = 3 → x1 = 6 → ¬ (s 60 0) < 0 → (s 60 0) < (s 60 1) → ∀ s50 : jg_H, s50 = jg_up s 61 (s 60 0).toNatClampNeg x1 → ∀ s51 : jg_H, s51 = jg_up s50 62 (s50 60 0).toNatClampNeg x2 → ∀ s52 : jg_H, s52 = jg_up s51 63 (s51 60 0).toNatClampNeg (-1) → ∀ s53 : jg_H, s53 = jg_up s52 64 (s52 60 0).toNatClampNeg x4 → ∀ s54 : jg_H, s54 = jg_up s53 60 0 ((s53 60 0) + 1) → ∀ s55 : jg_H, s55 = jg_up s54 0 19 ((s54 0 19) + 1) → B (some (.int (s55 60 0))) s55)
    (k49 : ¬ y0 < 0 → y0 ≤ 0 → ¬ x1 < 1 → ¬ x1 ≤ 3 → ¬ x1 = 2 → ¬ x1 = 3 → x1 = 6 → ¬ (s 60 0) < 0 → ¬ (s 60 0) < (s 60 1) → ∀ s56 : jg_H, s56 = jg_up s 0 19 ((s 0 19) + 1) → B (some (.int (s56 60 0))) s56)
    (k50 : ¬ y0 < 0 → y0 ≤ 0 → ¬ x1 < 1 → ¬ x1 ≤ 3 → ¬ x1 = 2 → x1 = 3 → (s 60 0) < 0 → ∀ s57 : jg_H, s57 = jg_up s 0 19 ((s 0 19) + 1) → B (some (.int (s57 60 0))) s57)
    (k51 : ¬ y0 < 0 → y0 ≤ 0 → ¬ x1 < 1 → ¬ x1 ≤ 3 → ¬ x1 = 2 → x1 = 3 → ¬ (s 60 0) < 0 → (s 60 0) < (s 60 1) → jv_in (s 60 0) 8 = true)
    (k52 : ¬ y0 < 0 → y0 ≤ 0 → ¬ x1 < 1 → ¬ x1 ≤ 3 → ¬ x1 = 2 → x1 = 3 → ¬ (s 60 0) < 0 → (s 60 0) < (s 60 1) → ∀ s58 : jg_H, s58 = jg_up s 61 (s 60 0).toNatClampNeg x1 → jv_in (s58 60 0) 8 = true)
    (k53 : ¬ y0 < 0 → y0 ≤ 0 → ¬ x1 < 1 → ¬ x1 ≤ 3 → ¬ x1 = 2 → x1 = 3 → ¬ (s 60 0) < 0 → (s 60 0) < (s 60 1) → ∀ s58 : jg_H, s58 = jg_up s 61 (s 60 0).toNatClampNeg x1 → ∀ s59 : jg_H, s59 = jg_up s58 62 (s58 60 0).toNatClampNeg x2 → jv_in (s59 60 0) 8 = true)
    (k54 : ¬ y0 < 0 → y0 ≤ 0 → ¬ x1 < 1 → ¬ x1 ≤ 3 → ¬ x1 = 2 → x1 = 3 → ¬ (s 60 0) < 0 → (s 60 0) < (s 60 1) → ∀ s58 : jg_H, s58 = jg_up s 61 (s 60 0).toNatClampNeg x1 → ∀ s59 : jg_H, s59 = jg_up s58 62 (s58 60 0).toNatClampNeg x2 → ∀ s60 : jg_H, s60 = jg_up s59 63 (s59 60 0).toNatClampNeg (-1) → jv_in (s60 60 0) 8 = true)
    (k55 : ¬ y0 < 0 → y0 ≤ 0 → ¬ x1 < 1 → ¬ x1 ≤ 3 → ¬ x1 = 2 → x1 = 3 → ¬ (s 60 0) < 0 → (s 60 0) < (s 60 1) → ∀ s58 : jg_H, s58 = jg_up s 61 (s 60 0).toNatClampNeg x1 → ∀ s59 : jg_H, s59 = jg_up s58 62 (s58 60 0).toNatClampNeg x2 → ∀ s60 : jg_H, s60 = jg_up s59 63 (s59 60 0).toNatClampNeg (-1) → ∀ s61 : jg_H, s61 = jg_up s60 64 (s60 60 0).toNatClampNeg x4 → ∀ s62 : jg_H, s62 = jg_up s61 60 0 ((s61 60 0) + 1) → ∀ s63 : jg_H, s63 = jg_up s62 0 19 ((s62 0 19) + 1) → B (some (.int (s63 60 0))) s63)
    (k56 : ¬ y0 < 0 → y0 ≤ 0 → ¬ x1 < 1 → ¬ x1 ≤ 3 → ¬ x1 = 2 → x1 = 3 → ¬ (s 60 0) < 0 → ¬ (s 60 0) < (s 60 1) → ∀ s64 : jg_H, s64 = jg_up s 0 19 ((s 0 19) + 1) → B (some (.int (s64 60 0))) s64)
    (k57 : ¬ y0 < 0 → y0 ≤ 0 → ¬ x1 < 1 → x1 ≤ 3 → x1 = 2 → (s 60 0) < 0 → ∀ s65 : jg_H, s65 = jg_up s 0 19 ((s 0 19) + 1) → B (some (.int (s65 60 0))) s65)
    (k58 : ¬ y0 < 0 → y0 ≤ 0 → ¬ x1 < 1 → x1 ≤ 3 → x1 = 2 → ¬ (s 60 0) < 0 → (s 60 0) < (s 60 1) → jv_in (s 60 0) 8 = true)
    (k59 : ¬ y0 < 0 → y0 ≤ 0 → ¬ x1 < 1 → x1 ≤ 3 → x1 = 2 → ¬ (s 60 0) < 0 → (s 60 0) < (s 60 1) → ∀ s66 : jg_H, s66 = jg_up s 61 (s 60 0).toNatClampNeg x1 → jv_in (s66 60 0) 8 = true)
    (k60 : ¬ y0 < 0 → y0 ≤ 0 → ¬ x1 < 1 → x1 ≤ 3 → x1 = 2 → ¬ (s 60 0) < 0 → (s 60 0) < (s 60 1) → ∀ s66 : jg_H, s66 = jg_up s 61 (s 60 0).toNatClampNeg x1 → ∀ s67 : jg_H, s67 = jg_up s66 62 (s66 60 0).toNatClampNeg x2 → jv_in (s67 60 0) 8 = true)
    (k61 : ¬ y0 < 0 → y0 ≤ 0 → ¬ x1 < 1 → x1 ≤ 3 → x1 = 2 → ¬ (s 60 0) < 0 → (s 60 0) < (s 60 1) → ∀ s66 : jg_H, s66 = jg_up s 61 (s 60 0).toNatClampNeg x1 → ∀ s67 : jg_H, s67 = jg_up s66 62 (s66 60 0).toNatClampNeg x2 → ∀ s68 : jg_H, s68 = jg_up s67 63 (s67 60 0).toNatClampNeg x3 → jv_in (s68 60 0) 8 = true)
    (k62 : ¬ y0 < 0 → y0 ≤ 0 → ¬ x1 < 1 → x1 ≤ 3 → x1 = 2 → ¬ (s 60 0) < 0 → (s 60 0) < (s 60 1) → ∀ s66 : jg_H, s66 = jg_up s 61 (s 60 0).toNatClampNeg x1 → ∀ s67 : jg_H, s67 = jg_up s66 62 (s66 60 0).toNatClampNeg x2 → ∀ s68 : jg_H, s68 = jg_up s67 63 (s67 60 0).toNatClampNeg x3 → ∀ s69 : jg_H, s69 = jg_up s68 64 (s68 60 0).toNatClampNeg x4 → ∀ s70 : jg_H, s70 = jg_up s69 60 0 ((s69 60 0) + 1) → ∀ s71 : jg_H, s71 = jg_up s70 0 19 ((s70 0 19) + 1) → B (some (.int (s71 60 0))) s71)
    (k63 : ¬ y0 < 0 → y0 ≤ 0 → ¬ x1 < 1 → x1 ≤ 3 → x1 = 2 → ¬ (s 60 0) < 0 → ¬ (s 60 0) < (s 60 1) → ∀ s72 : jg_H, s72 = jg_up s 0 19 ((s 0 19) + 1) → B (some (.int (s72 60 0))) s72)
    (k64 : ¬ y0 < 0 → y0 ≤ 0 → ¬ x1 < 1 → x1 ≤ 3 → ¬ x1 = 2 → ¬ x1 = 3 → ¬ x1 = 6 → (s 60 0) < 0 → ∀ s73 : jg_H, s73 = jg_up s 0 19 ((s 0 19) + 1) → B (some (.int (s73 60 0))) s73)
    (k65 : ¬ y0 < 0 → y0 ≤ 0 → ¬ x1 < 1 → x1 ≤ 3 → ¬ x1 = 2 → ¬ x1 = 3 → ¬ x1 = 6 → ¬ (s 60 0) < 0 → (s 60 0) < (s 60 1) → jv_in (s 60 0) 8 = true)
    (k66 : ¬ y0 < 0 → y0 ≤ 0 → ¬ x1 < 1 → x1 ≤ 3 → ¬ x1 = 2 → ¬ x1 = 3 → ¬ x1 = 6 → ¬ (s 60 0) < 0 → (s 60 0) < (s 60 1) → ∀ s74 : jg_H, s74 = jg_up s 61 (s 60 0).toNatClampNeg x1 → jv_in (s74 60 0) 8 = true)
    (k67 : ¬ y0 < 0 → y0 ≤ 0 → ¬ x1 < 1 → x1 ≤ 3 → ¬ x1 = 2 → ¬ x1 = 3 → ¬ x1 = 6 → ¬ (s 60 0) < 0 → (s 60 0) < (s 60 1) → ∀ s74 : jg_H, s74 = jg_up s 61 (s 60 0).toNatClampNeg x1 → ∀ s75 : jg_H, s75 = jg_up s74 62 (s74 60 0).toNatClampNeg x2 → jv_in (s75 60 0) 8 = true)
    (k68 : ¬ y0 < 0 → y0 ≤ 0 → ¬ x1 < 1 → x1 ≤ 3 → ¬ x1 = 2 → ¬ x1 = 3 → ¬ x1 = 6 → ¬ (s 60 0) < 0 → (s 60 0) < (s 60 1) → ∀ s74 : jg_H, s74 = jg_up s 61 (s 60 0).toNatClampNeg x1 → ∀ s75 : jg_H, s75 = jg_up s74 62 (s74 60 0).toNatClampNeg x2 → ∀ s76 : jg_H, s76 = jg_up s75 63 (s75 60 0).toNatClampNeg x3 → jv_in (s76 60 0) 8 = true)
    (k69 : ¬ y0 < 0 → y0 ≤ 0 → ¬ x1 < 1 → x1 ≤ 3 → ¬ x1 = 2 → ¬ x1 = 3 → ¬ x1 = 6 → ¬ (s 60 0) < 0 → (s 60 0) < (s 60 1) → ∀ s74 : jg_H, s74 = jg_up s 61 (s 60 0).toNatClampNeg x1 → ∀ s75 : jg_H, s75 = jg_up s74 62 (s74 60 0).toNatClampNeg x2 → ∀ s76 : jg_H, s76 = jg_up s75 63 (s75 60 0).toNatClampNeg x3 → ∀ s77 : jg_H, s77 = jg_up s76 64 (s76 60 0).toNatClampNeg (-1) → ∀ s78 : jg_H, s78 = jg_up s77 60 0 ((s77 60 0) + 1) → ∀ s79 : jg_H, s79 = jg_up s78 0 19 ((s78 0 19) + 1) → B (some (.int (s79 60 0))) s79)
    (k70 : ¬ y0 < 0 → y0 ≤ 0 → ¬ x1 < 1 → x1 ≤ 3 → ¬ x1 = 2 → ¬ x1 = 3 → ¬ x1 = 6 → ¬ (s 60 0) < 0 → ¬ (s 60 0) < (s 60 1) → ∀ s80 : jg_H, s80 = jg_up s 0 19 ((s 0 19) + 1) → B (some (.int (s80 60 0))) s80)
    (k71 : ¬ y0 < 0 → y0 ≤ 0 → ¬ x1 < 1 → x1 ≤ 3 → ¬ x1 = 2 → ¬ x1 = 3 → x1 = 6 → (s 60 0) < 0 → ∀ s81 : jg_H, s81 = jg_up s 0 19 ((s 0 19) + 1) → B (some (.int (s81 60 0))) s81)
    (k72 : ¬ y0 < 0 → y0 ≤ 0 → ¬ x1 < 1 → x1 ≤ 3 → ¬ x1 = 2 → ¬ x1 = 3 → x1 = 6 → ¬ (s 60 0) < 0 → (s 60 0) < (s 60 1) → jv_in (s 60 0) 8 = true)
    (k73 : ¬ y0 < 0 → y0 ≤ 0 → ¬ x1 < 1 → x1 ≤ 3 → ¬ x1 = 2 → ¬ x1 = 3 → x1 = 6 → ¬ (s 60 0) < 0 → (s 60 0) < (s 60 1) → ∀ s82 : jg_H, s82 = jg_up s 61 (s 60 0).toNatClampNeg x1 → jv_in (s82 60 0) 8 = true)
    (k74 : ¬ y0 < 0 → y0 ≤ 0 → ¬ x1 < 1 → x1 ≤ 3 → ¬ x1 = 2 → ¬ x1 = 3 → x1 = 6 → ¬ (s 60 0) < 0 → (s 60 0) < (s 60 1) → ∀ s82 : jg_H, s82 = jg_up s 61 (s 60 0).toNatClampNeg x1 → ∀ s83 : jg_H, s83 = jg_up s82 62 (s82 60 0).toNatClampNeg x2 → jv_in (s83 60 0) 8 = true)
    (k75 : ¬ y0 < 0 → y0 ≤ 0 → ¬ x1 < 1 → x1 ≤ 3 → ¬ x1 = 2 → ¬ x1 = 3 → x1 = 6 → ¬ (s 60 0) < 0 → (s 60 0) < (s 60 1) → ∀ s82 : jg_H, s82 = jg_up s 61 (s 60 0).toNatClampNeg x1 → ∀ s83 : jg_H, s83 = jg_up s82 62 (s82 60 0).toNatClampNeg x2 → ∀ s84 : jg_H, s84 = jg_up s83 63 (s83 60 0).toNatClampNeg x3 → jv_in (s84 60 0) 8 = true)
    (k76 : ¬ y0 < 0 → y0 ≤ 0 → ¬ x1 < 1 → x1 ≤ 3 → ¬ x1 = 2 → ¬ x1 = 3 → x1 = 6 → ¬ (s 60 0) < 0 → (s 60 0) < (s 60 1) → ∀ s82 : jg_H, s82 = jg_up s 61 (s 60 0).toNatClampNeg x1 → ∀ s83 : jg_H, s83 = jg_up s82 62 (s82 60 0).toNatClampNeg x2 → ∀ s84 : jg_H, s84 = jg_up s83 63 (s83 60 0).toNatClampNeg x3 → ∀ s85 : jg_H, s85 = jg_up s84 64 (s84 60 0).toNatClampNeg x4 → ∀ s86 : jg_H, s86 = jg_up s85 60 0 ((s85 60 0) + 1) → ∀ s87 : jg_H, s87 = jg_up s86 0 19 ((s86 0 19) + 1) → B (some (.int (s87 60 0))) s87)
    (k77 : ¬ y0 < 0 → y0 ≤ 0 → ¬ x1 < 1 → x1 ≤ 3 → ¬ x1 = 2 → ¬ x1 = 3 → x1 = 6 → ¬ (s 60 0) < 0 → ¬ (s 60 0) < (s 60 1) → ∀ s88 : jg_H, s88 = jg_up s 0 19 ((s 0 19) + 1) → B (some (.int (s88 60 0))) s88)
    (k78 : ¬ y0 < 0 → y0 ≤ 0 → ¬ x1 < 1 → x1 ≤ 3 → ¬ x1 = 2 → x1 = 3 → (s 60 0) < 0 → ∀ s89 : jg_H, s89 = jg_up s 0 19 ((s 0 19) + 1) → B (some (.int (s89 60 0))) s89)
    (k79 : ¬ y0 < 0 → y0 ≤ 0 → ¬ x1 < 1 → x1 ≤ 3 → ¬ x1 = 2 → x1 = 3 → ¬ (s 60 0) < 0 → (s 60 0) < (s 60 1) → jv_in (s 60 0) 8 = true)
    (k80 : ¬ y0 < 0 → y0 ≤ 0 → ¬ x1 < 1 → x1 ≤ 3 → ¬ x1 = 2 → x1 = 3 → ¬ (s 60 0) < 0 → (s 60 0) < (s 60 1) → ∀ s90 : jg_H, s90 = jg_up s 61 (s 60 0).toNatClampNeg x1 → jv_in (s90 60 0) 8 = true)
    (k81 : ¬ y0 < 0 → y0 ≤ 0 → ¬ x1 < 1 → x1 ≤ 3 → ¬ x1 = 2 → x1 = 3 → ¬ (s 60 0) < 0 → (s 60 0) < (s 60 1) → ∀ s90 : jg_H, s90 = jg_up s 61 (s 60 0).toNatClampNeg x1 → ∀ s91 : jg_H, s91 = jg_up s90 62 (s90 60 0).toNatClampNeg x2 → jv_in (s91 60 0) 8 = true)
    (k82 : ¬ y0 < 0 → y0 ≤ 0 → ¬ x1 < 1 → x1 ≤ 3 → ¬ x1 = 2 → x1 = 3 → ¬ (s 60 0) < 0 → (s 60 0) < (s 60 1) → ∀ s90 : jg_H, s90 = jg_up s 61 (s 60 0).toNatClampNeg x1 → ∀ s91 : jg_H, s91 = jg_up s90 62 (s90 60 0).toNatClampNeg x2 → ∀ s92 : jg_H, s92 = jg_up s91 63 (s91 60 0).toNatClampNeg x3 → jv_in (s92 60 0) 8 = true)
    (k83 : ¬ y0 < 0 → y0 ≤ 0 → ¬ x1 < 1 → x1 ≤ 3 → ¬ x1 = 2 → x1 = 3 → ¬ (s 60 0) < 0 → (s 60 0) < (s 60 1) → ∀ s90 : jg_H, s90 = jg_up s 61 (s 60 0).toNatClampNeg x1 → ∀ s91 : jg_H, s91 = jg_up s90 62 (s90 60 0).toNatClampNeg x2 → ∀ s92 : jg_H, s92 = jg_up s91 63 (s91 60 0).toNatClampNeg x3 → ∀ s93 : jg_H, s93 = jg_up s92 64 (s92 60 0).toNatClampNeg x4 → ∀ s94 : jg_H, s94 = jg_up s93 60 0 ((s93 60 0) + 1) → ∀ s95 : jg_H, s95 = jg_up s94 0 19 ((s94 0 19) + 1) → B (some (.int (s95 60 0))) s95)
    (k84 : ¬ y0 < 0 → y0 ≤ 0 → ¬ x1 < 1 → x1 ≤ 3 → ¬ x1 = 2 → x1 = 3 → ¬ (s 60 0) < 0 → ¬ (s 60 0) < (s 60 1) → ∀ s96 : jg_H, s96 = jg_up s 0 19 ((s 0 19) + 1) → B (some (.int (s96 60 0))) s96)
    (k85 : ¬ y0 < 0 → ¬ y0 ≤ 0 → B (some (.int ((-20) - y0))) s)
    (k86 : y0 < 0 → B (some (.int y0)) s) :
    q_W G (d + 2) jm_C_act B 9 [some (.ref 0), some (.int x1), some (.int x2), some (.int x3), some (.int x4), none] [.int y0] s := by
  refine q_istore (pc' := 11) (ls' := [some (.ref 0), some (.int x1), some (.int x2), some (.int x3), some (.int x4), some (.int y0)]) ja_C_act_9 rfl ⟨Nat.le_of_ble_eq_true rfl, rfl⟩ rfl ?_
  refine q_iload (pc' := 13) ja_C_act_11 rfl rfl ?_
  refine q_if_ge (pc' := 16) ja_C_act_13 rfl ?_ ?_
  · intro h1
    refine q_iload (pc' := 21) ja_C_act_19 rfl rfl ?_
    refine q_if_le (pc' := 24) ja_C_act_21 rfl ?_ ?_
    · intro h2
      refine q_aload_n (pc' := 31) ja_C_act_30 rfl rfl ?_
      refine q_getf (pc' := 34) (v := .ref 60) ja_C_act_31 rfl (by decide) ⟨rfl, by decide⟩ rfl ?_
      refine q_iload_n (pc' := 35) ja_C_act_34 rfl rfl ?_
      refine q_iload_n (pc' := 36) ja_C_act_35 rfl rfl ?_
      refine q_iload_n (pc' := 37) ja_C_act_36 rfl rfl ?_
      refine q_stat (pc' := 40) (as := [.int x1]) (r := [.int x2, .int x1, .ref 60]) ja_C_act_37 rfl (by decide) rfl rfl ?_
      refine q_in (M := jm_C_isAmendment) rfl (Nat.le_of_ble_eq_true rfl) (ls := [some (.int x1)]) rfl ?_
      refine q_iload_n (pc' := 1) ja_C_isAmendment_0 rfl rfl ?_
      refine q_iconst (pc' := 2) ja_C_isAmendment_1 rfl 1 (by decide) ?_
      refine q_ic_lt (pc' := 5) ja_C_isAmendment_2 rfl ?_ ?_
      · intro h3
        refine q_iconst (pc' := 15) ja_C_isAmendment_14 rfl 0 (by decide) ?_
        refine q_iret ja_C_isAmendment_15 rfl (by decide) ?_
        show q_W _ _ _ _ 40 [some (.ref 0), some (.int x1), some (.int x2), some (.int x3), some (.int x4), some (.int y0)] [.int 0, .int x2, .int x1, .ref 60] s
        refine q_if_eq (pc' := 43) ja_C_act_40 rfl (fun _ => ?_) (fun h => absurd ((by decide : (0 : Int32) = 0)) h)
        refine q_iconst (pc' := 48) ja_C_act_47 rfl (-1) (by decide) ?_
        refine q_iload_n (pc' := 49) ja_C_act_48 rfl rfl ?_
        refine q_stat (pc' := 52) (as := [.int x1]) (r := [.int (-1), .int x2, .int x1, .ref 60]) ja_C_act_49 rfl (by decide) rfl rfl ?_
        refine q_in (M := jm_C_takesWord) rfl (Nat.le_of_ble_eq_true rfl) (ls := [some (.int x1)]) rfl ?_
        refine q_iload_n (pc' := 1) ja_C_takesWord_0 rfl rfl ?_
        refine q_iconst (pc' := 2) ja_C_takesWord_1 rfl 2 (by decide) ?_
        refine q_ic_eq (pc' := 5) ja_C_takesWord_2 rfl ?_ ?_
        · intro h4
          refine q_iconst (pc' := 11) ja_C_takesWord_10 rfl 1 (by decide) ?_
          refine q_goto ja_C_takesWord_11 ?_
          refine q_iret ja_C_takesWord_15 rfl (by decide) ?_
          show q_W _ _ _ _ 52 [some (.ref 0), some (.int x1), some (.int x2), some (.int x3), some (.int x4), some (.int y0)] [.int 1, .int (-1), .int x2, .int x1, .ref 60] s
          refine q_if_ne (pc' := 55) ja_C_act_52 rfl (fun _ => ?_) (fun h => absurd h ((by decide : ¬ (1 : Int32) = 0)))
          refine q_iload (pc' := 63) ja_C_act_61 rfl rfl ?_
          refine q_goto ja_C_act_63 ?_
          refine q_virt (pc' := 70) (c := 60) (as := [.int x1, .int x2, .int (-1), .int x4]) (r := []) ja_C_act_67 rfl rfl rfl (by decide) ⟨rfl, by decide⟩ ?_
          refine q_in (M := jm_Motions_push) rfl (Nat.le_of_ble_eq_true rfl) (ls := [some (.ref 60), some (.int x1), some (.int x2), some (.int (-1)), some (.int x4)]) rfl ?_
          refine q_aload_n (pc' := 1) ja_Motions_push_0 rfl rfl ?_
          refine q_getf (pc' := 4) (v := .int (s 60 0)) ja_Motions_push_1 rfl (by decide) ⟨rfl, by decide⟩ rfl ?_
          refine q_if_lt (pc' := 7) ja_Motions_push_4 rfl ?_ ?_
          · intro h5
            refine q_vret ja_Motions_push_14 rfl ?_
            show q_W _ _ _ _ 70 [some (.ref 0), some (.int x1), some (.int x2), some (.int x3), some (.int x4), some (.int y0)] [] s
            refine q_aload_n (pc' := 71) ja_C_act_70 rfl rfl ?_
            refine q_dup (pc' := 72) ja_C_act_71 rfl rfl ?_
            refine q_getf (pc' := 75) (v := .int (s 0 19)) ja_C_act_72 rfl (by decide) ⟨rfl, by decide⟩ rfl ?_
            refine q_iconst (pc' := 76) ja_C_act_75 rfl 1 (by decide) ?_
            refine q_iadd (pc' := 77) ja_C_act_76 rfl ?_
            refine q_putf (pc' := 80) ja_C_act_77 rfl (by decide) rfl rfl rfl ?_
            intro s1 e1
            refine q_aload_n (pc' := 81) ja_C_act_80 rfl rfl ?_
            refine q_getf (pc' := 84) (v := .ref 60) ja_C_act_81 rfl (by decide) ⟨rfl, by decide⟩ rfl ?_
            refine q_getf (pc' := 87) (v := .int (s1 60 0)) ja_C_act_84 rfl (by decide) ⟨rfl, by decide⟩ rfl ?_
            exact q_iret ja_C_act_87 rfl rfl (k1 h1 h2 h3 h4 h5 s1 e1)
          · intro h6
            refine q_aload_n (pc' := 8) ja_Motions_push_7 rfl rfl ?_
            refine q_virt (pc' := 11) (c := 60) (as := []) (r := []) ja_Motions_push_8 rfl rfl rfl (by decide) ⟨rfl, by decide⟩ ?_
            refine q_in (M := jm_Motions_isFull) rfl (Nat.le_of_ble_eq_true rfl) (ls := [some (.ref 60)]) rfl ?_
            refine q_aload_n (pc' := 1) ja_Motions_isFull_0 rfl rfl ?_
            refine q_getf (pc' := 4) (v := .int (s 60 0)) ja_Motions_isFull_1 rfl (by decide) ⟨rfl, by decide⟩ rfl ?_
            refine q_aload_n (pc' := 5) ja_Motions_isFull_4 rfl rfl ?_
            refine q_getf (pc' := 8) (v := .int (s 60 1)) ja_Motions_isFull_5 rfl (by decide) ⟨rfl, by decide⟩ rfl ?_
            refine q_ic_lt (pc' := 11) ja_Motions_isFull_8 rfl ?_ ?_
            · intro h7
              refine q_iconst (pc' := 16) ja_Motions_isFull_15 rfl 0 (by decide) ?_
              refine q_iret ja_Motions_isFull_16 rfl (by decide) ?_
              show q_W _ _ _ _ 11 [some (.ref 60), some (.int x1), some (.int x2), some (.int (-1)), some (.int x4)] [.int 0] s
              refine q_if_eq (pc' := 14) ja_Motions_push_11 rfl (fun _ => ?_) (fun h => absurd ((by decide : (0 : Int32) = 0)) h)
              refine q_aload_n (pc' := 16) ja_Motions_push_15 rfl rfl ?_
              refine q_getf (pc' := 19) (v := .ref 61) ja_Motions_push_16 rfl (by decide) ⟨rfl, by decide⟩ rfl ?_
              refine q_aload_n (pc' := 20) ja_Motions_push_19 rfl rfl ?_
              refine q_getf (pc' := 23) (v := .int (s 60 0)) ja_Motions_push_20 rfl (by decide) ⟨rfl, by decide⟩ rfl ?_
              refine q_iload_n (pc' := 24) ja_Motions_push_23 rfl rfl ?_
              refine q_iast (pc' := 25) ja_Motions_push_24 rfl (by decide) (l := 8) rfl (k2 h1 h2 h3 h4 h6 h7) ?_
              intro s2 e2
              refine q_aload_n (pc' := 26) ja_Motions_push_25 rfl rfl ?_
              refine q_getf (pc' := 29) (v := .ref 62) ja_Motions_push_26 rfl (by decide) ⟨rfl, by decide⟩ rfl ?_
              refine q_aload_n (pc' := 30) ja_Motions_push_29 rfl rfl ?_
              refine q_getf (pc' := 33) (v := .int (s2 60 0)) ja_Motions_push_30 rfl (by decide) ⟨rfl, by decide⟩ rfl ?_
              refine q_iload_n (pc' := 34) ja_Motions_push_33 rfl rfl ?_
              refine q_iast (pc' := 35) ja_Motions_push_34 rfl (by decide) (l := 8) rfl (k3 h1 h2 h3 h4 h6 h7 s2 e2) ?_
              intro s3 e3
              refine q_aload_n (pc' := 36) ja_Motions_push_35 rfl rfl ?_
              refine q_getf (pc' := 39) (v := .ref 63) ja_Motions_push_36 rfl (by decide) ⟨rfl, by decide⟩ rfl ?_
              refine q_aload_n (pc' := 40) ja_Motions_push_39 rfl rfl ?_
              refine q_getf (pc' := 43) (v := .int (s3 60 0)) ja_Motions_push_40 rfl (by decide) ⟨rfl, by decide⟩ rfl ?_
              refine q_iload_n (pc' := 44) ja_Motions_push_43 rfl rfl ?_
              refine q_iast (pc' := 45) ja_Motions_push_44 rfl (by decide) (l := 8) rfl (k4 h1 h2 h3 h4 h6 h7 s2 e2 s3 e3) ?_
              intro s4 e4
              refine q_aload_n (pc' := 46) ja_Motions_push_45 rfl rfl ?_
              refine q_getf (pc' := 49) (v := .ref 64) ja_Motions_push_46 rfl (by decide) ⟨rfl, by decide⟩ rfl ?_
              refine q_aload_n (pc' := 50) ja_Motions_push_49 rfl rfl ?_
              refine q_getf (pc' := 53) (v := .int (s4 60 0)) ja_Motions_push_50 rfl (by decide) ⟨rfl, by decide⟩ rfl ?_
              refine q_iload (pc' := 55) ja_Motions_push_53 rfl rfl ?_
              refine q_iast (pc' := 56) ja_Motions_push_55 rfl (by decide) (l := 8) rfl (k5 h1 h2 h3 h4 h6 h7 s2 e2 s3 e3 s4 e4) ?_
              intro s5 e5
              refine q_aload_n (pc' := 57) ja_Motions_push_56 rfl rfl ?_
              refine q_dup (pc' := 58) ja_Motions_push_57 rfl rfl ?_
              refine q_getf (pc' := 61) (v := .int (s5 60 0)) ja_Motions_push_58 rfl (by decide) ⟨rfl, by decide⟩ rfl ?_
              refine q_iconst (pc' := 62) ja_Motions_push_61 rfl 1 (by decide) ?_
              refine q_iadd (pc' := 63) ja_Motions_push_62 rfl ?_
              refine q_putf (pc' := 66) ja_Motions_push_63 rfl (by decide) rfl rfl rfl ?_
              intro s6 e6
              refine q_vret ja_Motions_push_66 rfl ?_
              show q_W _ _ _ _ 70 [some (.ref 0), some (.int x1), some (.int x2), some (.int x3), some (.int x4), some (.int y0)] [] s6
              refine q_aload_n (pc' := 71) ja_C_act_70 rfl rfl ?_
              refine q_dup (pc' := 72) ja_C_act_71 rfl rfl ?_
              refine q_getf (pc' := 75) (v := .int (s6 0 19)) ja_C_act_72 rfl (by decide) ⟨rfl, by decide⟩ rfl ?_
              refine q_iconst (pc' := 76) ja_C_act_75 rfl 1 (by decide) ?_
              refine q_iadd (pc' := 77) ja_C_act_76 rfl ?_
              refine q_putf (pc' := 80) ja_C_act_77 rfl (by decide) rfl rfl rfl ?_
              intro s7 e7
              refine q_aload_n (pc' := 81) ja_C_act_80 rfl rfl ?_
              refine q_getf (pc' := 84) (v := .ref 60) ja_C_act_81 rfl (by decide) ⟨rfl, by decide⟩ rfl ?_
              refine q_getf (pc' := 87) (v := .int (s7 60 0)) ja_C_act_84 rfl (by decide) ⟨rfl, by decide⟩ rfl ?_
              exact q_iret ja_C_act_87 rfl rfl (k6 h1 h2 h3 h4 h6 h7 s2 e2 s3 e3 s4 e4 s5 e5 s6 e6 s7 e7)
            · intro h8
              refine q_iconst (pc' := 12) ja_Motions_isFull_11 rfl 1 (by decide) ?_
              refine q_goto ja_Motions_isFull_12 ?_
              refine q_iret ja_Motions_isFull_16 rfl (by decide) ?_
              show q_W _ _ _ _ 11 [some (.ref 60), some (.int x1), some (.int x2), some (.int (-1)), some (.int x4)] [.int 1] s
              refine q_if_eq (pc' := 14) ja_Motions_push_11 rfl (fun h => absurd h ((by decide : ¬ (1 : Int32) = 0))) (fun _ => ?_)
              refine q_vret ja_Motions_push_14 rfl ?_
              show q_W _ _ _ _ 70 [some (.ref 0), some (.int x1), some (.int x2), some (.int x3), some (.int x4), some (.int y0)] [] s
              refine q_aload_n (pc' := 71) ja_C_act_70 rfl rfl ?_
              refine q_dup (pc' := 72) ja_C_act_71 rfl rfl ?_
              refine q_getf (pc' := 75) (v := .int (s 0 19)) ja_C_act_72 rfl (by decide) ⟨rfl, by decide⟩ rfl ?_
              refine q_iconst (pc' := 76) ja_C_act_75 rfl 1 (by decide) ?_
              refine q_iadd (pc' := 77) ja_C_act_76 rfl ?_
              refine q_putf (pc' := 80) ja_C_act_77 rfl (by decide) rfl rfl rfl ?_
              intro s8 e8
              refine q_aload_n (pc' := 81) ja_C_act_80 rfl rfl ?_
              refine q_getf (pc' := 84) (v := .ref 60) ja_C_act_81 rfl (by decide) ⟨rfl, by decide⟩ rfl ?_
              refine q_getf (pc' := 87) (v := .int (s8 60 0)) ja_C_act_84 rfl (by decide) ⟨rfl, by decide⟩ rfl ?_
              exact q_iret ja_C_act_87 rfl rfl (k7 h1 h2 h3 h4 h6 h8 s8 e8)
        · intro h9
          refine q_iload_n (pc' := 6) ja_C_takesWord_5 rfl rfl ?_
          refine q_iconst (pc' := 7) ja_C_takesWord_6 rfl 3 (by decide) ?_
          refine q_ic_ne (pc' := 10) ja_C_takesWord_7 rfl ?_ ?_
          · intro h10
            refine q_iconst (pc' := 15) ja_C_takesWord_14 rfl 0 (by decide) ?_
            refine q_iret ja_C_takesWord_15 rfl (by decide) ?_
            show q_W _ _ _ _ 52 [some (.ref 0), some (.int x1), some (.int x2), some (.int x3), some (.int x4), some (.int y0)] [.int 0, .int (-1), .int x2, .int x1, .ref 60] s
            refine q_if_ne (pc' := 55) ja_C_act_52 rfl (fun h => absurd ((by decide : (0 : Int32) = 0)) h) (fun _ => ?_)
            refine q_iload_n (pc' := 56) ja_C_act_55 rfl rfl ?_
            refine q_bipush (pc' := 58) ja_C_act_56 rfl 6 (by decide) ?_
            refine q_ic_ne (pc' := 61) ja_C_act_58 rfl ?_ ?_
            · intro h11
              refine q_iconst (pc' := 67) ja_C_act_66 rfl (-1) (by decide) ?_
              refine q_virt (pc' := 70) (c := 60) (as := [.int x1, .int x2, .int (-1), .int (-1)]) (r := []) ja_C_act_67 rfl rfl rfl (by decide) ⟨rfl, by decide⟩ ?_
              refine q_in (M := jm_Motions_push) rfl (Nat.le_of_ble_eq_true rfl) (ls := [some (.ref 60), some (.int x1), some (.int x2), some (.int (-1)), some (.int (-1))]) rfl ?_
              refine q_aload_n (pc' := 1) ja_Motions_push_0 rfl rfl ?_
              refine q_getf (pc' := 4) (v := .int (s 60 0)) ja_Motions_push_1 rfl (by decide) ⟨rfl, by decide⟩ rfl ?_
              refine q_if_lt (pc' := 7) ja_Motions_push_4 rfl ?_ ?_
              · intro h12
                refine q_vret ja_Motions_push_14 rfl ?_
                show q_W _ _ _ _ 70 [some (.ref 0), some (.int x1), some (.int x2), some (.int x3), some (.int x4), some (.int y0)] [] s
                refine q_aload_n (pc' := 71) ja_C_act_70 rfl rfl ?_
                refine q_dup (pc' := 72) ja_C_act_71 rfl rfl ?_
                refine q_getf (pc' := 75) (v := .int (s 0 19)) ja_C_act_72 rfl (by decide) ⟨rfl, by decide⟩ rfl ?_
                refine q_iconst (pc' := 76) ja_C_act_75 rfl 1 (by decide) ?_
                refine q_iadd (pc' := 77) ja_C_act_76 rfl ?_
                refine q_putf (pc' := 80) ja_C_act_77 rfl (by decide) rfl rfl rfl ?_
                intro s9 e9
                refine q_aload_n (pc' := 81) ja_C_act_80 rfl rfl ?_
                refine q_getf (pc' := 84) (v := .ref 60) ja_C_act_81 rfl (by decide) ⟨rfl, by decide⟩ rfl ?_
                refine q_getf (pc' := 87) (v := .int (s9 60 0)) ja_C_act_84 rfl (by decide) ⟨rfl, by decide⟩ rfl ?_
                exact q_iret ja_C_act_87 rfl rfl (k8 h1 h2 h3 h9 h10 h11 h12 s9 e9)
              · intro h13
                refine q_aload_n (pc' := 8) ja_Motions_push_7 rfl rfl ?_
                refine q_virt (pc' := 11) (c := 60) (as := []) (r := []) ja_Motions_push_8 rfl rfl rfl (by decide) ⟨rfl, by decide⟩ ?_
                refine q_in (M := jm_Motions_isFull) rfl (Nat.le_of_ble_eq_true rfl) (ls := [some (.ref 60)]) rfl ?_
                refine q_aload_n (pc' := 1) ja_Motions_isFull_0 rfl rfl ?_
                refine q_getf (pc' := 4) (v := .int (s 60 0)) ja_Motions_isFull_1 rfl (by decide) ⟨rfl, by decide⟩ rfl ?_
                refine q_aload_n (pc' := 5) ja_Motions_isFull_4 rfl rfl ?_
                refine q_getf (pc' := 8) (v := .int (s 60 1)) ja_Motions_isFull_5 rfl (by decide) ⟨rfl, by decide⟩ rfl ?_
                refine q_ic_lt (pc' := 11) ja_Motions_isFull_8 rfl ?_ ?_
                · intro h14
                  refine q_iconst (pc' := 16) ja_Motions_isFull_15 rfl 0 (by decide) ?_
                  refine q_iret ja_Motions_isFull_16 rfl (by decide) ?_
                  show q_W _ _ _ _ 11 [some (.ref 60), some (.int x1), some (.int x2), some (.int (-1)), some (.int (-1))] [.int 0] s
                  refine q_if_eq (pc' := 14) ja_Motions_push_11 rfl (fun _ => ?_) (fun h => absurd ((by decide : (0 : Int32) = 0)) h)
                  refine q_aload_n (pc' := 16) ja_Motions_push_15 rfl rfl ?_
                  refine q_getf (pc' := 19) (v := .ref 61) ja_Motions_push_16 rfl (by decide) ⟨rfl, by decide⟩ rfl ?_
                  refine q_aload_n (pc' := 20) ja_Motions_push_19 rfl rfl ?_
                  refine q_getf (pc' := 23) (v := .int (s 60 0)) ja_Motions_push_20 rfl (by decide) ⟨rfl, by decide⟩ rfl ?_
                  refine q_iload_n (pc' := 24) ja_Motions_push_23 rfl rfl ?_
                  refine q_iast (pc' := 25) ja_Motions_push_24 rfl (by decide) (l := 8) rfl (k9 h1 h2 h3 h9 h10 h11 h13 h14) ?_
                  intro s10 e10
                  refine q_aload_n (pc' := 26) ja_Motions_push_25 rfl rfl ?_
                  refine q_getf (pc' := 29) (v := .ref 62) ja_Motions_push_26 rfl (by decide) ⟨rfl, by decide⟩ rfl ?_
                  refine q_aload_n (pc' := 30) ja_Motions_push_29 rfl rfl ?_
                  refine q_getf (pc' := 33) (v := .int (s10 60 0)) ja_Motions_push_30 rfl (by decide) ⟨rfl, by decide⟩ rfl ?_
                  refine q_iload_n (pc' := 34) ja_Motions_push_33 rfl rfl ?_
                  refine q_iast (pc' := 35) ja_Motions_push_34 rfl (by decide) (l := 8) rfl (k10 h1 h2 h3 h9 h10 h11 h13 h14 s10 e10) ?_
                  intro s11 e11
                  refine q_aload_n (pc' := 36) ja_Motions_push_35 rfl rfl ?_
                  refine q_getf (pc' := 39) (v := .ref 63) ja_Motions_push_36 rfl (by decide) ⟨rfl, by decide⟩ rfl ?_
                  refine q_aload_n (pc' := 40) ja_Motions_push_39 rfl rfl ?_
                  refine q_getf (pc' := 43) (v := .int (s11 60 0)) ja_Motions_push_40 rfl (by decide) ⟨rfl, by decide⟩ rfl ?_
                  refine q_iload_n (pc' := 44) ja_Motions_push_43 rfl rfl ?_
                  refine q_iast (pc' := 45) ja_Motions_push_44 rfl (by decide) (l := 8) rfl (k11 h1 h2 h3 h9 h10 h11 h13 h14 s10 e10 s11 e11) ?_
                  intro s12 e12
                  refine q_aload_n (pc' := 46) ja_Motions_push_45 rfl rfl ?_
                  refine q_getf (pc' := 49) (v := .ref 64) ja_Motions_push_46 rfl (by decide) ⟨rfl, by decide⟩ rfl ?_
                  refine q_aload_n (pc' := 50) ja_Motions_push_49 rfl rfl ?_
                  refine q_getf (pc' := 53) (v := .int (s12 60 0)) ja_Motions_push_50 rfl (by decide) ⟨rfl, by decide⟩ rfl ?_
                  refine q_iload (pc' := 55) ja_Motions_push_53 rfl rfl ?_
                  refine q_iast (pc' := 56) ja_Motions_push_55 rfl (by decide) (l := 8) rfl (k12 h1 h2 h3 h9 h10 h11 h13 h14 s10 e10 s11 e11 s12 e12) ?_
                  intro s13 e13
                  refine q_aload_n (pc' := 57) ja_Motions_push_56 rfl rfl ?_
                  refine q_dup (pc' := 58) ja_Motions_push_57 rfl rfl ?_
                  refine q_getf (pc' := 61) (v := .int (s13 60 0)) ja_Motions_push_58 rfl (by decide) ⟨rfl, by decide⟩ rfl ?_
                  refine q_iconst (pc' := 62) ja_Motions_push_61 rfl 1 (by decide) ?_
                  refine q_iadd (pc' := 63) ja_Motions_push_62 rfl ?_
                  refine q_putf (pc' := 66) ja_Motions_push_63 rfl (by decide) rfl rfl rfl ?_
                  intro s14 e14
                  refine q_vret ja_Motions_push_66 rfl ?_
                  show q_W _ _ _ _ 70 [some (.ref 0), some (.int x1), some (.int x2), some (.int x3), some (.int x4), some (.int y0)] [] s14
                  refine q_aload_n (pc' := 71) ja_C_act_70 rfl rfl ?_
                  refine q_dup (pc' := 72) ja_C_act_71 rfl rfl ?_
                  refine q_getf (pc' := 75) (v := .int (s14 0 19)) ja_C_act_72 rfl (by decide) ⟨rfl, by decide⟩ rfl ?_
                  refine q_iconst (pc' := 76) ja_C_act_75 rfl 1 (by decide) ?_
                  refine q_iadd (pc' := 77) ja_C_act_76 rfl ?_
                  refine q_putf (pc' := 80) ja_C_act_77 rfl (by decide) rfl rfl rfl ?_
                  intro s15 e15
                  refine q_aload_n (pc' := 81) ja_C_act_80 rfl rfl ?_
                  refine q_getf (pc' := 84) (v := .ref 60) ja_C_act_81 rfl (by decide) ⟨rfl, by decide⟩ rfl ?_
                  refine q_getf (pc' := 87) (v := .int (s15 60 0)) ja_C_act_84 rfl (by decide) ⟨rfl, by decide⟩ rfl ?_
                  exact q_iret ja_C_act_87 rfl rfl (k13 h1 h2 h3 h9 h10 h11 h13 h14 s10 e10 s11 e11 s12 e12 s13 e13 s14 e14 s15 e15)
                · intro h15
                  refine q_iconst (pc' := 12) ja_Motions_isFull_11 rfl 1 (by decide) ?_
                  refine q_goto ja_Motions_isFull_12 ?_
                  refine q_iret ja_Motions_isFull_16 rfl (by decide) ?_
                  show q_W _ _ _ _ 11 [some (.ref 60), some (.int x1), some (.int x2), some (.int (-1)), some (.int (-1))] [.int 1] s
                  refine q_if_eq (pc' := 14) ja_Motions_push_11 rfl (fun h => absurd h ((by decide : ¬ (1 : Int32) = 0))) (fun _ => ?_)
                  refine q_vret ja_Motions_push_14 rfl ?_
                  show q_W _ _ _ _ 70 [some (.ref 0), some (.int x1), some (.int x2), some (.int x3), some (.int x4), some (.int y0)] [] s
                  refine q_aload_n (pc' := 71) ja_C_act_70 rfl rfl ?_
                  refine q_dup (pc' := 72) ja_C_act_71 rfl rfl ?_
                  refine q_getf (pc' := 75) (v := .int (s 0 19)) ja_C_act_72 rfl (by decide) ⟨rfl, by decide⟩ rfl ?_
                  refine q_iconst (pc' := 76) ja_C_act_75 rfl 1 (by decide) ?_
                  refine q_iadd (pc' := 77) ja_C_act_76 rfl ?_
                  refine q_putf (pc' := 80) ja_C_act_77 rfl (by decide) rfl rfl rfl ?_
                  intro s16 e16
                  refine q_aload_n (pc' := 81) ja_C_act_80 rfl rfl ?_
                  refine q_getf (pc' := 84) (v := .ref 60) ja_C_act_81 rfl (by decide) ⟨rfl, by decide⟩ rfl ?_
                  refine q_getf (pc' := 87) (v := .int (s16 60 0)) ja_C_act_84 rfl (by decide) ⟨rfl, by decide⟩ rfl ?_
                  exact q_iret ja_C_act_87 rfl rfl (k14 h1 h2 h3 h9 h10 h11 h13 h15 s16 e16)
            · intro h16
              refine q_iload (pc' := 63) ja_C_act_61 rfl rfl ?_
              refine q_goto ja_C_act_63 ?_
              refine q_virt (pc' := 70) (c := 60) (as := [.int x1, .int x2, .int (-1), .int x4]) (r := []) ja_C_act_67 rfl rfl rfl (by decide) ⟨rfl, by decide⟩ ?_
              refine q_in (M := jm_Motions_push) rfl (Nat.le_of_ble_eq_true rfl) (ls := [some (.ref 60), some (.int x1), some (.int x2), some (.int (-1)), some (.int x4)]) rfl ?_
              refine q_aload_n (pc' := 1) ja_Motions_push_0 rfl rfl ?_
              refine q_getf (pc' := 4) (v := .int (s 60 0)) ja_Motions_push_1 rfl (by decide) ⟨rfl, by decide⟩ rfl ?_
              refine q_if_lt (pc' := 7) ja_Motions_push_4 rfl ?_ ?_
              · intro h17
                refine q_vret ja_Motions_push_14 rfl ?_
                show q_W _ _ _ _ 70 [some (.ref 0), some (.int x1), some (.int x2), some (.int x3), some (.int x4), some (.int y0)] [] s
                refine q_aload_n (pc' := 71) ja_C_act_70 rfl rfl ?_
                refine q_dup (pc' := 72) ja_C_act_71 rfl rfl ?_
                refine q_getf (pc' := 75) (v := .int (s 0 19)) ja_C_act_72 rfl (by decide) ⟨rfl, by decide⟩ rfl ?_
                refine q_iconst (pc' := 76) ja_C_act_75 rfl 1 (by decide) ?_
                refine q_iadd (pc' := 77) ja_C_act_76 rfl ?_
                refine q_putf (pc' := 80) ja_C_act_77 rfl (by decide) rfl rfl rfl ?_
                intro s17 e17
                refine q_aload_n (pc' := 81) ja_C_act_80 rfl rfl ?_
                refine q_getf (pc' := 84) (v := .ref 60) ja_C_act_81 rfl (by decide) ⟨rfl, by decide⟩ rfl ?_
                refine q_getf (pc' := 87) (v := .int (s17 60 0)) ja_C_act_84 rfl (by decide) ⟨rfl, by decide⟩ rfl ?_
                exact q_iret ja_C_act_87 rfl rfl (k15 h1 h2 h3 h9 h10 h16 h17 s17 e17)
              · intro h18
                refine q_aload_n (pc' := 8) ja_Motions_push_7 rfl rfl ?_
                refine q_virt (pc' := 11) (c := 60) (as := []) (r := []) ja_Motions_push_8 rfl rfl rfl (by decide) ⟨rfl, by decide⟩ ?_
                refine q_in (M := jm_Motions_isFull) rfl (Nat.le_of_ble_eq_true rfl) (ls := [some (.ref 60)]) rfl ?_
                refine q_aload_n (pc' := 1) ja_Motions_isFull_0 rfl rfl ?_
                refine q_getf (pc' := 4) (v := .int (s 60 0)) ja_Motions_isFull_1 rfl (by decide) ⟨rfl, by decide⟩ rfl ?_
                refine q_aload_n (pc' := 5) ja_Motions_isFull_4 rfl rfl ?_
                refine q_getf (pc' := 8) (v := .int (s 60 1)) ja_Motions_isFull_5 rfl (by decide) ⟨rfl, by decide⟩ rfl ?_
                refine q_ic_lt (pc' := 11) ja_Motions_isFull_8 rfl ?_ ?_
                · intro h19
                  refine q_iconst (pc' := 16) ja_Motions_isFull_15 rfl 0 (by decide) ?_
                  refine q_iret ja_Motions_isFull_16 rfl (by decide) ?_
                  show q_W _ _ _ _ 11 [some (.ref 60), some (.int x1), some (.int x2), some (.int (-1)), some (.int x4)] [.int 0] s
                  refine q_if_eq (pc' := 14) ja_Motions_push_11 rfl (fun _ => ?_) (fun h => absurd ((by decide : (0 : Int32) = 0)) h)
                  refine q_aload_n (pc' := 16) ja_Motions_push_15 rfl rfl ?_
                  refine q_getf (pc' := 19) (v := .ref 61) ja_Motions_push_16 rfl (by decide) ⟨rfl, by decide⟩ rfl ?_
                  refine q_aload_n (pc' := 20) ja_Motions_push_19 rfl rfl ?_
                  refine q_getf (pc' := 23) (v := .int (s 60 0)) ja_Motions_push_20 rfl (by decide) ⟨rfl, by decide⟩ rfl ?_
                  refine q_iload_n (pc' := 24) ja_Motions_push_23 rfl rfl ?_
                  refine q_iast (pc' := 25) ja_Motions_push_24 rfl (by decide) (l := 8) rfl (k16 h1 h2 h3 h9 h10 h16 h18 h19) ?_
                  intro s18 e18
                  refine q_aload_n (pc' := 26) ja_Motions_push_25 rfl rfl ?_
                  refine q_getf (pc' := 29) (v := .ref 62) ja_Motions_push_26 rfl (by decide) ⟨rfl, by decide⟩ rfl ?_
                  refine q_aload_n (pc' := 30) ja_Motions_push_29 rfl rfl ?_
                  refine q_getf (pc' := 33) (v := .int (s18 60 0)) ja_Motions_push_30 rfl (by decide) ⟨rfl, by decide⟩ rfl ?_
                  refine q_iload_n (pc' := 34) ja_Motions_push_33 rfl rfl ?_
                  refine q_iast (pc' := 35) ja_Motions_push_34 rfl (by decide) (l := 8) rfl (k17 h1 h2 h3 h9 h10 h16 h18 h19 s18 e18) ?_
                  intro s19 e19
                  refine q_aload_n (pc' := 36) ja_Motions_push_35 rfl rfl ?_
                  refine q_getf (pc' := 39) (v := .ref 63) ja_Motions_push_36 rfl (by decide) ⟨rfl, by decide⟩ rfl ?_
                  refine q_aload_n (pc' := 40) ja_Motions_push_39 rfl rfl ?_
                  refine q_getf (pc' := 43) (v := .int (s19 60 0)) ja_Motions_push_40 rfl (by decide) ⟨rfl, by decide⟩ rfl ?_
                  refine q_iload_n (pc' := 44) ja_Motions_push_43 rfl rfl ?_
                  refine q_iast (pc' := 45) ja_Motions_push_44 rfl (by decide) (l := 8) rfl (k18 h1 h2 h3 h9 h10 h16 h18 h19 s18 e18 s19 e19) ?_
                  intro s20 e20
                  refine q_aload_n (pc' := 46) ja_Motions_push_45 rfl rfl ?_
                  refine q_getf (pc' := 49) (v := .ref 64) ja_Motions_push_46 rfl (by decide) ⟨rfl, by decide⟩ rfl ?_
                  refine q_aload_n (pc' := 50) ja_Motions_push_49 rfl rfl ?_
                  refine q_getf (pc' := 53) (v := .int (s20 60 0)) ja_Motions_push_50 rfl (by decide) ⟨rfl, by decide⟩ rfl ?_
                  refine q_iload (pc' := 55) ja_Motions_push_53 rfl rfl ?_
                  refine q_iast (pc' := 56) ja_Motions_push_55 rfl (by decide) (l := 8) rfl (k19 h1 h2 h3 h9 h10 h16 h18 h19 s18 e18 s19 e19 s20 e20) ?_
                  intro s21 e21
                  refine q_aload_n (pc' := 57) ja_Motions_push_56 rfl rfl ?_
                  refine q_dup (pc' := 58) ja_Motions_push_57 rfl rfl ?_
                  refine q_getf (pc' := 61) (v := .int (s21 60 0)) ja_Motions_push_58 rfl (by decide) ⟨rfl, by decide⟩ rfl ?_
                  refine q_iconst (pc' := 62) ja_Motions_push_61 rfl 1 (by decide) ?_
                  refine q_iadd (pc' := 63) ja_Motions_push_62 rfl ?_
                  refine q_putf (pc' := 66) ja_Motions_push_63 rfl (by decide) rfl rfl rfl ?_
                  intro s22 e22
                  refine q_vret ja_Motions_push_66 rfl ?_
                  show q_W _ _ _ _ 70 [some (.ref 0), some (.int x1), some (.int x2), some (.int x3), some (.int x4), some (.int y0)] [] s22
                  refine q_aload_n (pc' := 71) ja_C_act_70 rfl rfl ?_
                  refine q_dup (pc' := 72) ja_C_act_71 rfl rfl ?_
                  refine q_getf (pc' := 75) (v := .int (s22 0 19)) ja_C_act_72 rfl (by decide) ⟨rfl, by decide⟩ rfl ?_
                  refine q_iconst (pc' := 76) ja_C_act_75 rfl 1 (by decide) ?_
                  refine q_iadd (pc' := 77) ja_C_act_76 rfl ?_
                  refine q_putf (pc' := 80) ja_C_act_77 rfl (by decide) rfl rfl rfl ?_
                  intro s23 e23
                  refine q_aload_n (pc' := 81) ja_C_act_80 rfl rfl ?_
                  refine q_getf (pc' := 84) (v := .ref 60) ja_C_act_81 rfl (by decide) ⟨rfl, by decide⟩ rfl ?_
                  refine q_getf (pc' := 87) (v := .int (s23 60 0)) ja_C_act_84 rfl (by decide) ⟨rfl, by decide⟩ rfl ?_
                  exact q_iret ja_C_act_87 rfl rfl (k20 h1 h2 h3 h9 h10 h16 h18 h19 s18 e18 s19 e19 s20 e20 s21 e21 s22 e22 s23 e23)
                · intro h20
                  refine q_iconst (pc' := 12) ja_Motions_isFull_11 rfl 1 (by decide) ?_
                  refine q_goto ja_Motions_isFull_12 ?_
                  refine q_iret ja_Motions_isFull_16 rfl (by decide) ?_
                  show q_W _ _ _ _ 11 [some (.ref 60), some (.int x1), some (.int x2), some (.int (-1)), some (.int x4)] [.int 1] s
                  refine q_if_eq (pc' := 14) ja_Motions_push_11 rfl (fun h => absurd h ((by decide : ¬ (1 : Int32) = 0))) (fun _ => ?_)
                  refine q_vret ja_Motions_push_14 rfl ?_
                  show q_W _ _ _ _ 70 [some (.ref 0), some (.int x1), some (.int x2), some (.int x3), some (.int x4), some (.int y0)] [] s
                  refine q_aload_n (pc' := 71) ja_C_act_70 rfl rfl ?_
                  refine q_dup (pc' := 72) ja_C_act_71 rfl rfl ?_
                  refine q_getf (pc' := 75) (v := .int (s 0 19)) ja_C_act_72 rfl (by decide) ⟨rfl, by decide⟩ rfl ?_
                  refine q_iconst (pc' := 76) ja_C_act_75 rfl 1 (by decide) ?_
                  refine q_iadd (pc' := 77) ja_C_act_76 rfl ?_
                  refine q_putf (pc' := 80) ja_C_act_77 rfl (by decide) rfl rfl rfl ?_
                  intro s24 e24
                  refine q_aload_n (pc' := 81) ja_C_act_80 rfl rfl ?_
                  refine q_getf (pc' := 84) (v := .ref 60) ja_C_act_81 rfl (by decide) ⟨rfl, by decide⟩ rfl ?_
                  refine q_getf (pc' := 87) (v := .int (s24 60 0)) ja_C_act_84 rfl (by decide) ⟨rfl, by decide⟩ rfl ?_
                  exact q_iret ja_C_act_87 rfl rfl (k21 h1 h2 h3 h9 h10 h16 h18 h20 s24 e24)
          · intro h21
            refine q_iconst (pc' := 11) ja_C_takesWord_10 rfl 1 (by decide) ?_
            refine q_goto ja_C_takesWord_11 ?_
            refine q_iret ja_C_takesWord_15 rfl (by decide) ?_
            show q_W _ _ _ _ 52 [some (.ref 0), some (.int x1), some (.int x2), some (.int x3), some (.int x4), some (.int y0)] [.int 1, .int (-1), .int x2, .int x1, .ref 60] s
            refine q_if_ne (pc' := 55) ja_C_act_52 rfl (fun _ => ?_) (fun h => absurd h ((by decide : ¬ (1 : Int32) = 0)))
            refine q_iload (pc' := 63) ja_C_act_61 rfl rfl ?_
            refine q_goto ja_C_act_63 ?_
            refine q_virt (pc' := 70) (c := 60) (as := [.int x1, .int x2, .int (-1), .int x4]) (r := []) ja_C_act_67 rfl rfl rfl (by decide) ⟨rfl, by decide⟩ ?_
            refine q_in (M := jm_Motions_push) rfl (Nat.le_of_ble_eq_true rfl) (ls := [some (.ref 60), some (.int x1), some (.int x2), some (.int (-1)), some (.int x4)]) rfl ?_
            refine q_aload_n (pc' := 1) ja_Motions_push_0 rfl rfl ?_
            refine q_getf (pc' := 4) (v := .int (s 60 0)) ja_Motions_push_1 rfl (by decide) ⟨rfl, by decide⟩ rfl ?_
            refine q_if_lt (pc' := 7) ja_Motions_push_4 rfl ?_ ?_
            · intro h22
              refine q_vret ja_Motions_push_14 rfl ?_
              show q_W _ _ _ _ 70 [some (.ref 0), some (.int x1), some (.int x2), some (.int x3), some (.int x4), some (.int y0)] [] s
              refine q_aload_n (pc' := 71) ja_C_act_70 rfl rfl ?_
              refine q_dup (pc' := 72) ja_C_act_71 rfl rfl ?_
              refine q_getf (pc' := 75) (v := .int (s 0 19)) ja_C_act_72 rfl (by decide) ⟨rfl, by decide⟩ rfl ?_
              refine q_iconst (pc' := 76) ja_C_act_75 rfl 1 (by decide) ?_
              refine q_iadd (pc' := 77) ja_C_act_76 rfl ?_
              refine q_putf (pc' := 80) ja_C_act_77 rfl (by decide) rfl rfl rfl ?_
              intro s25 e25
              refine q_aload_n (pc' := 81) ja_C_act_80 rfl rfl ?_
              refine q_getf (pc' := 84) (v := .ref 60) ja_C_act_81 rfl (by decide) ⟨rfl, by decide⟩ rfl ?_
              refine q_getf (pc' := 87) (v := .int (s25 60 0)) ja_C_act_84 rfl (by decide) ⟨rfl, by decide⟩ rfl ?_
              exact q_iret ja_C_act_87 rfl rfl (k22 h1 h2 h3 h9 h21 h22 s25 e25)
            · intro h23
              refine q_aload_n (pc' := 8) ja_Motions_push_7 rfl rfl ?_
              refine q_virt (pc' := 11) (c := 60) (as := []) (r := []) ja_Motions_push_8 rfl rfl rfl (by decide) ⟨rfl, by decide⟩ ?_
              refine q_in (M := jm_Motions_isFull) rfl (Nat.le_of_ble_eq_true rfl) (ls := [some (.ref 60)]) rfl ?_
              refine q_aload_n (pc' := 1) ja_Motions_isFull_0 rfl rfl ?_
              refine q_getf (pc' := 4) (v := .int (s 60 0)) ja_Motions_isFull_1 rfl (by decide) ⟨rfl, by decide⟩ rfl ?_
              refine q_aload_n (pc' := 5) ja_Motions_isFull_4 rfl rfl ?_
              refine q_getf (pc' := 8) (v := .int (s 60 1)) ja_Motions_isFull_5 rfl (by decide) ⟨rfl, by decide⟩ rfl ?_
              refine q_ic_lt (pc' := 11) ja_Motions_isFull_8 rfl ?_ ?_
              · intro h24
                refine q_iconst (pc' := 16) ja_Motions_isFull_15 rfl 0 (by decide) ?_
                refine q_iret ja_Motions_isFull_16 rfl (by decide) ?_
                show q_W _ _ _ _ 11 [some (.ref 60), some (.int x1), some (.int x2), some (.int (-1)), some (.int x4)] [.int 0] s
                refine q_if_eq (pc' := 14) ja_Motions_push_11 rfl (fun _ => ?_) (fun h => absurd ((by decide : (0 : Int32) = 0)) h)
                refine q_aload_n (pc' := 16) ja_Motions_push_15 rfl rfl ?_
                refine q_getf (pc' := 19) (v := .ref 61) ja_Motions_push_16 rfl (by decide) ⟨rfl, by decide⟩ rfl ?_
                refine q_aload_n (pc' := 20) ja_Motions_push_19 rfl rfl ?_
                refine q_getf (pc' := 23) (v := .int (s 60 0)) ja_Motions_push_20 rfl (by decide) ⟨rfl, by decide⟩ rfl ?_
                refine q_iload_n (pc' := 24) ja_Motions_push_23 rfl rfl ?_
                refine q_iast (pc' := 25) ja_Motions_push_24 rfl (by decide) (l := 8) rfl (k23 h1 h2 h3 h9 h21 h23 h24) ?_
                intro s26 e26
                refine q_aload_n (pc' := 26) ja_Motions_push_25 rfl rfl ?_
                refine q_getf (pc' := 29) (v := .ref 62) ja_Motions_push_26 rfl (by decide) ⟨rfl, by decide⟩ rfl ?_
                refine q_aload_n (pc' := 30) ja_Motions_push_29 rfl rfl ?_
                refine q_getf (pc' := 33) (v := .int (s26 60 0)) ja_Motions_push_30 rfl (by decide) ⟨rfl, by decide⟩ rfl ?_
                refine q_iload_n (pc' := 34) ja_Motions_push_33 rfl rfl ?_
                refine q_iast (pc' := 35) ja_Motions_push_34 rfl (by decide) (l := 8) rfl (k24 h1 h2 h3 h9 h21 h23 h24 s26 e26) ?_
                intro s27 e27
                refine q_aload_n (pc' := 36) ja_Motions_push_35 rfl rfl ?_
                refine q_getf (pc' := 39) (v := .ref 63) ja_Motions_push_36 rfl (by decide) ⟨rfl, by decide⟩ rfl ?_
                refine q_aload_n (pc' := 40) ja_Motions_push_39 rfl rfl ?_
                refine q_getf (pc' := 43) (v := .int (s27 60 0)) ja_Motions_push_40 rfl (by decide) ⟨rfl, by decide⟩ rfl ?_
                refine q_iload_n (pc' := 44) ja_Motions_push_43 rfl rfl ?_
                refine q_iast (pc' := 45) ja_Motions_push_44 rfl (by decide) (l := 8) rfl (k25 h1 h2 h3 h9 h21 h23 h24 s26 e26 s27 e27) ?_
                intro s28 e28
                refine q_aload_n (pc' := 46) ja_Motions_push_45 rfl rfl ?_
                refine q_getf (pc' := 49) (v := .ref 64) ja_Motions_push_46 rfl (by decide) ⟨rfl, by decide⟩ rfl ?_
                refine q_aload_n (pc' := 50) ja_Motions_push_49 rfl rfl ?_
                refine q_getf (pc' := 53) (v := .int (s28 60 0)) ja_Motions_push_50 rfl (by decide) ⟨rfl, by decide⟩ rfl ?_
                refine q_iload (pc' := 55) ja_Motions_push_53 rfl rfl ?_
                refine q_iast (pc' := 56) ja_Motions_push_55 rfl (by decide) (l := 8) rfl (k26 h1 h2 h3 h9 h21 h23 h24 s26 e26 s27 e27 s28 e28) ?_
                intro s29 e29
                refine q_aload_n (pc' := 57) ja_Motions_push_56 rfl rfl ?_
                refine q_dup (pc' := 58) ja_Motions_push_57 rfl rfl ?_
                refine q_getf (pc' := 61) (v := .int (s29 60 0)) ja_Motions_push_58 rfl (by decide) ⟨rfl, by decide⟩ rfl ?_
                refine q_iconst (pc' := 62) ja_Motions_push_61 rfl 1 (by decide) ?_
                refine q_iadd (pc' := 63) ja_Motions_push_62 rfl ?_
                refine q_putf (pc' := 66) ja_Motions_push_63 rfl (by decide) rfl rfl rfl ?_
                intro s30 e30
                refine q_vret ja_Motions_push_66 rfl ?_
                show q_W _ _ _ _ 70 [some (.ref 0), some (.int x1), some (.int x2), some (.int x3), some (.int x4), some (.int y0)] [] s30
                refine q_aload_n (pc' := 71) ja_C_act_70 rfl rfl ?_
                refine q_dup (pc' := 72) ja_C_act_71 rfl rfl ?_
                refine q_getf (pc' := 75) (v := .int (s30 0 19)) ja_C_act_72 rfl (by decide) ⟨rfl, by decide⟩ rfl ?_
                refine q_iconst (pc' := 76) ja_C_act_75 rfl 1 (by decide) ?_
                refine q_iadd (pc' := 77) ja_C_act_76 rfl ?_
                refine q_putf (pc' := 80) ja_C_act_77 rfl (by decide) rfl rfl rfl ?_
                intro s31 e31
                refine q_aload_n (pc' := 81) ja_C_act_80 rfl rfl ?_
                refine q_getf (pc' := 84) (v := .ref 60) ja_C_act_81 rfl (by decide) ⟨rfl, by decide⟩ rfl ?_
                refine q_getf (pc' := 87) (v := .int (s31 60 0)) ja_C_act_84 rfl (by decide) ⟨rfl, by decide⟩ rfl ?_
                exact q_iret ja_C_act_87 rfl rfl (k27 h1 h2 h3 h9 h21 h23 h24 s26 e26 s27 e27 s28 e28 s29 e29 s30 e30 s31 e31)
              · intro h25
                refine q_iconst (pc' := 12) ja_Motions_isFull_11 rfl 1 (by decide) ?_
                refine q_goto ja_Motions_isFull_12 ?_
                refine q_iret ja_Motions_isFull_16 rfl (by decide) ?_
                show q_W _ _ _ _ 11 [some (.ref 60), some (.int x1), some (.int x2), some (.int (-1)), some (.int x4)] [.int 1] s
                refine q_if_eq (pc' := 14) ja_Motions_push_11 rfl (fun h => absurd h ((by decide : ¬ (1 : Int32) = 0))) (fun _ => ?_)
                refine q_vret ja_Motions_push_14 rfl ?_
                show q_W _ _ _ _ 70 [some (.ref 0), some (.int x1), some (.int x2), some (.int x3), some (.int x4), some (.int y0)] [] s
                refine q_aload_n (pc' := 71) ja_C_act_70 rfl rfl ?_
                refine q_dup (pc' := 72) ja_C_act_71 rfl rfl ?_
                refine q_getf (pc' := 75) (v := .int (s 0 19)) ja_C_act_72 rfl (by decide) ⟨rfl, by decide⟩ rfl ?_
                refine q_iconst (pc' := 76) ja_C_act_75 rfl 1 (by decide) ?_
                refine q_iadd (pc' := 77) ja_C_act_76 rfl ?_
                refine q_putf (pc' := 80) ja_C_act_77 rfl (by decide) rfl rfl rfl ?_
                intro s32 e32
                refine q_aload_n (pc' := 81) ja_C_act_80 rfl rfl ?_
                refine q_getf (pc' := 84) (v := .ref 60) ja_C_act_81 rfl (by decide) ⟨rfl, by decide⟩ rfl ?_
                refine q_getf (pc' := 87) (v := .int (s32 60 0)) ja_C_act_84 rfl (by decide) ⟨rfl, by decide⟩ rfl ?_
                exact q_iret ja_C_act_87 rfl rfl (k28 h1 h2 h3 h9 h21 h23 h25 s32 e32)
      · intro h26
        refine q_iload_n (pc' := 6) ja_C_isAmendment_5 rfl rfl ?_
        refine q_iconst (pc' := 7) ja_C_isAmendment_6 rfl 3 (by decide) ?_
        refine q_ic_gt (pc' := 10) ja_C_isAmendment_7 rfl ?_ ?_
        · intro h27
          refine q_iconst (pc' := 15) ja_C_isAmendment_14 rfl 0 (by decide) ?_
          refine q_iret ja_C_isAmendment_15 rfl (by decide) ?_
          show q_W _ _ _ _ 40 [some (.ref 0), some (.int x1), some (.int x2), some (.int x3), some (.int x4), some (.int y0)] [.int 0, .int x2, .int x1, .ref 60] s
          refine q_if_eq (pc' := 43) ja_C_act_40 rfl (fun _ => ?_) (fun h => absurd ((by decide : (0 : Int32) = 0)) h)
          refine q_iconst (pc' := 48) ja_C_act_47 rfl (-1) (by decide) ?_
          refine q_iload_n (pc' := 49) ja_C_act_48 rfl rfl ?_
          refine q_stat (pc' := 52) (as := [.int x1]) (r := [.int (-1), .int x2, .int x1, .ref 60]) ja_C_act_49 rfl (by decide) rfl rfl ?_
          refine q_in (M := jm_C_takesWord) rfl (Nat.le_of_ble_eq_true rfl) (ls := [some (.int x1)]) rfl ?_
          refine q_iload_n (pc' := 1) ja_C_takesWord_0 rfl rfl ?_
          refine q_iconst (pc' := 2) ja_C_takesWord_1 rfl 2 (by decide) ?_
          refine q_ic_eq (pc' := 5) ja_C_takesWord_2 rfl ?_ ?_
          · intro h28
            refine q_iconst (pc' := 11) ja_C_takesWord_10 rfl 1 (by decide) ?_
            refine q_goto ja_C_takesWord_11 ?_
            refine q_iret ja_C_takesWord_15 rfl (by decide) ?_
            show q_W _ _ _ _ 52 [some (.ref 0), some (.int x1), some (.int x2), some (.int x3), some (.int x4), some (.int y0)] [.int 1, .int (-1), .int x2, .int x1, .ref 60] s
            refine q_if_ne (pc' := 55) ja_C_act_52 rfl (fun _ => ?_) (fun h => absurd h ((by decide : ¬ (1 : Int32) = 0)))
            refine q_iload (pc' := 63) ja_C_act_61 rfl rfl ?_
            refine q_goto ja_C_act_63 ?_
            refine q_virt (pc' := 70) (c := 60) (as := [.int x1, .int x2, .int (-1), .int x4]) (r := []) ja_C_act_67 rfl rfl rfl (by decide) ⟨rfl, by decide⟩ ?_
            refine q_in (M := jm_Motions_push) rfl (Nat.le_of_ble_eq_true rfl) (ls := [some (.ref 60), some (.int x1), some (.int x2), some (.int (-1)), some (.int x4)]) rfl ?_
            refine q_aload_n (pc' := 1) ja_Motions_push_0 rfl rfl ?_
            refine q_getf (pc' := 4) (v := .int (s 60 0)) ja_Motions_push_1 rfl (by decide) ⟨rfl, by decide⟩ rfl ?_
            refine q_if_lt (pc' := 7) ja_Motions_push_4 rfl ?_ ?_
            · intro h29
              refine q_vret ja_Motions_push_14 rfl ?_
              show q_W _ _ _ _ 70 [some (.ref 0), some (.int x1), some (.int x2), some (.int x3), some (.int x4), some (.int y0)] [] s
              refine q_aload_n (pc' := 71) ja_C_act_70 rfl rfl ?_
              refine q_dup (pc' := 72) ja_C_act_71 rfl rfl ?_
              refine q_getf (pc' := 75) (v := .int (s 0 19)) ja_C_act_72 rfl (by decide) ⟨rfl, by decide⟩ rfl ?_
              refine q_iconst (pc' := 76) ja_C_act_75 rfl 1 (by decide) ?_
              refine q_iadd (pc' := 77) ja_C_act_76 rfl ?_
              refine q_putf (pc' := 80) ja_C_act_77 rfl (by decide) rfl rfl rfl ?_
              intro s33 e33
              refine q_aload_n (pc' := 81) ja_C_act_80 rfl rfl ?_
              refine q_getf (pc' := 84) (v := .ref 60) ja_C_act_81 rfl (by decide) ⟨rfl, by decide⟩ rfl ?_
              refine q_getf (pc' := 87) (v := .int (s33 60 0)) ja_C_act_84 rfl (by decide) ⟨rfl, by decide⟩ rfl ?_
              exact q_iret ja_C_act_87 rfl rfl (k29 h1 h2 h26 h27 h28 h29 s33 e33)
            · intro h30
              refine q_aload_n (pc' := 8) ja_Motions_push_7 rfl rfl ?_
              refine q_virt (pc' := 11) (c := 60) (as := []) (r := []) ja_Motions_push_8 rfl rfl rfl (by decide) ⟨rfl, by decide⟩ ?_
              refine q_in (M := jm_Motions_isFull) rfl (Nat.le_of_ble_eq_true rfl) (ls := [some (.ref 60)]) rfl ?_
              refine q_aload_n (pc' := 1) ja_Motions_isFull_0 rfl rfl ?_
              refine q_getf (pc' := 4) (v := .int (s 60 0)) ja_Motions_isFull_1 rfl (by decide) ⟨rfl, by decide⟩ rfl ?_
              refine q_aload_n (pc' := 5) ja_Motions_isFull_4 rfl rfl ?_
              refine q_getf (pc' := 8) (v := .int (s 60 1)) ja_Motions_isFull_5 rfl (by decide) ⟨rfl, by decide⟩ rfl ?_
              refine q_ic_lt (pc' := 11) ja_Motions_isFull_8 rfl ?_ ?_
              · intro h31
                refine q_iconst (pc' := 16) ja_Motions_isFull_15 rfl 0 (by decide) ?_
                refine q_iret ja_Motions_isFull_16 rfl (by decide) ?_
                show q_W _ _ _ _ 11 [some (.ref 60), some (.int x1), some (.int x2), some (.int (-1)), some (.int x4)] [.int 0] s
                refine q_if_eq (pc' := 14) ja_Motions_push_11 rfl (fun _ => ?_) (fun h => absurd ((by decide : (0 : Int32) = 0)) h)
                refine q_aload_n (pc' := 16) ja_Motions_push_15 rfl rfl ?_
                refine q_getf (pc' := 19) (v := .ref 61) ja_Motions_push_16 rfl (by decide) ⟨rfl, by decide⟩ rfl ?_
                refine q_aload_n (pc' := 20) ja_Motions_push_19 rfl rfl ?_
                refine q_getf (pc' := 23) (v := .int (s 60 0)) ja_Motions_push_20 rfl (by decide) ⟨rfl, by decide⟩ rfl ?_
                refine q_iload_n (pc' := 24) ja_Motions_push_23 rfl rfl ?_
                refine q_iast (pc' := 25) ja_Motions_push_24 rfl (by decide) (l := 8) rfl (k30 h1 h2 h26 h27 h28 h30 h31) ?_
                intro s34 e34
                refine q_aload_n (pc' := 26) ja_Motions_push_25 rfl rfl ?_
                refine q_getf (pc' := 29) (v := .ref 62) ja_Motions_push_26 rfl (by decide) ⟨rfl, by decide⟩ rfl ?_
                refine q_aload_n (pc' := 30) ja_Motions_push_29 rfl rfl ?_
                refine q_getf (pc' := 33) (v := .int (s34 60 0)) ja_Motions_push_30 rfl (by decide) ⟨rfl, by decide⟩ rfl ?_
                refine q_iload_n (pc' := 34) ja_Motions_push_33 rfl rfl ?_
                refine q_iast (pc' := 35) ja_Motions_push_34 rfl (by decide) (l := 8) rfl (k31 h1 h2 h26 h27 h28 h30 h31 s34 e34) ?_
                intro s35 e35
                refine q_aload_n (pc' := 36) ja_Motions_push_35 rfl rfl ?_
                refine q_getf (pc' := 39) (v := .ref 63) ja_Motions_push_36 rfl (by decide) ⟨rfl, by decide⟩ rfl ?_
                refine q_aload_n (pc' := 40) ja_Motions_push_39 rfl rfl ?_
                refine q_getf (pc' := 43) (v := .int (s35 60 0)) ja_Motions_push_40 rfl (by decide) ⟨rfl, by decide⟩ rfl ?_
                refine q_iload_n (pc' := 44) ja_Motions_push_43 rfl rfl ?_
                refine q_iast (pc' := 45) ja_Motions_push_44 rfl (by decide) (l := 8) rfl (k32 h1 h2 h26 h27 h28 h30 h31 s34 e34 s35 e35) ?_
                intro s36 e36
                refine q_aload_n (pc' := 46) ja_Motions_push_45 rfl rfl ?_
                refine q_getf (pc' := 49) (v := .ref 64) ja_Motions_push_46 rfl (by decide) ⟨rfl, by decide⟩ rfl ?_
                refine q_aload_n (pc' := 50) ja_Motions_push_49 rfl rfl ?_
                refine q_getf (pc' := 53) (v := .int (s36 60 0)) ja_Motions_push_50 rfl (by decide) ⟨rfl, by decide⟩ rfl ?_
                refine q_iload (pc' := 55) ja_Motions_push_53 rfl rfl ?_
                refine q_iast (pc' := 56) ja_Motions_push_55 rfl (by decide) (l := 8) rfl (k33 h1 h2 h26 h27 h28 h30 h31 s34 e34 s35 e35 s36 e36) ?_
                intro s37 e37
                refine q_aload_n (pc' := 57) ja_Motions_push_56 rfl rfl ?_
                refine q_dup (pc' := 58) ja_Motions_push_57 rfl rfl ?_
                refine q_getf (pc' := 61) (v := .int (s37 60 0)) ja_Motions_push_58 rfl (by decide) ⟨rfl, by decide⟩ rfl ?_
                refine q_iconst (pc' := 62) ja_Motions_push_61 rfl 1 (by decide) ?_
                refine q_iadd (pc' := 63) ja_Motions_push_62 rfl ?_
                refine q_putf (pc' := 66) ja_Motions_push_63 rfl (by decide) rfl rfl rfl ?_
                intro s38 e38
                refine q_vret ja_Motions_push_66 rfl ?_
                show q_W _ _ _ _ 70 [some (.ref 0), some (.int x1), some (.int x2), some (.int x3), some (.int x4), some (.int y0)] [] s38
                refine q_aload_n (pc' := 71) ja_C_act_70 rfl rfl ?_
                refine q_dup (pc' := 72) ja_C_act_71 rfl rfl ?_
                refine q_getf (pc' := 75) (v := .int (s38 0 19)) ja_C_act_72 rfl (by decide) ⟨rfl, by decide⟩ rfl ?_
                refine q_iconst (pc' := 76) ja_C_act_75 rfl 1 (by decide) ?_
                refine q_iadd (pc' := 77) ja_C_act_76 rfl ?_
                refine q_putf (pc' := 80) ja_C_act_77 rfl (by decide) rfl rfl rfl ?_
                intro s39 e39
                refine q_aload_n (pc' := 81) ja_C_act_80 rfl rfl ?_
                refine q_getf (pc' := 84) (v := .ref 60) ja_C_act_81 rfl (by decide) ⟨rfl, by decide⟩ rfl ?_
                refine q_getf (pc' := 87) (v := .int (s39 60 0)) ja_C_act_84 rfl (by decide) ⟨rfl, by decide⟩ rfl ?_
                exact q_iret ja_C_act_87 rfl rfl (k34 h1 h2 h26 h27 h28 h30 h31 s34 e34 s35 e35 s36 e36 s37 e37 s38 e38 s39 e39)
              · intro h32
                refine q_iconst (pc' := 12) ja_Motions_isFull_11 rfl 1 (by decide) ?_
                refine q_goto ja_Motions_isFull_12 ?_
                refine q_iret ja_Motions_isFull_16 rfl (by decide) ?_
                show q_W _ _ _ _ 11 [some (.ref 60), some (.int x1), some (.int x2), some (.int (-1)), some (.int x4)] [.int 1] s
                refine q_if_eq (pc' := 14) ja_Motions_push_11 rfl (fun h => absurd h ((by decide : ¬ (1 : Int32) = 0))) (fun _ => ?_)
                refine q_vret ja_Motions_push_14 rfl ?_
                show q_W _ _ _ _ 70 [some (.ref 0), some (.int x1), some (.int x2), some (.int x3), some (.int x4), some (.int y0)] [] s
                refine q_aload_n (pc' := 71) ja_C_act_70 rfl rfl ?_
                refine q_dup (pc' := 72) ja_C_act_71 rfl rfl ?_
                refine q_getf (pc' := 75) (v := .int (s 0 19)) ja_C_act_72 rfl (by decide) ⟨rfl, by decide⟩ rfl ?_
                refine q_iconst (pc' := 76) ja_C_act_75 rfl 1 (by decide) ?_
                refine q_iadd (pc' := 77) ja_C_act_76 rfl ?_
                refine q_putf (pc' := 80) ja_C_act_77 rfl (by decide) rfl rfl rfl ?_
                intro s40 e40
                refine q_aload_n (pc' := 81) ja_C_act_80 rfl rfl ?_
                refine q_getf (pc' := 84) (v := .ref 60) ja_C_act_81 rfl (by decide) ⟨rfl, by decide⟩ rfl ?_
                refine q_getf (pc' := 87) (v := .int (s40 60 0)) ja_C_act_84 rfl (by decide) ⟨rfl, by decide⟩ rfl ?_
                exact q_iret ja_C_act_87 rfl rfl (k35 h1 h2 h26 h27 h28 h30 h32 s40 e40)
          · intro h33
            refine q_iload_n (pc' := 6) ja_C_takesWord_5 rfl rfl ?_
            refine q_iconst (pc' := 7) ja_C_takesWord_6 rfl 3 (by decide) ?_
            refine q_ic_ne (pc' := 10) ja_C_takesWord_7 rfl ?_ ?_
            · intro h34
              refine q_iconst (pc' := 15) ja_C_takesWord_14 rfl 0 (by decide) ?_
              refine q_iret ja_C_takesWord_15 rfl (by decide) ?_
              show q_W _ _ _ _ 52 [some (.ref 0), some (.int x1), some (.int x2), some (.int x3), some (.int x4), some (.int y0)] [.int 0, .int (-1), .int x2, .int x1, .ref 60] s
              refine q_if_ne (pc' := 55) ja_C_act_52 rfl (fun h => absurd ((by decide : (0 : Int32) = 0)) h) (fun _ => ?_)
              refine q_iload_n (pc' := 56) ja_C_act_55 rfl rfl ?_
              refine q_bipush (pc' := 58) ja_C_act_56 rfl 6 (by decide) ?_
              refine q_ic_ne (pc' := 61) ja_C_act_58 rfl ?_ ?_
              · intro h35
                refine q_iconst (pc' := 67) ja_C_act_66 rfl (-1) (by decide) ?_
                refine q_virt (pc' := 70) (c := 60) (as := [.int x1, .int x2, .int (-1), .int (-1)]) (r := []) ja_C_act_67 rfl rfl rfl (by decide) ⟨rfl, by decide⟩ ?_
                refine q_in (M := jm_Motions_push) rfl (Nat.le_of_ble_eq_true rfl) (ls := [some (.ref 60), some (.int x1), some (.int x2), some (.int (-1)), some (.int (-1))]) rfl ?_
                refine q_aload_n (pc' := 1) ja_Motions_push_0 rfl rfl ?_
                refine q_getf (pc' := 4) (v := .int (s 60 0)) ja_Motions_push_1 rfl (by decide) ⟨rfl, by decide⟩ rfl ?_
                refine q_if_lt (pc' := 7) ja_Motions_push_4 rfl ?_ ?_
                · intro h36
                  refine q_vret ja_Motions_push_14 rfl ?_
                  show q_W _ _ _ _ 70 [some (.ref 0), some (.int x1), some (.int x2), some (.int x3), some (.int x4), some (.int y0)] [] s
                  refine q_aload_n (pc' := 71) ja_C_act_70 rfl rfl ?_
                  refine q_dup (pc' := 72) ja_C_act_71 rfl rfl ?_
                  refine q_getf (pc' := 75) (v := .int (s 0 19)) ja_C_act_72 rfl (by decide) ⟨rfl, by decide⟩ rfl ?_
                  refine q_iconst (pc' := 76) ja_C_act_75 rfl 1 (by decide) ?_
                  refine q_iadd (pc' := 77) ja_C_act_76 rfl ?_
                  refine q_putf (pc' := 80) ja_C_act_77 rfl (by decide) rfl rfl rfl ?_
                  intro s41 e41
                  refine q_aload_n (pc' := 81) ja_C_act_80 rfl rfl ?_
                  refine q_getf (pc' := 84) (v := .ref 60) ja_C_act_81 rfl (by decide) ⟨rfl, by decide⟩ rfl ?_
                  refine q_getf (pc' := 87) (v := .int (s41 60 0)) ja_C_act_84 rfl (by decide) ⟨rfl, by decide⟩ rfl ?_
                  exact q_iret ja_C_act_87 rfl rfl (k36 h1 h2 h26 h27 h33 h34 h35 h36 s41 e41)
                · intro h37
                  refine q_aload_n (pc' := 8) ja_Motions_push_7 rfl rfl ?_
                  refine q_virt (pc' := 11) (c := 60) (as := []) (r := []) ja_Motions_push_8 rfl rfl rfl (by decide) ⟨rfl, by decide⟩ ?_
                  refine q_in (M := jm_Motions_isFull) rfl (Nat.le_of_ble_eq_true rfl) (ls := [some (.ref 60)]) rfl ?_
                  refine q_aload_n (pc' := 1) ja_Motions_isFull_0 rfl rfl ?_
                  refine q_getf (pc' := 4) (v := .int (s 60 0)) ja_Motions_isFull_1 rfl (by decide) ⟨rfl, by decide⟩ rfl ?_
                  refine q_aload_n (pc' := 5) ja_Motions_isFull_4 rfl rfl ?_
                  refine q_getf (pc' := 8) (v := .int (s 60 1)) ja_Motions_isFull_5 rfl (by decide) ⟨rfl, by decide⟩ rfl ?_
                  refine q_ic_lt (pc' := 11) ja_Motions_isFull_8 rfl ?_ ?_
                  · intro h38
                    refine q_iconst (pc' := 16) ja_Motions_isFull_15 rfl 0 (by decide) ?_
                    refine q_iret ja_Motions_isFull_16 rfl (by decide) ?_
                    show q_W _ _ _ _ 11 [some (.ref 60), some (.int x1), some (.int x2), some (.int (-1)), some (.int (-1))] [.int 0] s
                    refine q_if_eq (pc' := 14) ja_Motions_push_11 rfl (fun _ => ?_) (fun h => absurd ((by decide : (0 : Int32) = 0)) h)
                    refine q_aload_n (pc' := 16) ja_Motions_push_15 rfl rfl ?_
                    refine q_getf (pc' := 19) (v := .ref 61) ja_Motions_push_16 rfl (by decide) ⟨rfl, by decide⟩ rfl ?_
                    refine q_aload_n (pc' := 20) ja_Motions_push_19 rfl rfl ?_
                    refine q_getf (pc' := 23) (v := .int (s 60 0)) ja_Motions_push_20 rfl (by decide) ⟨rfl, by decide⟩ rfl ?_
                    refine q_iload_n (pc' := 24) ja_Motions_push_23 rfl rfl ?_
                    refine q_iast (pc' := 25) ja_Motions_push_24 rfl (by decide) (l := 8) rfl (k37 h1 h2 h26 h27 h33 h34 h35 h37 h38) ?_
                    intro s42 e42
                    refine q_aload_n (pc' := 26) ja_Motions_push_25 rfl rfl ?_
                    refine q_getf (pc' := 29) (v := .ref 62) ja_Motions_push_26 rfl (by decide) ⟨rfl, by decide⟩ rfl ?_
                    refine q_aload_n (pc' := 30) ja_Motions_push_29 rfl rfl ?_
                    refine q_getf (pc' := 33) (v := .int (s42 60 0)) ja_Motions_push_30 rfl (by decide) ⟨rfl, by decide⟩ rfl ?_
                    refine q_iload_n (pc' := 34) ja_Motions_push_33 rfl rfl ?_
                    refine q_iast (pc' := 35) ja_Motions_push_34 rfl (by decide) (l := 8) rfl (k38 h1 h2 h26 h27 h33 h34 h35 h37 h38 s42 e42) ?_
                    intro s43 e43
                    refine q_aload_n (pc' := 36) ja_Motions_push_35 rfl rfl ?_
                    refine q_getf (pc' := 39) (v := .ref 63) ja_Motions_push_36 rfl (by decide) ⟨rfl, by decide⟩ rfl ?_
                    refine q_aload_n (pc' := 40) ja_Motions_push_39 rfl rfl ?_
                    refine q_getf (pc' := 43) (v := .int (s43 60 0)) ja_Motions_push_40 rfl (by decide) ⟨rfl, by decide⟩ rfl ?_
                    refine q_iload_n (pc' := 44) ja_Motions_push_43 rfl rfl ?_
                    refine q_iast (pc' := 45) ja_Motions_push_44 rfl (by decide) (l := 8) rfl (k39 h1 h2 h26 h27 h33 h34 h35 h37 h38 s42 e42 s43 e43) ?_
                    intro s44 e44
                    refine q_aload_n (pc' := 46) ja_Motions_push_45 rfl rfl ?_
                    refine q_getf (pc' := 49) (v := .ref 64) ja_Motions_push_46 rfl (by decide) ⟨rfl, by decide⟩ rfl ?_
                    refine q_aload_n (pc' := 50) ja_Motions_push_49 rfl rfl ?_
                    refine q_getf (pc' := 53) (v := .int (s44 60 0)) ja_Motions_push_50 rfl (by decide) ⟨rfl, by decide⟩ rfl ?_
                    refine q_iload (pc' := 55) ja_Motions_push_53 rfl rfl ?_
                    refine q_iast (pc' := 56) ja_Motions_push_55 rfl (by decide) (l := 8) rfl (k40 h1 h2 h26 h27 h33 h34 h35 h37 h38 s42 e42 s43 e43 s44 e44) ?_
                    intro s45 e45
                    refine q_aload_n (pc' := 57) ja_Motions_push_56 rfl rfl ?_
                    refine q_dup (pc' := 58) ja_Motions_push_57 rfl rfl ?_
                    refine q_getf (pc' := 61) (v := .int (s45 60 0)) ja_Motions_push_58 rfl (by decide) ⟨rfl, by decide⟩ rfl ?_
                    refine q_iconst (pc' := 62) ja_Motions_push_61 rfl 1 (by decide) ?_
                    refine q_iadd (pc' := 63) ja_Motions_push_62 rfl ?_
                    refine q_putf (pc' := 66) ja_Motions_push_63 rfl (by decide) rfl rfl rfl ?_
                    intro s46 e46
                    refine q_vret ja_Motions_push_66 rfl ?_
                    show q_W _ _ _ _ 70 [some (.ref 0), some (.int x1), some (.int x2), some (.int x3), some (.int x4), some (.int y0)] [] s46
                    refine q_aload_n (pc' := 71) ja_C_act_70 rfl rfl ?_
                    refine q_dup (pc' := 72) ja_C_act_71 rfl rfl ?_
                    refine q_getf (pc' := 75) (v := .int (s46 0 19)) ja_C_act_72 rfl (by decide) ⟨rfl, by decide⟩ rfl ?_
                    refine q_iconst (pc' := 76) ja_C_act_75 rfl 1 (by decide) ?_
                    refine q_iadd (pc' := 77) ja_C_act_76 rfl ?_
                    refine q_putf (pc' := 80) ja_C_act_77 rfl (by decide) rfl rfl rfl ?_
                    intro s47 e47
                    refine q_aload_n (pc' := 81) ja_C_act_80 rfl rfl ?_
                    refine q_getf (pc' := 84) (v := .ref 60) ja_C_act_81 rfl (by decide) ⟨rfl, by decide⟩ rfl ?_
                    refine q_getf (pc' := 87) (v := .int (s47 60 0)) ja_C_act_84 rfl (by decide) ⟨rfl, by decide⟩ rfl ?_
                    exact q_iret ja_C_act_87 rfl rfl (k41 h1 h2 h26 h27 h33 h34 h35 h37 h38 s42 e42 s43 e43 s44 e44 s45 e45 s46 e46 s47 e47)
                  · intro h39
                    refine q_iconst (pc' := 12) ja_Motions_isFull_11 rfl 1 (by decide) ?_
                    refine q_goto ja_Motions_isFull_12 ?_
                    refine q_iret ja_Motions_isFull_16 rfl (by decide) ?_
                    show q_W _ _ _ _ 11 [some (.ref 60), some (.int x1), some (.int x2), some (.int (-1)), some (.int (-1))] [.int 1] s
                    refine q_if_eq (pc' := 14) ja_Motions_push_11 rfl (fun h => absurd h ((by decide : ¬ (1 : Int32) = 0))) (fun _ => ?_)
                    refine q_vret ja_Motions_push_14 rfl ?_
                    show q_W _ _ _ _ 70 [some (.ref 0), some (.int x1), some (.int x2), some (.int x3), some (.int x4), some (.int y0)] [] s
                    refine q_aload_n (pc' := 71) ja_C_act_70 rfl rfl ?_
                    refine q_dup (pc' := 72) ja_C_act_71 rfl rfl ?_
                    refine q_getf (pc' := 75) (v := .int (s 0 19)) ja_C_act_72 rfl (by decide) ⟨rfl, by decide⟩ rfl ?_
                    refine q_iconst (pc' := 76) ja_C_act_75 rfl 1 (by decide) ?_
                    refine q_iadd (pc' := 77) ja_C_act_76 rfl ?_
                    refine q_putf (pc' := 80) ja_C_act_77 rfl (by decide) rfl rfl rfl ?_
                    intro s48 e48
                    refine q_aload_n (pc' := 81) ja_C_act_80 rfl rfl ?_
                    refine q_getf (pc' := 84) (v := .ref 60) ja_C_act_81 rfl (by decide) ⟨rfl, by decide⟩ rfl ?_
                    refine q_getf (pc' := 87) (v := .int (s48 60 0)) ja_C_act_84 rfl (by decide) ⟨rfl, by decide⟩ rfl ?_
                    exact q_iret ja_C_act_87 rfl rfl (k42 h1 h2 h26 h27 h33 h34 h35 h37 h39 s48 e48)
              · intro h40
                refine q_iload (pc' := 63) ja_C_act_61 rfl rfl ?_
                refine q_goto ja_C_act_63 ?_
                refine q_virt (pc' := 70) (c := 60) (as := [.int x1, .int x2, .int (-1), .int x4]) (r := []) ja_C_act_67 rfl rfl rfl (by decide) ⟨rfl, by decide⟩ ?_
                refine q_in (M := jm_Motions_push) rfl (Nat.le_of_ble_eq_true rfl) (ls := [some (.ref 60), some (.int x1), some (.int x2), some (.int (-1)), some (.int x4)]) rfl ?_
                refine q_aload_n (pc' := 1) ja_Motions_push_0 rfl rfl ?_
                refine q_getf (pc' := 4) (v := .int (s 60 0)) ja_Motions_push_1 rfl (by decide) ⟨rfl, by decide⟩ rfl ?_
                refine q_if_lt (pc' := 7) ja_Motions_push_4 rfl ?_ ?_
                · intro h41
                  refine q_vret ja_Motions_push_14 rfl ?_
                  show q_W _ _ _ _ 70 [some (.ref 0), some (.int x1), some (.int x2), some (.int x3), some (.int x4), some (.int y0)] [] s
                  refine q_aload_n (pc' := 71) ja_C_act_70 rfl rfl ?_
                  refine q_dup (pc' := 72) ja_C_act_71 rfl rfl ?_
                  refine q_getf (pc' := 75) (v := .int (s 0 19)) ja_C_act_72 rfl (by decide) ⟨rfl, by decide⟩ rfl ?_
                  refine q_iconst (pc' := 76) ja_C_act_75 rfl 1 (by decide) ?_
                  refine q_iadd (pc' := 77) ja_C_act_76 rfl ?_
                  refine q_putf (pc' := 80) ja_C_act_77 rfl (by decide) rfl rfl rfl ?_
                  intro s49 e49
                  refine q_aload_n (pc' := 81) ja_C_act_80 rfl rfl ?_
                  refine q_getf (pc' := 84) (v := .ref 60) ja_C_act_81 rfl (by decide) ⟨rfl, by decide⟩ rfl ?_
                  refine q_getf (pc' := 87) (v := .int (s49 60 0)) ja_C_act_84 rfl (by decide) ⟨rfl, by decide⟩ rfl ?_
                  exact q_iret ja_C_act_87 rfl rfl (k43 h1 h2 h26 h27 h33 h34 h40 h41 s49 e49)
                · intro h42
                  refine q_aload_n (pc' := 8) ja_Motions_push_7 rfl rfl ?_
                  refine q_virt (pc' := 11) (c := 60) (as := []) (r := []) ja_Motions_push_8 rfl rfl rfl (by decide) ⟨rfl, by decide⟩ ?_
                  refine q_in (M := jm_Motions_isFull) rfl (Nat.le_of_ble_eq_true rfl) (ls := [some (.ref 60)]) rfl ?_
                  refine q_aload_n (pc' := 1) ja_Motions_isFull_0 rfl rfl ?_
                  refine q_getf (pc' := 4) (v := .int (s 60 0)) ja_Motions_isFull_1 rfl (by decide) ⟨rfl, by decide⟩ rfl ?_
                  refine q_aload_n (pc' := 5) ja_Motions_isFull_4 rfl rfl ?_
                  refine q_getf (pc' := 8) (v := .int (s 60 1)) ja_Motions_isFull_5 rfl (by decide) ⟨rfl, by decide⟩ rfl ?_
                  refine q_ic_lt (pc' := 11) ja_Motions_isFull_8 rfl ?_ ?_
                  · intro h43
                    refine q_iconst (pc' := 16) ja_Motions_isFull_15 rfl 0 (by decide) ?_
                    refine q_iret ja_Motions_isFull_16 rfl (by decide) ?_
                    show q_W _ _ _ _ 11 [some (.ref 60), some (.int x1), some (.int x2), some (.int (-1)), some (.int x4)] [.int 0] s
                    refine q_if_eq (pc' := 14) ja_Motions_push_11 rfl (fun _ => ?_) (fun h => absurd ((by decide : (0 : Int32) = 0)) h)
                    refine q_aload_n (pc' := 16) ja_Motions_push_15 rfl rfl ?_
                    refine q_getf (pc' := 19) (v := .ref 61) ja_Motions_push_16 rfl (by decide) ⟨rfl, by decide⟩ rfl ?_
                    refine q_aload_n (pc' := 20) ja_Motions_push_19 rfl rfl ?_
                    refine q_getf (pc' := 23) (v := .int (s 60 0)) ja_Motions_push_20 rfl (by decide) ⟨rfl, by decide⟩ rfl ?_
                    refine q_iload_n (pc' := 24) ja_Motions_push_23 rfl rfl ?_
                    refine q_iast (pc' := 25) ja_Motions_push_24 rfl (by decide) (l := 8) rfl (k44 h1 h2 h26 h27 h33 h34 h40 h42 h43) ?_
                    intro s50 e50
                    refine q_aload_n (pc' := 26) ja_Motions_push_25 rfl rfl ?_
                    refine q_getf (pc' := 29) (v := .ref 62) ja_Motions_push_26 rfl (by decide) ⟨rfl, by decide⟩ rfl ?_
                    refine q_aload_n (pc' := 30) ja_Motions_push_29 rfl rfl ?_
                    refine q_getf (pc' := 33) (v := .int (s50 60 0)) ja_Motions_push_30 rfl (by decide) ⟨rfl, by decide⟩ rfl ?_
                    refine q_iload_n (pc' := 34) ja_Motions_push_33 rfl rfl ?_
                    refine q_iast (pc' := 35) ja_Motions_push_34 rfl (by decide) (l := 8) rfl (k45 h1 h2 h26 h27 h33 h34 h40 h42 h43 s50 e50) ?_
                    intro s51 e51
                    refine q_aload_n (pc' := 36) ja_Motions_push_35 rfl rfl ?_
                    refine q_getf (pc' := 39) (v := .ref 63) ja_Motions_push_36 rfl (by decide) ⟨rfl, by decide⟩ rfl ?_
                    refine q_aload_n (pc' := 40) ja_Motions_push_39 rfl rfl ?_
                    refine q_getf (pc' := 43) (v := .int (s51 60 0)) ja_Motions_push_40 rfl (by decide) ⟨rfl, by decide⟩ rfl ?_
                    refine q_iload_n (pc' := 44) ja_Motions_push_43 rfl rfl ?_
                    refine q_iast (pc' := 45) ja_Motions_push_44 rfl (by decide) (l := 8) rfl (k46 h1 h2 h26 h27 h33 h34 h40 h42 h43 s50 e50 s51 e51) ?_
                    intro s52 e52
                    refine q_aload_n (pc' := 46) ja_Motions_push_45 rfl rfl ?_
                    refine q_getf (pc' := 49) (v := .ref 64) ja_Motions_push_46 rfl (by decide) ⟨rfl, by decide⟩ rfl ?_
                    refine q_aload_n (pc' := 50) ja_Motions_push_49 rfl rfl ?_
                    refine q_getf (pc' := 53) (v := .int (s52 60 0)) ja_Motions_push_50 rfl (by decide) ⟨rfl, by decide⟩ rfl ?_
                    refine q_iload (pc' := 55) ja_Motions_push_53 rfl rfl ?_
                    refine q_iast (pc' := 56) ja_Motions_push_55 rfl (by decide) (l := 8) rfl (k47 h1 h2 h26 h27 h33 h34 h40 h42 h43 s50 e50 s51 e51 s52 e52) ?_
                    intro s53 e53
                    refine q_aload_n (pc' := 57) ja_Motions_push_56 rfl rfl ?_
                    refine q_dup (pc' := 58) ja_Motions_push_57 rfl rfl ?_
                    refine q_getf (pc' := 61) (v := .int (s53 60 0)) ja_Motions_push_58 rfl (by decide) ⟨rfl, by decide⟩ rfl ?_
                    refine q_iconst (pc' := 62) ja_Motions_push_61 rfl 1 (by decide) ?_
                    refine q_iadd (pc' := 63) ja_Motions_push_62 rfl ?_
                    refine q_putf (pc' := 66) ja_Motions_push_63 rfl (by decide) rfl rfl rfl ?_
                    intro s54 e54
                    refine q_vret ja_Motions_push_66 rfl ?_
                    show q_W _ _ _ _ 70 [some (.ref 0), some (.int x1), some (.int x2), some (.int x3), some (.int x4), some (.int y0)] [] s54
                    refine q_aload_n (pc' := 71) ja_C_act_70 rfl rfl ?_
                    refine q_dup (pc' := 72) ja_C_act_71 rfl rfl ?_
                    refine q_getf (pc' := 75) (v := .int (s54 0 19)) ja_C_act_72 rfl (by decide) ⟨rfl, by decide⟩ rfl ?_
                    refine q_iconst (pc' := 76) ja_C_act_75 rfl 1 (by decide) ?_
                    refine q_iadd (pc' := 77) ja_C_act_76 rfl ?_
                    refine q_putf (pc' := 80) ja_C_act_77 rfl (by decide) rfl rfl rfl ?_
                    intro s55 e55
                    refine q_aload_n (pc' := 81) ja_C_act_80 rfl rfl ?_
                    refine q_getf (pc' := 84) (v := .ref 60) ja_C_act_81 rfl (by decide) ⟨rfl, by decide⟩ rfl ?_
                    refine q_getf (pc' := 87) (v := .int (s55 60 0)) ja_C_act_84 rfl (by decide) ⟨rfl, by decide⟩ rfl ?_
                    exact q_iret ja_C_act_87 rfl rfl (k48 h1 h2 h26 h27 h33 h34 h40 h42 h43 s50 e50 s51 e51 s52 e52 s53 e53 s54 e54 s55 e55)
                  · intro h44
                    refine q_iconst (pc' := 12) ja_Motions_isFull_11 rfl 1 (by decide) ?_
                    refine q_goto ja_Motions_isFull_12 ?_
                    refine q_iret ja_Motions_isFull_16 rfl (by decide) ?_
                    show q_W _ _ _ _ 11 [some (.ref 60), some (.int x1), some (.int x2), some (.int (-1)), some (.int x4)] [.int 1] s
                    refine q_if_eq (pc' := 14) ja_Motions_push_11 rfl (fun h => absurd h ((by decide : ¬ (1 : Int32) = 0))) (fun _ => ?_)
                    refine q_vret ja_Motions_push_14 rfl ?_
                    show q_W _ _ _ _ 70 [some (.ref 0), some (.int x1), some (.int x2), some (.int x3), some (.int x4), some (.int y0)] [] s
                    refine q_aload_n (pc' := 71) ja_C_act_70 rfl rfl ?_
                    refine q_dup (pc' := 72) ja_C_act_71 rfl rfl ?_
                    refine q_getf (pc' := 75) (v := .int (s 0 19)) ja_C_act_72 rfl (by decide) ⟨rfl, by decide⟩ rfl ?_
                    refine q_iconst (pc' := 76) ja_C_act_75 rfl 1 (by decide) ?_
                    refine q_iadd (pc' := 77) ja_C_act_76 rfl ?_
                    refine q_putf (pc' := 80) ja_C_act_77 rfl (by decide) rfl rfl rfl ?_
                    intro s56 e56
                    refine q_aload_n (pc' := 81) ja_C_act_80 rfl rfl ?_
                    refine q_getf (pc' := 84) (v := .ref 60) ja_C_act_81 rfl (by decide) ⟨rfl, by decide⟩ rfl ?_
                    refine q_getf (pc' := 87) (v := .int (s56 60 0)) ja_C_act_84 rfl (by decide) ⟨rfl, by decide⟩ rfl ?_
                    exact q_iret ja_C_act_87 rfl rfl (k49 h1 h2 h26 h27 h33 h34 h40 h42 h44 s56 e56)
            · intro h45
              refine q_iconst (pc' := 11) ja_C_takesWord_10 rfl 1 (by decide) ?_
              refine q_goto ja_C_takesWord_11 ?_
              refine q_iret ja_C_takesWord_15 rfl (by decide) ?_
              show q_W _ _ _ _ 52 [some (.ref 0), some (.int x1), some (.int x2), some (.int x3), some (.int x4), some (.int y0)] [.int 1, .int (-1), .int x2, .int x1, .ref 60] s
              refine q_if_ne (pc' := 55) ja_C_act_52 rfl (fun _ => ?_) (fun h => absurd h ((by decide : ¬ (1 : Int32) = 0)))
              refine q_iload (pc' := 63) ja_C_act_61 rfl rfl ?_
              refine q_goto ja_C_act_63 ?_
              refine q_virt (pc' := 70) (c := 60) (as := [.int x1, .int x2, .int (-1), .int x4]) (r := []) ja_C_act_67 rfl rfl rfl (by decide) ⟨rfl, by decide⟩ ?_
              refine q_in (M := jm_Motions_push) rfl (Nat.le_of_ble_eq_true rfl) (ls := [some (.ref 60), some (.int x1), some (.int x2), some (.int (-1)), some (.int x4)]) rfl ?_
              refine q_aload_n (pc' := 1) ja_Motions_push_0 rfl rfl ?_
              refine q_getf (pc' := 4) (v := .int (s 60 0)) ja_Motions_push_1 rfl (by decide) ⟨rfl, by decide⟩ rfl ?_
              refine q_if_lt (pc' := 7) ja_Motions_push_4 rfl ?_ ?_
              · intro h46
                refine q_vret ja_Motions_push_14 rfl ?_
                show q_W _ _ _ _ 70 [some (.ref 0), some (.int x1), some (.int x2), some (.int x3), some (.int x4), some (.int y0)] [] s
                refine q_aload_n (pc' := 71) ja_C_act_70 rfl rfl ?_
                refine q_dup (pc' := 72) ja_C_act_71 rfl rfl ?_
                refine q_getf (pc' := 75) (v := .int (s 0 19)) ja_C_act_72 rfl (by decide) ⟨rfl, by decide⟩ rfl ?_
                refine q_iconst (pc' := 76) ja_C_act_75 rfl 1 (by decide) ?_
                refine q_iadd (pc' := 77) ja_C_act_76 rfl ?_
                refine q_putf (pc' := 80) ja_C_act_77 rfl (by decide) rfl rfl rfl ?_
                intro s57 e57
                refine q_aload_n (pc' := 81) ja_C_act_80 rfl rfl ?_
                refine q_getf (pc' := 84) (v := .ref 60) ja_C_act_81 rfl (by decide) ⟨rfl, by decide⟩ rfl ?_
                refine q_getf (pc' := 87) (v := .int (s57 60 0)) ja_C_act_84 rfl (by decide) ⟨rfl, by decide⟩ rfl ?_
                exact q_iret ja_C_act_87 rfl rfl (k50 h1 h2 h26 h27 h33 h45 h46 s57 e57)
              · intro h47
                refine q_aload_n (pc' := 8) ja_Motions_push_7 rfl rfl ?_
                refine q_virt (pc' := 11) (c := 60) (as := []) (r := []) ja_Motions_push_8 rfl rfl rfl (by decide) ⟨rfl, by decide⟩ ?_
                refine q_in (M := jm_Motions_isFull) rfl (Nat.le_of_ble_eq_true rfl) (ls := [some (.ref 60)]) rfl ?_
                refine q_aload_n (pc' := 1) ja_Motions_isFull_0 rfl rfl ?_
                refine q_getf (pc' := 4) (v := .int (s 60 0)) ja_Motions_isFull_1 rfl (by decide) ⟨rfl, by decide⟩ rfl ?_
                refine q_aload_n (pc' := 5) ja_Motions_isFull_4 rfl rfl ?_
                refine q_getf (pc' := 8) (v := .int (s 60 1)) ja_Motions_isFull_5 rfl (by decide) ⟨rfl, by decide⟩ rfl ?_
                refine q_ic_lt (pc' := 11) ja_Motions_isFull_8 rfl ?_ ?_
                · intro h48
                  refine q_iconst (pc' := 16) ja_Motions_isFull_15 rfl 0 (by decide) ?_
                  refine q_iret ja_Motions_isFull_16 rfl (by decide) ?_
                  show q_W _ _ _ _ 11 [some (.ref 60), some (.int x1), some (.int x2), some (.int (-1)), some (.int x4)] [.int 0] s
                  refine q_if_eq (pc' := 14) ja_Motions_push_11 rfl (fun _ => ?_) (fun h => absurd ((by decide : (0 : Int32) = 0)) h)
                  refine q_aload_n (pc' := 16) ja_Motions_push_15 rfl rfl ?_
                  refine q_getf (pc' := 19) (v := .ref 61) ja_Motions_push_16 rfl (by decide) ⟨rfl, by decide⟩ rfl ?_
                  refine q_aload_n (pc' := 20) ja_Motions_push_19 rfl rfl ?_
                  refine q_getf (pc' := 23) (v := .int (s 60 0)) ja_Motions_push_20 rfl (by decide) ⟨rfl, by decide⟩ rfl ?_
                  refine q_iload_n (pc' := 24) ja_Motions_push_23 rfl rfl ?_
                  refine q_iast (pc' := 25) ja_Motions_push_24 rfl (by decide) (l := 8) rfl (k51 h1 h2 h26 h27 h33 h45 h47 h48) ?_
                  intro s58 e58
                  refine q_aload_n (pc' := 26) ja_Motions_push_25 rfl rfl ?_
                  refine q_getf (pc' := 29) (v := .ref 62) ja_Motions_push_26 rfl (by decide) ⟨rfl, by decide⟩ rfl ?_
                  refine q_aload_n (pc' := 30) ja_Motions_push_29 rfl rfl ?_
                  refine q_getf (pc' := 33) (v := .int (s58 60 0)) ja_Motions_push_30 rfl (by decide) ⟨rfl, by decide⟩ rfl ?_
                  refine q_iload_n (pc' := 34) ja_Motions_push_33 rfl rfl ?_
                  refine q_iast (pc' := 35) ja_Motions_push_34 rfl (by decide) (l := 8) rfl (k52 h1 h2 h26 h27 h33 h45 h47 h48 s58 e58) ?_
                  intro s59 e59
                  refine q_aload_n (pc' := 36) ja_Motions_push_35 rfl rfl ?_
                  refine q_getf (pc' := 39) (v := .ref 63) ja_Motions_push_36 rfl (by decide) ⟨rfl, by decide⟩ rfl ?_
                  refine q_aload_n (pc' := 40) ja_Motions_push_39 rfl rfl ?_
                  refine q_getf (pc' := 43) (v := .int (s59 60 0)) ja_Motions_push_40 rfl (by decide) ⟨rfl, by decide⟩ rfl ?_
                  refine q_iload_n (pc' := 44) ja_Motions_push_43 rfl rfl ?_
                  refine q_iast (pc' := 45) ja_Motions_push_44 rfl (by decide) (l := 8) rfl (k53 h1 h2 h26 h27 h33 h45 h47 h48 s58 e58 s59 e59) ?_
                  intro s60 e60
                  refine q_aload_n (pc' := 46) ja_Motions_push_45 rfl rfl ?_
                  refine q_getf (pc' := 49) (v := .ref 64) ja_Motions_push_46 rfl (by decide) ⟨rfl, by decide⟩ rfl ?_
                  refine q_aload_n (pc' := 50) ja_Motions_push_49 rfl rfl ?_
                  refine q_getf (pc' := 53) (v := .int (s60 60 0)) ja_Motions_push_50 rfl (by decide) ⟨rfl, by decide⟩ rfl ?_
                  refine q_iload (pc' := 55) ja_Motions_push_53 rfl rfl ?_
                  refine q_iast (pc' := 56) ja_Motions_push_55 rfl (by decide) (l := 8) rfl (k54 h1 h2 h26 h27 h33 h45 h47 h48 s58 e58 s59 e59 s60 e60) ?_
                  intro s61 e61
                  refine q_aload_n (pc' := 57) ja_Motions_push_56 rfl rfl ?_
                  refine q_dup (pc' := 58) ja_Motions_push_57 rfl rfl ?_
                  refine q_getf (pc' := 61) (v := .int (s61 60 0)) ja_Motions_push_58 rfl (by decide) ⟨rfl, by decide⟩ rfl ?_
                  refine q_iconst (pc' := 62) ja_Motions_push_61 rfl 1 (by decide) ?_
                  refine q_iadd (pc' := 63) ja_Motions_push_62 rfl ?_
                  refine q_putf (pc' := 66) ja_Motions_push_63 rfl (by decide) rfl rfl rfl ?_
                  intro s62 e62
                  refine q_vret ja_Motions_push_66 rfl ?_
                  show q_W _ _ _ _ 70 [some (.ref 0), some (.int x1), some (.int x2), some (.int x3), some (.int x4), some (.int y0)] [] s62
                  refine q_aload_n (pc' := 71) ja_C_act_70 rfl rfl ?_
                  refine q_dup (pc' := 72) ja_C_act_71 rfl rfl ?_
                  refine q_getf (pc' := 75) (v := .int (s62 0 19)) ja_C_act_72 rfl (by decide) ⟨rfl, by decide⟩ rfl ?_
                  refine q_iconst (pc' := 76) ja_C_act_75 rfl 1 (by decide) ?_
                  refine q_iadd (pc' := 77) ja_C_act_76 rfl ?_
                  refine q_putf (pc' := 80) ja_C_act_77 rfl (by decide) rfl rfl rfl ?_
                  intro s63 e63
                  refine q_aload_n (pc' := 81) ja_C_act_80 rfl rfl ?_
                  refine q_getf (pc' := 84) (v := .ref 60) ja_C_act_81 rfl (by decide) ⟨rfl, by decide⟩ rfl ?_
                  refine q_getf (pc' := 87) (v := .int (s63 60 0)) ja_C_act_84 rfl (by decide) ⟨rfl, by decide⟩ rfl ?_
                  exact q_iret ja_C_act_87 rfl rfl (k55 h1 h2 h26 h27 h33 h45 h47 h48 s58 e58 s59 e59 s60 e60 s61 e61 s62 e62 s63 e63)
                · intro h49
                  refine q_iconst (pc' := 12) ja_Motions_isFull_11 rfl 1 (by decide) ?_
                  refine q_goto ja_Motions_isFull_12 ?_
                  refine q_iret ja_Motions_isFull_16 rfl (by decide) ?_
                  show q_W _ _ _ _ 11 [some (.ref 60), some (.int x1), some (.int x2), some (.int (-1)), some (.int x4)] [.int 1] s
                  refine q_if_eq (pc' := 14) ja_Motions_push_11 rfl (fun h => absurd h ((by decide : ¬ (1 : Int32) = 0))) (fun _ => ?_)
                  refine q_vret ja_Motions_push_14 rfl ?_
                  show q_W _ _ _ _ 70 [some (.ref 0), some (.int x1), some (.int x2), some (.int x3), some (.int x4), some (.int y0)] [] s
                  refine q_aload_n (pc' := 71) ja_C_act_70 rfl rfl ?_
                  refine q_dup (pc' := 72) ja_C_act_71 rfl rfl ?_
                  refine q_getf (pc' := 75) (v := .int (s 0 19)) ja_C_act_72 rfl (by decide) ⟨rfl, by decide⟩ rfl ?_
                  refine q_iconst (pc' := 76) ja_C_act_75 rfl 1 (by decide) ?_
                  refine q_iadd (pc' := 77) ja_C_act_76 rfl ?_
                  refine q_putf (pc' := 80) ja_C_act_77 rfl (by decide) rfl rfl rfl ?_
                  intro s64 e64
                  refine q_aload_n (pc' := 81) ja_C_act_80 rfl rfl ?_
                  refine q_getf (pc' := 84) (v := .ref 60) ja_C_act_81 rfl (by decide) ⟨rfl, by decide⟩ rfl ?_
                  refine q_getf (pc' := 87) (v := .int (s64 60 0)) ja_C_act_84 rfl (by decide) ⟨rfl, by decide⟩ rfl ?_
                  exact q_iret ja_C_act_87 rfl rfl (k56 h1 h2 h26 h27 h33 h45 h47 h49 s64 e64)
        · intro h50
          refine q_iconst (pc' := 11) ja_C_isAmendment_10 rfl 1 (by decide) ?_
          refine q_goto ja_C_isAmendment_11 ?_
          refine q_iret ja_C_isAmendment_15 rfl (by decide) ?_
          show q_W _ _ _ _ 40 [some (.ref 0), some (.int x1), some (.int x2), some (.int x3), some (.int x4), some (.int y0)] [.int 1, .int x2, .int x1, .ref 60] s
          refine q_if_eq (pc' := 43) ja_C_act_40 rfl (fun h => absurd h ((by decide : ¬ (1 : Int32) = 0))) (fun _ => ?_)
          refine q_iload_n (pc' := 44) ja_C_act_43 rfl rfl ?_
          refine q_goto ja_C_act_44 ?_
          refine q_iload_n (pc' := 49) ja_C_act_48 rfl rfl ?_
          refine q_stat (pc' := 52) (as := [.int x1]) (r := [.int x3, .int x2, .int x1, .ref 60]) ja_C_act_49 rfl (by decide) rfl rfl ?_
          refine q_in (M := jm_C_takesWord) rfl (Nat.le_of_ble_eq_true rfl) (ls := [some (.int x1)]) rfl ?_
          refine q_iload_n (pc' := 1) ja_C_takesWord_0 rfl rfl ?_
          refine q_iconst (pc' := 2) ja_C_takesWord_1 rfl 2 (by decide) ?_
          refine q_ic_eq (pc' := 5) ja_C_takesWord_2 rfl ?_ ?_
          · intro h51
            refine q_iconst (pc' := 11) ja_C_takesWord_10 rfl 1 (by decide) ?_
            refine q_goto ja_C_takesWord_11 ?_
            refine q_iret ja_C_takesWord_15 rfl (by decide) ?_
            show q_W _ _ _ _ 52 [some (.ref 0), some (.int x1), some (.int x2), some (.int x3), some (.int x4), some (.int y0)] [.int 1, .int x3, .int x2, .int x1, .ref 60] s
            refine q_if_ne (pc' := 55) ja_C_act_52 rfl (fun _ => ?_) (fun h => absurd h ((by decide : ¬ (1 : Int32) = 0)))
            refine q_iload (pc' := 63) ja_C_act_61 rfl rfl ?_
            refine q_goto ja_C_act_63 ?_
            refine q_virt (pc' := 70) (c := 60) (as := [.int x1, .int x2, .int x3, .int x4]) (r := []) ja_C_act_67 rfl rfl rfl (by decide) ⟨rfl, by decide⟩ ?_
            refine q_in (M := jm_Motions_push) rfl (Nat.le_of_ble_eq_true rfl) (ls := [some (.ref 60), some (.int x1), some (.int x2), some (.int x3), some (.int x4)]) rfl ?_
            refine q_aload_n (pc' := 1) ja_Motions_push_0 rfl rfl ?_
            refine q_getf (pc' := 4) (v := .int (s 60 0)) ja_Motions_push_1 rfl (by decide) ⟨rfl, by decide⟩ rfl ?_
            refine q_if_lt (pc' := 7) ja_Motions_push_4 rfl ?_ ?_
            · intro h52
              refine q_vret ja_Motions_push_14 rfl ?_
              show q_W _ _ _ _ 70 [some (.ref 0), some (.int x1), some (.int x2), some (.int x3), some (.int x4), some (.int y0)] [] s
              refine q_aload_n (pc' := 71) ja_C_act_70 rfl rfl ?_
              refine q_dup (pc' := 72) ja_C_act_71 rfl rfl ?_
              refine q_getf (pc' := 75) (v := .int (s 0 19)) ja_C_act_72 rfl (by decide) ⟨rfl, by decide⟩ rfl ?_
              refine q_iconst (pc' := 76) ja_C_act_75 rfl 1 (by decide) ?_
              refine q_iadd (pc' := 77) ja_C_act_76 rfl ?_
              refine q_putf (pc' := 80) ja_C_act_77 rfl (by decide) rfl rfl rfl ?_
              intro s65 e65
              refine q_aload_n (pc' := 81) ja_C_act_80 rfl rfl ?_
              refine q_getf (pc' := 84) (v := .ref 60) ja_C_act_81 rfl (by decide) ⟨rfl, by decide⟩ rfl ?_
              refine q_getf (pc' := 87) (v := .int (s65 60 0)) ja_C_act_84 rfl (by decide) ⟨rfl, by decide⟩ rfl ?_
              exact q_iret ja_C_act_87 rfl rfl (k57 h1 h2 h26 h50 h51 h52 s65 e65)
            · intro h53
              refine q_aload_n (pc' := 8) ja_Motions_push_7 rfl rfl ?_
              refine q_virt (pc' := 11) (c := 60) (as := []) (r := []) ja_Motions_push_8 rfl rfl rfl (by decide) ⟨rfl, by decide⟩ ?_
              refine q_in (M := jm_Motions_isFull) rfl (Nat.le_of_ble_eq_true rfl) (ls := [some (.ref 60)]) rfl ?_
              refine q_aload_n (pc' := 1) ja_Motions_isFull_0 rfl rfl ?_
              refine q_getf (pc' := 4) (v := .int (s 60 0)) ja_Motions_isFull_1 rfl (by decide) ⟨rfl, by decide⟩ rfl ?_
              refine q_aload_n (pc' := 5) ja_Motions_isFull_4 rfl rfl ?_
              refine q_getf (pc' := 8) (v := .int (s 60 1)) ja_Motions_isFull_5 rfl (by decide) ⟨rfl, by decide⟩ rfl ?_
              refine q_ic_lt (pc' := 11) ja_Motions_isFull_8 rfl ?_ ?_
              · intro h54
                refine q_iconst (pc' := 16) ja_Motions_isFull_15 rfl 0 (by decide) ?_
                refine q_iret ja_Motions_isFull_16 rfl (by decide) ?_
                show q_W _ _ _ _ 11 [some (.ref 60), some (.int x1), some (.int x2), some (.int x3), some (.int x4)] [.int 0] s
                refine q_if_eq (pc' := 14) ja_Motions_push_11 rfl (fun _ => ?_) (fun h => absurd ((by decide : (0 : Int32) = 0)) h)
                refine q_aload_n (pc' := 16) ja_Motions_push_15 rfl rfl ?_
                refine q_getf (pc' := 19) (v := .ref 61) ja_Motions_push_16 rfl (by decide) ⟨rfl, by decide⟩ rfl ?_
                refine q_aload_n (pc' := 20) ja_Motions_push_19 rfl rfl ?_
                refine q_getf (pc' := 23) (v := .int (s 60 0)) ja_Motions_push_20 rfl (by decide) ⟨rfl, by decide⟩ rfl ?_
                refine q_iload_n (pc' := 24) ja_Motions_push_23 rfl rfl ?_
                refine q_iast (pc' := 25) ja_Motions_push_24 rfl (by decide) (l := 8) rfl (k58 h1 h2 h26 h50 h51 h53 h54) ?_
                intro s66 e66
                refine q_aload_n (pc' := 26) ja_Motions_push_25 rfl rfl ?_
                refine q_getf (pc' := 29) (v := .ref 62) ja_Motions_push_26 rfl (by decide) ⟨rfl, by decide⟩ rfl ?_
                refine q_aload_n (pc' := 30) ja_Motions_push_29 rfl rfl ?_
                refine q_getf (pc' := 33) (v := .int (s66 60 0)) ja_Motions_push_30 rfl (by decide) ⟨rfl, by decide⟩ rfl ?_
                refine q_iload_n (pc' := 34) ja_Motions_push_33 rfl rfl ?_
                refine q_iast (pc' := 35) ja_Motions_push_34 rfl (by decide) (l := 8) rfl (k59 h1 h2 h26 h50 h51 h53 h54 s66 e66) ?_
                intro s67 e67
                refine q_aload_n (pc' := 36) ja_Motions_push_35 rfl rfl ?_
                refine q_getf (pc' := 39) (v := .ref 63) ja_Motions_push_36 rfl (by decide) ⟨rfl, by decide⟩ rfl ?_
                refine q_aload_n (pc' := 40) ja_Motions_push_39 rfl rfl ?_
                refine q_getf (pc' := 43) (v := .int (s67 60 0)) ja_Motions_push_40 rfl (by decide) ⟨rfl, by decide⟩ rfl ?_
                refine q_iload_n (pc' := 44) ja_Motions_push_43 rfl rfl ?_
                refine q_iast (pc' := 45) ja_Motions_push_44 rfl (by decide) (l := 8) rfl (k60 h1 h2 h26 h50 h51 h53 h54 s66 e66 s67 e67) ?_
                intro s68 e68
                refine q_aload_n (pc' := 46) ja_Motions_push_45 rfl rfl ?_
                refine q_getf (pc' := 49) (v := .ref 64) ja_Motions_push_46 rfl (by decide) ⟨rfl, by decide⟩ rfl ?_
                refine q_aload_n (pc' := 50) ja_Motions_push_49 rfl rfl ?_
                refine q_getf (pc' := 53) (v := .int (s68 60 0)) ja_Motions_push_50 rfl (by decide) ⟨rfl, by decide⟩ rfl ?_
                refine q_iload (pc' := 55) ja_Motions_push_53 rfl rfl ?_
                refine q_iast (pc' := 56) ja_Motions_push_55 rfl (by decide) (l := 8) rfl (k61 h1 h2 h26 h50 h51 h53 h54 s66 e66 s67 e67 s68 e68) ?_
                intro s69 e69
                refine q_aload_n (pc' := 57) ja_Motions_push_56 rfl rfl ?_
                refine q_dup (pc' := 58) ja_Motions_push_57 rfl rfl ?_
                refine q_getf (pc' := 61) (v := .int (s69 60 0)) ja_Motions_push_58 rfl (by decide) ⟨rfl, by decide⟩ rfl ?_
                refine q_iconst (pc' := 62) ja_Motions_push_61 rfl 1 (by decide) ?_
                refine q_iadd (pc' := 63) ja_Motions_push_62 rfl ?_
                refine q_putf (pc' := 66) ja_Motions_push_63 rfl (by decide) rfl rfl rfl ?_
                intro s70 e70
                refine q_vret ja_Motions_push_66 rfl ?_
                show q_W _ _ _ _ 70 [some (.ref 0), some (.int x1), some (.int x2), some (.int x3), some (.int x4), some (.int y0)] [] s70
                refine q_aload_n (pc' := 71) ja_C_act_70 rfl rfl ?_
                refine q_dup (pc' := 72) ja_C_act_71 rfl rfl ?_
                refine q_getf (pc' := 75) (v := .int (s70 0 19)) ja_C_act_72 rfl (by decide) ⟨rfl, by decide⟩ rfl ?_
                refine q_iconst (pc' := 76) ja_C_act_75 rfl 1 (by decide) ?_
                refine q_iadd (pc' := 77) ja_C_act_76 rfl ?_
                refine q_putf (pc' := 80) ja_C_act_77 rfl (by decide) rfl rfl rfl ?_
                intro s71 e71
                refine q_aload_n (pc' := 81) ja_C_act_80 rfl rfl ?_
                refine q_getf (pc' := 84) (v := .ref 60) ja_C_act_81 rfl (by decide) ⟨rfl, by decide⟩ rfl ?_
                refine q_getf (pc' := 87) (v := .int (s71 60 0)) ja_C_act_84 rfl (by decide) ⟨rfl, by decide⟩ rfl ?_
                exact q_iret ja_C_act_87 rfl rfl (k62 h1 h2 h26 h50 h51 h53 h54 s66 e66 s67 e67 s68 e68 s69 e69 s70 e70 s71 e71)
              · intro h55
                refine q_iconst (pc' := 12) ja_Motions_isFull_11 rfl 1 (by decide) ?_
                refine q_goto ja_Motions_isFull_12 ?_
                refine q_iret ja_Motions_isFull_16 rfl (by decide) ?_
                show q_W _ _ _ _ 11 [some (.ref 60), some (.int x1), some (.int x2), some (.int x3), some (.int x4)] [.int 1] s
                refine q_if_eq (pc' := 14) ja_Motions_push_11 rfl (fun h => absurd h ((by decide : ¬ (1 : Int32) = 0))) (fun _ => ?_)
                refine q_vret ja_Motions_push_14 rfl ?_
                show q_W _ _ _ _ 70 [some (.ref 0), some (.int x1), some (.int x2), some (.int x3), some (.int x4), some (.int y0)] [] s
                refine q_aload_n (pc' := 71) ja_C_act_70 rfl rfl ?_
                refine q_dup (pc' := 72) ja_C_act_71 rfl rfl ?_
                refine q_getf (pc' := 75) (v := .int (s 0 19)) ja_C_act_72 rfl (by decide) ⟨rfl, by decide⟩ rfl ?_
                refine q_iconst (pc' := 76) ja_C_act_75 rfl 1 (by decide) ?_
                refine q_iadd (pc' := 77) ja_C_act_76 rfl ?_
                refine q_putf (pc' := 80) ja_C_act_77 rfl (by decide) rfl rfl rfl ?_
                intro s72 e72
                refine q_aload_n (pc' := 81) ja_C_act_80 rfl rfl ?_
                refine q_getf (pc' := 84) (v := .ref 60) ja_C_act_81 rfl (by decide) ⟨rfl, by decide⟩ rfl ?_
                refine q_getf (pc' := 87) (v := .int (s72 60 0)) ja_C_act_84 rfl (by decide) ⟨rfl, by decide⟩ rfl ?_
                exact q_iret ja_C_act_87 rfl rfl (k63 h1 h2 h26 h50 h51 h53 h55 s72 e72)
          · intro h56
            refine q_iload_n (pc' := 6) ja_C_takesWord_5 rfl rfl ?_
            refine q_iconst (pc' := 7) ja_C_takesWord_6 rfl 3 (by decide) ?_
            refine q_ic_ne (pc' := 10) ja_C_takesWord_7 rfl ?_ ?_
            · intro h57
              refine q_iconst (pc' := 15) ja_C_takesWord_14 rfl 0 (by decide) ?_
              refine q_iret ja_C_takesWord_15 rfl (by decide) ?_
              show q_W _ _ _ _ 52 [some (.ref 0), some (.int x1), some (.int x2), some (.int x3), some (.int x4), some (.int y0)] [.int 0, .int x3, .int x2, .int x1, .ref 60] s
              refine q_if_ne (pc' := 55) ja_C_act_52 rfl (fun h => absurd ((by decide : (0 : Int32) = 0)) h) (fun _ => ?_)
              refine q_iload_n (pc' := 56) ja_C_act_55 rfl rfl ?_
              refine q_bipush (pc' := 58) ja_C_act_56 rfl 6 (by decide) ?_
              refine q_ic_ne (pc' := 61) ja_C_act_58 rfl ?_ ?_
              · intro h58
                refine q_iconst (pc' := 67) ja_C_act_66 rfl (-1) (by decide) ?_
                refine q_virt (pc' := 70) (c := 60) (as := [.int x1, .int x2, .int x3, .int (-1)]) (r := []) ja_C_act_67 rfl rfl rfl (by decide) ⟨rfl, by decide⟩ ?_
                refine q_in (M := jm_Motions_push) rfl (Nat.le_of_ble_eq_true rfl) (ls := [some (.ref 60), some (.int x1), some (.int x2), some (.int x3), some (.int (-1))]) rfl ?_
                refine q_aload_n (pc' := 1) ja_Motions_push_0 rfl rfl ?_
                refine q_getf (pc' := 4) (v := .int (s 60 0)) ja_Motions_push_1 rfl (by decide) ⟨rfl, by decide⟩ rfl ?_
                refine q_if_lt (pc' := 7) ja_Motions_push_4 rfl ?_ ?_
                · intro h59
                  refine q_vret ja_Motions_push_14 rfl ?_
                  show q_W _ _ _ _ 70 [some (.ref 0), some (.int x1), some (.int x2), some (.int x3), some (.int x4), some (.int y0)] [] s
                  refine q_aload_n (pc' := 71) ja_C_act_70 rfl rfl ?_
                  refine q_dup (pc' := 72) ja_C_act_71 rfl rfl ?_
                  refine q_getf (pc' := 75) (v := .int (s 0 19)) ja_C_act_72 rfl (by decide) ⟨rfl, by decide⟩ rfl ?_
                  refine q_iconst (pc' := 76) ja_C_act_75 rfl 1 (by decide) ?_
                  refine q_iadd (pc' := 77) ja_C_act_76 rfl ?_
                  refine q_putf (pc' := 80) ja_C_act_77 rfl (by decide) rfl rfl rfl ?_
                  intro s73 e73
                  refine q_aload_n (pc' := 81) ja_C_act_80 rfl rfl ?_
                  refine q_getf (pc' := 84) (v := .ref 60) ja_C_act_81 rfl (by decide) ⟨rfl, by decide⟩ rfl ?_
                  refine q_getf (pc' := 87) (v := .int (s73 60 0)) ja_C_act_84 rfl (by decide) ⟨rfl, by decide⟩ rfl ?_
                  exact q_iret ja_C_act_87 rfl rfl (k64 h1 h2 h26 h50 h56 h57 h58 h59 s73 e73)
                · intro h60
                  refine q_aload_n (pc' := 8) ja_Motions_push_7 rfl rfl ?_
                  refine q_virt (pc' := 11) (c := 60) (as := []) (r := []) ja_Motions_push_8 rfl rfl rfl (by decide) ⟨rfl, by decide⟩ ?_
                  refine q_in (M := jm_Motions_isFull) rfl (Nat.le_of_ble_eq_true rfl) (ls := [some (.ref 60)]) rfl ?_
                  refine q_aload_n (pc' := 1) ja_Motions_isFull_0 rfl rfl ?_
                  refine q_getf (pc' := 4) (v := .int (s 60 0)) ja_Motions_isFull_1 rfl (by decide) ⟨rfl, by decide⟩ rfl ?_
                  refine q_aload_n (pc' := 5) ja_Motions_isFull_4 rfl rfl ?_
                  refine q_getf (pc' := 8) (v := .int (s 60 1)) ja_Motions_isFull_5 rfl (by decide) ⟨rfl, by decide⟩ rfl ?_
                  refine q_ic_lt (pc' := 11) ja_Motions_isFull_8 rfl ?_ ?_
                  · intro h61
                    refine q_iconst (pc' := 16) ja_Motions_isFull_15 rfl 0 (by decide) ?_
                    refine q_iret ja_Motions_isFull_16 rfl (by decide) ?_
                    show q_W _ _ _ _ 11 [some (.ref 60), some (.int x1), some (.int x2), some (.int x3), some (.int (-1))] [.int 0] s
                    refine q_if_eq (pc' := 14) ja_Motions_push_11 rfl (fun _ => ?_) (fun h => absurd ((by decide : (0 : Int32) = 0)) h)
                    refine q_aload_n (pc' := 16) ja_Motions_push_15 rfl rfl ?_
                    refine q_getf (pc' := 19) (v := .ref 61) ja_Motions_push_16 rfl (by decide) ⟨rfl, by decide⟩ rfl ?_
                    refine q_aload_n (pc' := 20) ja_Motions_push_19 rfl rfl ?_
                    refine q_getf (pc' := 23) (v := .int (s 60 0)) ja_Motions_push_20 rfl (by decide) ⟨rfl, by decide⟩ rfl ?_
                    refine q_iload_n (pc' := 24) ja_Motions_push_23 rfl rfl ?_
                    refine q_iast (pc' := 25) ja_Motions_push_24 rfl (by decide) (l := 8) rfl (k65 h1 h2 h26 h50 h56 h57 h58 h60 h61) ?_
                    intro s74 e74
                    refine q_aload_n (pc' := 26) ja_Motions_push_25 rfl rfl ?_
                    refine q_getf (pc' := 29) (v := .ref 62) ja_Motions_push_26 rfl (by decide) ⟨rfl, by decide⟩ rfl ?_
                    refine q_aload_n (pc' := 30) ja_Motions_push_29 rfl rfl ?_
                    refine q_getf (pc' := 33) (v := .int (s74 60 0)) ja_Motions_push_30 rfl (by decide) ⟨rfl, by decide⟩ rfl ?_
                    refine q_iload_n (pc' := 34) ja_Motions_push_33 rfl rfl ?_
                    refine q_iast (pc' := 35) ja_Motions_push_34 rfl (by decide) (l := 8) rfl (k66 h1 h2 h26 h50 h56 h57 h58 h60 h61 s74 e74) ?_
                    intro s75 e75
                    refine q_aload_n (pc' := 36) ja_Motions_push_35 rfl rfl ?_
                    refine q_getf (pc' := 39) (v := .ref 63) ja_Motions_push_36 rfl (by decide) ⟨rfl, by decide⟩ rfl ?_
                    refine q_aload_n (pc' := 40) ja_Motions_push_39 rfl rfl ?_
                    refine q_getf (pc' := 43) (v := .int (s75 60 0)) ja_Motions_push_40 rfl (by decide) ⟨rfl, by decide⟩ rfl ?_
                    refine q_iload_n (pc' := 44) ja_Motions_push_43 rfl rfl ?_
                    refine q_iast (pc' := 45) ja_Motions_push_44 rfl (by decide) (l := 8) rfl (k67 h1 h2 h26 h50 h56 h57 h58 h60 h61 s74 e74 s75 e75) ?_
                    intro s76 e76
                    refine q_aload_n (pc' := 46) ja_Motions_push_45 rfl rfl ?_
                    refine q_getf (pc' := 49) (v := .ref 64) ja_Motions_push_46 rfl (by decide) ⟨rfl, by decide⟩ rfl ?_
                    refine q_aload_n (pc' := 50) ja_Motions_push_49 rfl rfl ?_
                    refine q_getf (pc' := 53) (v := .int (s76 60 0)) ja_Motions_push_50 rfl (by decide) ⟨rfl, by decide⟩ rfl ?_
                    refine q_iload (pc' := 55) ja_Motions_push_53 rfl rfl ?_
                    refine q_iast (pc' := 56) ja_Motions_push_55 rfl (by decide) (l := 8) rfl (k68 h1 h2 h26 h50 h56 h57 h58 h60 h61 s74 e74 s75 e75 s76 e76) ?_
                    intro s77 e77
                    refine q_aload_n (pc' := 57) ja_Motions_push_56 rfl rfl ?_
                    refine q_dup (pc' := 58) ja_Motions_push_57 rfl rfl ?_
                    refine q_getf (pc' := 61) (v := .int (s77 60 0)) ja_Motions_push_58 rfl (by decide) ⟨rfl, by decide⟩ rfl ?_
                    refine q_iconst (pc' := 62) ja_Motions_push_61 rfl 1 (by decide) ?_
                    refine q_iadd (pc' := 63) ja_Motions_push_62 rfl ?_
                    refine q_putf (pc' := 66) ja_Motions_push_63 rfl (by decide) rfl rfl rfl ?_
                    intro s78 e78
                    refine q_vret ja_Motions_push_66 rfl ?_
                    show q_W _ _ _ _ 70 [some (.ref 0), some (.int x1), some (.int x2), some (.int x3), some (.int x4), some (.int y0)] [] s78
                    refine q_aload_n (pc' := 71) ja_C_act_70 rfl rfl ?_
                    refine q_dup (pc' := 72) ja_C_act_71 rfl rfl ?_
                    refine q_getf (pc' := 75) (v := .int (s78 0 19)) ja_C_act_72 rfl (by decide) ⟨rfl, by decide⟩ rfl ?_
                    refine q_iconst (pc' := 76) ja_C_act_75 rfl 1 (by decide) ?_
                    refine q_iadd (pc' := 77) ja_C_act_76 rfl ?_
                    refine q_putf (pc' := 80) ja_C_act_77 rfl (by decide) rfl rfl rfl ?_
                    intro s79 e79
                    refine q_aload_n (pc' := 81) ja_C_act_80 rfl rfl ?_
                    refine q_getf (pc' := 84) (v := .ref 60) ja_C_act_81 rfl (by decide) ⟨rfl, by decide⟩ rfl ?_
                    refine q_getf (pc' := 87) (v := .int (s79 60 0)) ja_C_act_84 rfl (by decide) ⟨rfl, by decide⟩ rfl ?_
                    exact q_iret ja_C_act_87 rfl rfl (k69 h1 h2 h26 h50 h56 h57 h58 h60 h61 s74 e74 s75 e75 s76 e76 s77 e77 s78 e78 s79 e79)
                  · intro h62
                    refine q_iconst (pc' := 12) ja_Motions_isFull_11 rfl 1 (by decide) ?_
                    refine q_goto ja_Motions_isFull_12 ?_
                    refine q_iret ja_Motions_isFull_16 rfl (by decide) ?_
                    show q_W _ _ _ _ 11 [some (.ref 60), some (.int x1), some (.int x2), some (.int x3), some (.int (-1))] [.int 1] s
                    refine q_if_eq (pc' := 14) ja_Motions_push_11 rfl (fun h => absurd h ((by decide : ¬ (1 : Int32) = 0))) (fun _ => ?_)
                    refine q_vret ja_Motions_push_14 rfl ?_
                    show q_W _ _ _ _ 70 [some (.ref 0), some (.int x1), some (.int x2), some (.int x3), some (.int x4), some (.int y0)] [] s
                    refine q_aload_n (pc' := 71) ja_C_act_70 rfl rfl ?_
                    refine q_dup (pc' := 72) ja_C_act_71 rfl rfl ?_
                    refine q_getf (pc' := 75) (v := .int (s 0 19)) ja_C_act_72 rfl (by decide) ⟨rfl, by decide⟩ rfl ?_
                    refine q_iconst (pc' := 76) ja_C_act_75 rfl 1 (by decide) ?_
                    refine q_iadd (pc' := 77) ja_C_act_76 rfl ?_
                    refine q_putf (pc' := 80) ja_C_act_77 rfl (by decide) rfl rfl rfl ?_
                    intro s80 e80
                    refine q_aload_n (pc' := 81) ja_C_act_80 rfl rfl ?_
                    refine q_getf (pc' := 84) (v := .ref 60) ja_C_act_81 rfl (by decide) ⟨rfl, by decide⟩ rfl ?_
                    refine q_getf (pc' := 87) (v := .int (s80 60 0)) ja_C_act_84 rfl (by decide) ⟨rfl, by decide⟩ rfl ?_
                    exact q_iret ja_C_act_87 rfl rfl (k70 h1 h2 h26 h50 h56 h57 h58 h60 h62 s80 e80)
              · intro h63
                refine q_iload (pc' := 63) ja_C_act_61 rfl rfl ?_
                refine q_goto ja_C_act_63 ?_
                refine q_virt (pc' := 70) (c := 60) (as := [.int x1, .int x2, .int x3, .int x4]) (r := []) ja_C_act_67 rfl rfl rfl (by decide) ⟨rfl, by decide⟩ ?_
                refine q_in (M := jm_Motions_push) rfl (Nat.le_of_ble_eq_true rfl) (ls := [some (.ref 60), some (.int x1), some (.int x2), some (.int x3), some (.int x4)]) rfl ?_
                refine q_aload_n (pc' := 1) ja_Motions_push_0 rfl rfl ?_
                refine q_getf (pc' := 4) (v := .int (s 60 0)) ja_Motions_push_1 rfl (by decide) ⟨rfl, by decide⟩ rfl ?_
                refine q_if_lt (pc' := 7) ja_Motions_push_4 rfl ?_ ?_
                · intro h64
                  refine q_vret ja_Motions_push_14 rfl ?_
                  show q_W _ _ _ _ 70 [some (.ref 0), some (.int x1), some (.int x2), some (.int x3), some (.int x4), some (.int y0)] [] s
                  refine q_aload_n (pc' := 71) ja_C_act_70 rfl rfl ?_
                  refine q_dup (pc' := 72) ja_C_act_71 rfl rfl ?_
                  refine q_getf (pc' := 75) (v := .int (s 0 19)) ja_C_act_72 rfl (by decide) ⟨rfl, by decide⟩ rfl ?_
                  refine q_iconst (pc' := 76) ja_C_act_75 rfl 1 (by decide) ?_
                  refine q_iadd (pc' := 77) ja_C_act_76 rfl ?_
                  refine q_putf (pc' := 80) ja_C_act_77 rfl (by decide) rfl rfl rfl ?_
                  intro s81 e81
                  refine q_aload_n (pc' := 81) ja_C_act_80 rfl rfl ?_
                  refine q_getf (pc' := 84) (v := .ref 60) ja_C_act_81 rfl (by decide) ⟨rfl, by decide⟩ rfl ?_
                  refine q_getf (pc' := 87) (v := .int (s81 60 0)) ja_C_act_84 rfl (by decide) ⟨rfl, by decide⟩ rfl ?_
                  exact q_iret ja_C_act_87 rfl rfl (k71 h1 h2 h26 h50 h56 h57 h63 h64 s81 e81)
                · intro h65
                  refine q_aload_n (pc' := 8) ja_Motions_push_7 rfl rfl ?_
                  refine q_virt (pc' := 11) (c := 60) (as := []) (r := []) ja_Motions_push_8 rfl rfl rfl (by decide) ⟨rfl, by decide⟩ ?_
                  refine q_in (M := jm_Motions_isFull) rfl (Nat.le_of_ble_eq_true rfl) (ls := [some (.ref 60)]) rfl ?_
                  refine q_aload_n (pc' := 1) ja_Motions_isFull_0 rfl rfl ?_
                  refine q_getf (pc' := 4) (v := .int (s 60 0)) ja_Motions_isFull_1 rfl (by decide) ⟨rfl, by decide⟩ rfl ?_
                  refine q_aload_n (pc' := 5) ja_Motions_isFull_4 rfl rfl ?_
                  refine q_getf (pc' := 8) (v := .int (s 60 1)) ja_Motions_isFull_5 rfl (by decide) ⟨rfl, by decide⟩ rfl ?_
                  refine q_ic_lt (pc' := 11) ja_Motions_isFull_8 rfl ?_ ?_
                  · intro h66
                    refine q_iconst (pc' := 16) ja_Motions_isFull_15 rfl 0 (by decide) ?_
                    refine q_iret ja_Motions_isFull_16 rfl (by decide) ?_
                    show q_W _ _ _ _ 11 [some (.ref 60), some (.int x1), some (.int x2), some (.int x3), some (.int x4)] [.int 0] s
                    refine q_if_eq (pc' := 14) ja_Motions_push_11 rfl (fun _ => ?_) (fun h => absurd ((by decide : (0 : Int32) = 0)) h)
                    refine q_aload_n (pc' := 16) ja_Motions_push_15 rfl rfl ?_
                    refine q_getf (pc' := 19) (v := .ref 61) ja_Motions_push_16 rfl (by decide) ⟨rfl, by decide⟩ rfl ?_
                    refine q_aload_n (pc' := 20) ja_Motions_push_19 rfl rfl ?_
                    refine q_getf (pc' := 23) (v := .int (s 60 0)) ja_Motions_push_20 rfl (by decide) ⟨rfl, by decide⟩ rfl ?_
                    refine q_iload_n (pc' := 24) ja_Motions_push_23 rfl rfl ?_
                    refine q_iast (pc' := 25) ja_Motions_push_24 rfl (by decide) (l := 8) rfl (k72 h1 h2 h26 h50 h56 h57 h63 h65 h66) ?_
                    intro s82 e82
                    refine q_aload_n (pc' := 26) ja_Motions_push_25 rfl rfl ?_
                    refine q_getf (pc' := 29) (v := .ref 62) ja_Motions_push_26 rfl (by decide) ⟨rfl, by decide⟩ rfl ?_
                    refine q_aload_n (pc' := 30) ja_Motions_push_29 rfl rfl ?_
                    refine q_getf (pc' := 33) (v := .int (s82 60 0)) ja_Motions_push_30 rfl (by decide) ⟨rfl, by decide⟩ rfl ?_
                    refine q_iload_n (pc' := 34) ja_Motions_push_33 rfl rfl ?_
                    refine q_iast (pc' := 35) ja_Motions_push_34 rfl (by decide) (l := 8) rfl (k73 h1 h2 h26 h50 h56 h57 h63 h65 h66 s82 e82) ?_
                    intro s83 e83
                    refine q_aload_n (pc' := 36) ja_Motions_push_35 rfl rfl ?_
                    refine q_getf (pc' := 39) (v := .ref 63) ja_Motions_push_36 rfl (by decide) ⟨rfl, by decide⟩ rfl ?_
                    refine q_aload_n (pc' := 40) ja_Motions_push_39 rfl rfl ?_
                    refine q_getf (pc' := 43) (v := .int (s83 60 0)) ja_Motions_push_40 rfl (by decide) ⟨rfl, by decide⟩ rfl ?_
                    refine q_iload_n (pc' := 44) ja_Motions_push_43 rfl rfl ?_
                    refine q_iast (pc' := 45) ja_Motions_push_44 rfl (by decide) (l := 8) rfl (k74 h1 h2 h26 h50 h56 h57 h63 h65 h66 s82 e82 s83 e83) ?_
                    intro s84 e84
                    refine q_aload_n (pc' := 46) ja_Motions_push_45 rfl rfl ?_
                    refine q_getf (pc' := 49) (v := .ref 64) ja_Motions_push_46 rfl (by decide) ⟨rfl, by decide⟩ rfl ?_
                    refine q_aload_n (pc' := 50) ja_Motions_push_49 rfl rfl ?_
                    refine q_getf (pc' := 53) (v := .int (s84 60 0)) ja_Motions_push_50 rfl (by decide) ⟨rfl, by decide⟩ rfl ?_
                    refine q_iload (pc' := 55) ja_Motions_push_53 rfl rfl ?_
                    refine q_iast (pc' := 56) ja_Motions_push_55 rfl (by decide) (l := 8) rfl (k75 h1 h2 h26 h50 h56 h57 h63 h65 h66 s82 e82 s83 e83 s84 e84) ?_
                    intro s85 e85
                    refine q_aload_n (pc' := 57) ja_Motions_push_56 rfl rfl ?_
                    refine q_dup (pc' := 58) ja_Motions_push_57 rfl rfl ?_
                    refine q_getf (pc' := 61) (v := .int (s85 60 0)) ja_Motions_push_58 rfl (by decide) ⟨rfl, by decide⟩ rfl ?_
                    refine q_iconst (pc' := 62) ja_Motions_push_61 rfl 1 (by decide) ?_
                    refine q_iadd (pc' := 63) ja_Motions_push_62 rfl ?_
                    refine q_putf (pc' := 66) ja_Motions_push_63 rfl (by decide) rfl rfl rfl ?_
                    intro s86 e86
                    refine q_vret ja_Motions_push_66 rfl ?_
                    show q_W _ _ _ _ 70 [some (.ref 0), some (.int x1), some (.int x2), some (.int x3), some (.int x4), some (.int y0)] [] s86
                    refine q_aload_n (pc' := 71) ja_C_act_70 rfl rfl ?_
                    refine q_dup (pc' := 72) ja_C_act_71 rfl rfl ?_
                    refine q_getf (pc' := 75) (v := .int (s86 0 19)) ja_C_act_72 rfl (by decide) ⟨rfl, by decide⟩ rfl ?_
                    refine q_iconst (pc' := 76) ja_C_act_75 rfl 1 (by decide) ?_
                    refine q_iadd (pc' := 77) ja_C_act_76 rfl ?_
                    refine q_putf (pc' := 80) ja_C_act_77 rfl (by decide) rfl rfl rfl ?_
                    intro s87 e87
                    refine q_aload_n (pc' := 81) ja_C_act_80 rfl rfl ?_
                    refine q_getf (pc' := 84) (v := .ref 60) ja_C_act_81 rfl (by decide) ⟨rfl, by decide⟩ rfl ?_
                    refine q_getf (pc' := 87) (v := .int (s87 60 0)) ja_C_act_84 rfl (by decide) ⟨rfl, by decide⟩ rfl ?_
                    exact q_iret ja_C_act_87 rfl rfl (k76 h1 h2 h26 h50 h56 h57 h63 h65 h66 s82 e82 s83 e83 s84 e84 s85 e85 s86 e86 s87 e87)
                  · intro h67
                    refine q_iconst (pc' := 12) ja_Motions_isFull_11 rfl 1 (by decide) ?_
                    refine q_goto ja_Motions_isFull_12 ?_
                    refine q_iret ja_Motions_isFull_16 rfl (by decide) ?_
                    show q_W _ _ _ _ 11 [some (.ref 60), some (.int x1), some (.int x2), some (.int x3), some (.int x4)] [.int 1] s
                    refine q_if_eq (pc' := 14) ja_Motions_push_11 rfl (fun h => absurd h ((by decide : ¬ (1 : Int32) = 0))) (fun _ => ?_)
                    refine q_vret ja_Motions_push_14 rfl ?_
                    show q_W _ _ _ _ 70 [some (.ref 0), some (.int x1), some (.int x2), some (.int x3), some (.int x4), some (.int y0)] [] s
                    refine q_aload_n (pc' := 71) ja_C_act_70 rfl rfl ?_
                    refine q_dup (pc' := 72) ja_C_act_71 rfl rfl ?_
                    refine q_getf (pc' := 75) (v := .int (s 0 19)) ja_C_act_72 rfl (by decide) ⟨rfl, by decide⟩ rfl ?_
                    refine q_iconst (pc' := 76) ja_C_act_75 rfl 1 (by decide) ?_
                    refine q_iadd (pc' := 77) ja_C_act_76 rfl ?_
                    refine q_putf (pc' := 80) ja_C_act_77 rfl (by decide) rfl rfl rfl ?_
                    intro s88 e88
                    refine q_aload_n (pc' := 81) ja_C_act_80 rfl rfl ?_
                    refine q_getf (pc' := 84) (v := .ref 60) ja_C_act_81 rfl (by decide) ⟨rfl, by decide⟩ rfl ?_
                    refine q_getf (pc' := 87) (v := .int (s88 60 0)) ja_C_act_84 rfl (by decide) ⟨rfl, by decide⟩ rfl ?_
                    exact q_iret ja_C_act_87 rfl rfl (k77 h1 h2 h26 h50 h56 h57 h63 h65 h67 s88 e88)
            · intro h68
              refine q_iconst (pc' := 11) ja_C_takesWord_10 rfl 1 (by decide) ?_
              refine q_goto ja_C_takesWord_11 ?_
              refine q_iret ja_C_takesWord_15 rfl (by decide) ?_
              show q_W _ _ _ _ 52 [some (.ref 0), some (.int x1), some (.int x2), some (.int x3), some (.int x4), some (.int y0)] [.int 1, .int x3, .int x2, .int x1, .ref 60] s
              refine q_if_ne (pc' := 55) ja_C_act_52 rfl (fun _ => ?_) (fun h => absurd h ((by decide : ¬ (1 : Int32) = 0)))
              refine q_iload (pc' := 63) ja_C_act_61 rfl rfl ?_
              refine q_goto ja_C_act_63 ?_
              refine q_virt (pc' := 70) (c := 60) (as := [.int x1, .int x2, .int x3, .int x4]) (r := []) ja_C_act_67 rfl rfl rfl (by decide) ⟨rfl, by decide⟩ ?_
              refine q_in (M := jm_Motions_push) rfl (Nat.le_of_ble_eq_true rfl) (ls := [some (.ref 60), some (.int x1), some (.int x2), some (.int x3), some (.int x4)]) rfl ?_
              refine q_aload_n (pc' := 1) ja_Motions_push_0 rfl rfl ?_
              refine q_getf (pc' := 4) (v := .int (s 60 0)) ja_Motions_push_1 rfl (by decide) ⟨rfl, by decide⟩ rfl ?_
              refine q_if_lt (pc' := 7) ja_Motions_push_4 rfl ?_ ?_
              · intro h69
                refine q_vret ja_Motions_push_14 rfl ?_
                show q_W _ _ _ _ 70 [some (.ref 0), some (.int x1), some (.int x2), some (.int x3), some (.int x4), some (.int y0)] [] s
                refine q_aload_n (pc' := 71) ja_C_act_70 rfl rfl ?_
                refine q_dup (pc' := 72) ja_C_act_71 rfl rfl ?_
                refine q_getf (pc' := 75) (v := .int (s 0 19)) ja_C_act_72 rfl (by decide) ⟨rfl, by decide⟩ rfl ?_
                refine q_iconst (pc' := 76) ja_C_act_75 rfl 1 (by decide) ?_
                refine q_iadd (pc' := 77) ja_C_act_76 rfl ?_
                refine q_putf (pc' := 80) ja_C_act_77 rfl (by decide) rfl rfl rfl ?_
                intro s89 e89
                refine q_aload_n (pc' := 81) ja_C_act_80 rfl rfl ?_
                refine q_getf (pc' := 84) (v := .ref 60) ja_C_act_81 rfl (by decide) ⟨rfl, by decide⟩ rfl ?_
                refine q_getf (pc' := 87) (v := .int (s89 60 0)) ja_C_act_84 rfl (by decide) ⟨rfl, by decide⟩ rfl ?_
                exact q_iret ja_C_act_87 rfl rfl (k78 h1 h2 h26 h50 h56 h68 h69 s89 e89)
              · intro h70
                refine q_aload_n (pc' := 8) ja_Motions_push_7 rfl rfl ?_
                refine q_virt (pc' := 11) (c := 60) (as := []) (r := []) ja_Motions_push_8 rfl rfl rfl (by decide) ⟨rfl, by decide⟩ ?_
                refine q_in (M := jm_Motions_isFull) rfl (Nat.le_of_ble_eq_true rfl) (ls := [some (.ref 60)]) rfl ?_
                refine q_aload_n (pc' := 1) ja_Motions_isFull_0 rfl rfl ?_
                refine q_getf (pc' := 4) (v := .int (s 60 0)) ja_Motions_isFull_1 rfl (by decide) ⟨rfl, by decide⟩ rfl ?_
                refine q_aload_n (pc' := 5) ja_Motions_isFull_4 rfl rfl ?_
                refine q_getf (pc' := 8) (v := .int (s 60 1)) ja_Motions_isFull_5 rfl (by decide) ⟨rfl, by decide⟩ rfl ?_
                refine q_ic_lt (pc' := 11) ja_Motions_isFull_8 rfl ?_ ?_
                · intro h71
                  refine q_iconst (pc' := 16) ja_Motions_isFull_15 rfl 0 (by decide) ?_
                  refine q_iret ja_Motions_isFull_16 rfl (by decide) ?_
                  show q_W _ _ _ _ 11 [some (.ref 60), some (.int x1), some (.int x2), some (.int x3), some (.int x4)] [.int 0] s
                  refine q_if_eq (pc' := 14) ja_Motions_push_11 rfl (fun _ => ?_) (fun h => absurd ((by decide : (0 : Int32) = 0)) h)
                  refine q_aload_n (pc' := 16) ja_Motions_push_15 rfl rfl ?_
                  refine q_getf (pc' := 19) (v := .ref 61) ja_Motions_push_16 rfl (by decide) ⟨rfl, by decide⟩ rfl ?_
                  refine q_aload_n (pc' := 20) ja_Motions_push_19 rfl rfl ?_
                  refine q_getf (pc' := 23) (v := .int (s 60 0)) ja_Motions_push_20 rfl (by decide) ⟨rfl, by decide⟩ rfl ?_
                  refine q_iload_n (pc' := 24) ja_Motions_push_23 rfl rfl ?_
                  refine q_iast (pc' := 25) ja_Motions_push_24 rfl (by decide) (l := 8) rfl (k79 h1 h2 h26 h50 h56 h68 h70 h71) ?_
                  intro s90 e90
                  refine q_aload_n (pc' := 26) ja_Motions_push_25 rfl rfl ?_
                  refine q_getf (pc' := 29) (v := .ref 62) ja_Motions_push_26 rfl (by decide) ⟨rfl, by decide⟩ rfl ?_
                  refine q_aload_n (pc' := 30) ja_Motions_push_29 rfl rfl ?_
                  refine q_getf (pc' := 33) (v := .int (s90 60 0)) ja_Motions_push_30 rfl (by decide) ⟨rfl, by decide⟩ rfl ?_
                  refine q_iload_n (pc' := 34) ja_Motions_push_33 rfl rfl ?_
                  refine q_iast (pc' := 35) ja_Motions_push_34 rfl (by decide) (l := 8) rfl (k80 h1 h2 h26 h50 h56 h68 h70 h71 s90 e90) ?_
                  intro s91 e91
                  refine q_aload_n (pc' := 36) ja_Motions_push_35 rfl rfl ?_
                  refine q_getf (pc' := 39) (v := .ref 63) ja_Motions_push_36 rfl (by decide) ⟨rfl, by decide⟩ rfl ?_
                  refine q_aload_n (pc' := 40) ja_Motions_push_39 rfl rfl ?_
                  refine q_getf (pc' := 43) (v := .int (s91 60 0)) ja_Motions_push_40 rfl (by decide) ⟨rfl, by decide⟩ rfl ?_
                  refine q_iload_n (pc' := 44) ja_Motions_push_43 rfl rfl ?_
                  refine q_iast (pc' := 45) ja_Motions_push_44 rfl (by decide) (l := 8) rfl (k81 h1 h2 h26 h50 h56 h68 h70 h71 s90 e90 s91 e91) ?_
                  intro s92 e92
                  refine q_aload_n (pc' := 46) ja_Motions_push_45 rfl rfl ?_
                  refine q_getf (pc' := 49) (v := .ref 64) ja_Motions_push_46 rfl (by decide) ⟨rfl, by decide⟩ rfl ?_
                  refine q_aload_n (pc' := 50) ja_Motions_push_49 rfl rfl ?_
                  refine q_getf (pc' := 53) (v := .int (s92 60 0)) ja_Motions_push_50 rfl (by decide) ⟨rfl, by decide⟩ rfl ?_
                  refine q_iload (pc' := 55) ja_Motions_push_53 rfl rfl ?_
                  refine q_iast (pc' := 56) ja_Motions_push_55 rfl (by decide) (l := 8) rfl (k82 h1 h2 h26 h50 h56 h68 h70 h71 s90 e90 s91 e91 s92 e92) ?_
                  intro s93 e93
                  refine q_aload_n (pc' := 57) ja_Motions_push_56 rfl rfl ?_
                  refine q_dup (pc' := 58) ja_Motions_push_57 rfl rfl ?_
                  refine q_getf (pc' := 61) (v := .int (s93 60 0)) ja_Motions_push_58 rfl (by decide) ⟨rfl, by decide⟩ rfl ?_
                  refine q_iconst (pc' := 62) ja_Motions_push_61 rfl 1 (by decide) ?_
                  refine q_iadd (pc' := 63) ja_Motions_push_62 rfl ?_
                  refine q_putf (pc' := 66) ja_Motions_push_63 rfl (by decide) rfl rfl rfl ?_
                  intro s94 e94
                  refine q_vret ja_Motions_push_66 rfl ?_
                  show q_W _ _ _ _ 70 [some (.ref 0), some (.int x1), some (.int x2), some (.int x3), some (.int x4), some (.int y0)] [] s94
                  refine q_aload_n (pc' := 71) ja_C_act_70 rfl rfl ?_
                  refine q_dup (pc' := 72) ja_C_act_71 rfl rfl ?_
                  refine q_getf (pc' := 75) (v := .int (s94 0 19)) ja_C_act_72 rfl (by decide) ⟨rfl, by decide⟩ rfl ?_
                  refine q_iconst (pc' := 76) ja_C_act_75 rfl 1 (by decide) ?_
                  refine q_iadd (pc' := 77) ja_C_act_76 rfl ?_
                  refine q_putf (pc' := 80) ja_C_act_77 rfl (by decide) rfl rfl rfl ?_
                  intro s95 e95
                  refine q_aload_n (pc' := 81) ja_C_act_80 rfl rfl ?_
                  refine q_getf (pc' := 84) (v := .ref 60) ja_C_act_81 rfl (by decide) ⟨rfl, by decide⟩ rfl ?_
                  refine q_getf (pc' := 87) (v := .int (s95 60 0)) ja_C_act_84 rfl (by decide) ⟨rfl, by decide⟩ rfl ?_
                  exact q_iret ja_C_act_87 rfl rfl (k83 h1 h2 h26 h50 h56 h68 h70 h71 s90 e90 s91 e91 s92 e92 s93 e93 s94 e94 s95 e95)
                · intro h72
                  refine q_iconst (pc' := 12) ja_Motions_isFull_11 rfl 1 (by decide) ?_
                  refine q_goto ja_Motions_isFull_12 ?_
                  refine q_iret ja_Motions_isFull_16 rfl (by decide) ?_
                  show q_W _ _ _ _ 11 [some (.ref 60), some (.int x1), some (.int x2), some (.int x3), some (.int x4)] [.int 1] s
                  refine q_if_eq (pc' := 14) ja_Motions_push_11 rfl (fun h => absurd h ((by decide : ¬ (1 : Int32) = 0))) (fun _ => ?_)
                  refine q_vret ja_Motions_push_14 rfl ?_
                  show q_W _ _ _ _ 70 [some (.ref 0), some (.int x1), some (.int x2), some (.int x3), some (.int x4), some (.int y0)] [] s
                  refine q_aload_n (pc' := 71) ja_C_act_70 rfl rfl ?_
                  refine q_dup (pc' := 72) ja_C_act_71 rfl rfl ?_
                  refine q_getf (pc' := 75) (v := .int (s 0 19)) ja_C_act_72 rfl (by decide) ⟨rfl, by decide⟩ rfl ?_
                  refine q_iconst (pc' := 76) ja_C_act_75 rfl 1 (by decide) ?_
                  refine q_iadd (pc' := 77) ja_C_act_76 rfl ?_
                  refine q_putf (pc' := 80) ja_C_act_77 rfl (by decide) rfl rfl rfl ?_
                  intro s96 e96
                  refine q_aload_n (pc' := 81) ja_C_act_80 rfl rfl ?_
                  refine q_getf (pc' := 84) (v := .ref 60) ja_C_act_81 rfl (by decide) ⟨rfl, by decide⟩ rfl ?_
                  refine q_getf (pc' := 87) (v := .int (s96 60 0)) ja_C_act_84 rfl (by decide) ⟨rfl, by decide⟩ rfl ?_
                  exact q_iret ja_C_act_87 rfl rfl (k84 h1 h2 h26 h50 h56 h68 h70 h72 s96 e96)
    · intro h73
      refine q_bipush (pc' := 26) ja_C_act_24 rfl (-20) (by decide) ?_
      refine q_iload (pc' := 28) ja_C_act_26 rfl rfl ?_
      refine q_isub (pc' := 29) ja_C_act_28 rfl ?_
      exact q_iret ja_C_act_29 rfl rfl (k85 h1 h73)
  · intro h74
    refine q_iload (pc' := 18) ja_C_act_16 rfl rfl ?_
    exact q_iret ja_C_act_18 rfl rfl (k86 h74)
set_option maxRecDepth 20000 in
theorem t_C_amendFloor {G : jv_X} {d : Nat} {B : Option Value → jg_H → Prop} {s : jg_H} (a1 : Int32) (a2 : Int32) (a3 : Int32)
    (k1 : (s 0 6) < 0 → q_P G (d + 2) 54 [.ref 58, .int a1, .int a2, .int a3] s (fun v t => q_W G (d + 2) jm_C_amendFloor B 10 [some (.ref 0), some (.int a1), some (.int a2), some (.int a3)] (v.toList ++ []) t))
    (k2 : ¬ (s 0 6) < 0 → ¬ (s 0 6) < (s 0 3) → q_P G (d + 2) 54 [.ref 58, .int a1, .int a2, .int a3] s (fun v t => q_W G (d + 2) jm_C_amendFloor B 10 [some (.ref 0), some (.int a1), some (.int a2), some (.int a3)] (v.toList ++ []) t))
    (k3 : ¬ (s 0 6) < 0 → (s 0 6) < (s 0 3) → ¬ (s 0 6) < 8 → q_P G (d + 2) 54 [.ref 58, .int a1, .int a2, .int a3] s (fun v t => q_W G (d + 2) jm_C_amendFloor B 10 [some (.ref 0), some (.int a1), some (.int a2), some (.int a3)] (v.toList ++ []) t))
    (k4 : ¬ (s 0 6) < 0 → (s 0 6) < (s 0 3) → (s 0 6) < 8 → q_P G (d + 2) 54 [.ref ((33 + 3 * (s 0 6).toNatClampNeg) + 1), .int a1, .int a2, .int a3] s (fun v t => q_W G (d + 2) jm_C_amendFloor B 10 [some (.ref 0), some (.int a1), some (.int a2), some (.int a3)] (v.toList ++ []) t)) :
    q_P G (d + 3) 99 [.ref 0, .int a1, .int a2, .int a3] s B := by
  refine q_in (M := jm_C_amendFloor) rfl (Nat.le_of_ble_eq_true rfl) (ls := [some (.ref 0), some (.int a1), some (.int a2), some (.int a3)]) rfl ?_
  refine q_aload_n (pc' := 1) ja_C_amendFloor_0 rfl rfl ?_
  refine q_virt (pc' := 4) (c := 0) (as := []) (r := []) ja_C_amendFloor_1 rfl rfl rfl (by decide) ⟨rfl, by decide⟩ ?_
  refine q_in (M := jm_C_floor) rfl (Nat.le_of_ble_eq_true rfl) (ls := [some (.ref 0)]) rfl ?_
  refine q_aload_n (pc' := 1) ja_C_floor_0 rfl rfl ?_
  refine q_aload_n (pc' := 2) ja_C_floor_1 rfl rfl ?_
  refine q_getf (pc' := 5) (v := .int (s 0 6)) ja_C_floor_2 rfl (by decide) ⟨rfl, by decide⟩ rfl ?_
  refine q_virt (pc' := 8) (c := 0) (as := [.int (s 0 6)]) (r := []) ja_C_floor_5 rfl rfl rfl (by decide) ⟨rfl, by decide⟩ ?_
  refine q_in (M := jm_C_isBill) rfl (Nat.le_of_ble_eq_true rfl) (ls := [some (.ref 0), some (.int (s 0 6))]) rfl ?_
  refine q_iload_n (pc' := 1) ja_C_isBill_0 rfl rfl ?_
  refine q_if_lt (pc' := 4) ja_C_isBill_1 rfl ?_ ?_
  · intro h1
    refine q_iconst (pc' := 26) ja_C_isBill_25 rfl 0 (by decide) ?_
    refine q_iret ja_C_isBill_26 rfl (by decide) ?_
    show q_W _ _ _ _ 8 [some (.ref 0)] [.int 0] s
    refine q_if_eq (pc' := 11) ja_C_floor_8 rfl (fun _ => ?_) (fun h => absurd ((by decide : (0 : Int32) = 0)) h)
    refine q_aload_n (pc' := 27) ja_C_floor_26 rfl rfl ?_
    refine q_getf (pc' := 30) (v := .ref 58) ja_C_floor_27 rfl (by decide) ⟨rfl, by decide⟩ rfl ?_
    refine q_aret ja_C_floor_30 rfl ?_
    show q_W _ _ _ _ 4 [some (.ref 0), some (.int a1), some (.int a2), some (.int a3)] [.ref 58] s
    refine q_iload_n (pc' := 5) ja_C_amendFloor_4 rfl rfl ?_
    refine q_iload_n (pc' := 6) ja_C_amendFloor_5 rfl rfl ?_
    refine q_iload_n (pc' := 7) ja_C_amendFloor_6 rfl rfl ?_
    refine q_virt (pc' := 10) (c := 58) (as := [.int a1, .int a2, .int a3]) (r := []) ja_C_amendFloor_7 rfl rfl rfl (by decide) ⟨rfl, by decide⟩ ?_
    exact (k1 h1)
  · intro h2
    refine q_iload_n (pc' := 5) ja_C_isBill_4 rfl rfl ?_
    refine q_aload_n (pc' := 6) ja_C_isBill_5 rfl rfl ?_
    refine q_getf (pc' := 9) (v := .int (s 0 3)) ja_C_isBill_6 rfl (by decide) ⟨rfl, by decide⟩ rfl ?_
    refine q_ic_ge (pc' := 12) ja_C_isBill_9 rfl ?_ ?_
    · intro h3
      refine q_iconst (pc' := 26) ja_C_isBill_25 rfl 0 (by decide) ?_
      refine q_iret ja_C_isBill_26 rfl (by decide) ?_
      show q_W _ _ _ _ 8 [some (.ref 0)] [.int 0] s
      refine q_if_eq (pc' := 11) ja_C_floor_8 rfl (fun _ => ?_) (fun h => absurd ((by decide : (0 : Int32) = 0)) h)
      refine q_aload_n (pc' := 27) ja_C_floor_26 rfl rfl ?_
      refine q_getf (pc' := 30) (v := .ref 58) ja_C_floor_27 rfl (by decide) ⟨rfl, by decide⟩ rfl ?_
      refine q_aret ja_C_floor_30 rfl ?_
      show q_W _ _ _ _ 4 [some (.ref 0), some (.int a1), some (.int a2), some (.int a3)] [.ref 58] s
      refine q_iload_n (pc' := 5) ja_C_amendFloor_4 rfl rfl ?_
      refine q_iload_n (pc' := 6) ja_C_amendFloor_5 rfl rfl ?_
      refine q_iload_n (pc' := 7) ja_C_amendFloor_6 rfl rfl ?_
      refine q_virt (pc' := 10) (c := 58) (as := [.int a1, .int a2, .int a3]) (r := []) ja_C_amendFloor_7 rfl rfl rfl (by decide) ⟨rfl, by decide⟩ ?_
      exact (k2 h2 h3)
    · intro h4
      refine q_iload_n (pc' := 13) ja_C_isBill_12 rfl rfl ?_
      refine q_aload_n (pc' := 14) ja_C_isBill_13 rfl rfl ?_
      refine q_getf (pc' := 17) (v := .ref 32) ja_C_isBill_14 rfl (by decide) ⟨rfl, by decide⟩ rfl ?_
      refine q_alen (pc' := 18) ja_C_isBill_17 rfl (by decide) (kd := 17) (l := 8) rfl (by decide) (v := 8) (by decide) ?_
      refine q_ic_ge (pc' := 21) ja_C_isBill_18 rfl ?_ ?_
      · intro h5
        refine q_iconst (pc' := 26) ja_C_isBill_25 rfl 0 (by decide) ?_
        refine q_iret ja_C_isBill_26 rfl (by decide) ?_
        show q_W _ _ _ _ 8 [some (.ref 0)] [.int 0] s
        refine q_if_eq (pc' := 11) ja_C_floor_8 rfl (fun _ => ?_) (fun h => absurd ((by decide : (0 : Int32) = 0)) h)
        refine q_aload_n (pc' := 27) ja_C_floor_26 rfl rfl ?_
        refine q_getf (pc' := 30) (v := .ref 58) ja_C_floor_27 rfl (by decide) ⟨rfl, by decide⟩ rfl ?_
        refine q_aret ja_C_floor_30 rfl ?_
        show q_W _ _ _ _ 4 [some (.ref 0), some (.int a1), some (.int a2), some (.int a3)] [.ref 58] s
        refine q_iload_n (pc' := 5) ja_C_amendFloor_4 rfl rfl ?_
        refine q_iload_n (pc' := 6) ja_C_amendFloor_5 rfl rfl ?_
        refine q_iload_n (pc' := 7) ja_C_amendFloor_6 rfl rfl ?_
        refine q_virt (pc' := 10) (c := 58) (as := [.int a1, .int a2, .int a3]) (r := []) ja_C_amendFloor_7 rfl rfl rfl (by decide) ⟨rfl, by decide⟩ ?_
        exact (k3 h2 h4 h5)
      · intro h6
        refine q_iconst (pc' := 22) ja_C_isBill_21 rfl 1 (by decide) ?_
        refine q_goto ja_C_isBill_22 ?_
        refine q_iret ja_C_isBill_26 rfl (by decide) ?_
        show q_W _ _ _ _ 8 [some (.ref 0)] [.int 1] s
        refine q_if_eq (pc' := 11) ja_C_floor_8 rfl (fun h => absurd h ((by decide : ¬ (1 : Int32) = 0))) (fun _ => ?_)
        refine q_aload_n (pc' := 12) ja_C_floor_11 rfl rfl ?_
        refine q_getf (pc' := 15) (v := .ref 32) ja_C_floor_12 rfl (by decide) ⟨rfl, by decide⟩ rfl ?_
        refine q_aload_n (pc' := 16) ja_C_floor_15 rfl rfl ?_
        refine q_getf (pc' := 19) (v := .int (s 0 6)) ja_C_floor_16 rfl (by decide) ⟨rfl, by decide⟩ rfl ?_
        refine q_aald (pc' := 20) (v := .ref (33 + 3 * (s 0 6).toNatClampNeg)) ja_C_floor_19 rfl (by decide) (kd := 17) (l := 8) rfl (by decide) (q_inr (l := 8) (by decide) h2 h6) (f_A32 (f_in (q_inr (l := 8) (by decide) h2 h6))) ?_
        refine q_getf (pc' := 23) (v := .ref ((33 + 3 * (s 0 6).toNatClampNeg) + 1)) ja_C_floor_20 rfl (f_1_c (f_m32 (f_in (q_inr (l := 8) (by decide) h2 h6)))) ⟨by rw [f_1_k (f_m32 (f_in (q_inr (l := 8) (by decide) h2 h6)))], by decide⟩ (f_1_g2 (f_m32 (f_in (q_inr (l := 8) (by decide) h2 h6)))) ?_
        refine q_goto ja_C_floor_23 ?_
        refine q_aret ja_C_floor_30 rfl ?_
        show q_W _ _ _ _ 4 [some (.ref 0), some (.int a1), some (.int a2), some (.int a3)] [.ref ((33 + 3 * (s 0 6).toNatClampNeg) + 1)] s
        refine q_iload_n (pc' := 5) ja_C_amendFloor_4 rfl rfl ?_
        refine q_iload_n (pc' := 6) ja_C_amendFloor_5 rfl rfl ?_
        refine q_iload_n (pc' := 7) ja_C_amendFloor_6 rfl rfl ?_
        refine q_virt (pc' := 10) (c := ((33 + 3 * (s 0 6).toNatClampNeg) + 1)) (as := [.int a1, .int a2, .int a3]) (r := []) ja_C_amendFloor_7 rfl rfl rfl (f_8_c (f_1_s2 (f_m32 (f_in (q_inr (l := 8) (by decide) h2 h6))))) ⟨by rw [f_8_k (f_1_s2 (f_m32 (f_in (q_inr (l := 8) (by decide) h2 h6))))], by decide⟩ ?_
        exact (k4 h2 h4 h6)
set_option maxRecDepth 20000 in
theorem t_C_amendFloor_10 {G : jv_X} {d : Nat} {B : Option Value → jg_H → Prop} {s : jg_H} (x1 : Int32) (x2 : Int32) (x3 : Int32) (y0 : Int32)
    (k1 : ¬ y0 = 0 → q_P G (d + 2) 100 [.ref 63, .int (s 60 0), .int x1, .int x2] s (fun v t => q_W G (d + 2) jm_C_amendFloor B 33 [some (.ref 0), some (.int x1), some (.int x2), some (.int x3)] (v.toList ++ []) t))
    (k2 : y0 = 0 → B none s) :
    q_W G (d + 2) jm_C_amendFloor B 10 [some (.ref 0), some (.int x1), some (.int x2), some (.int x3)] [.int y0] s := by
  refine q_if_ne (pc' := 13) ja_C_amendFloor_10 rfl ?_ ?_
  · intro h1
    refine q_aload_n (pc' := 15) ja_C_amendFloor_14 rfl rfl ?_
    refine q_getf (pc' := 18) (v := .ref 60) ja_C_amendFloor_15 rfl (by decide) ⟨rfl, by decide⟩ rfl ?_
    refine q_getf (pc' := 21) (v := .ref 63) ja_C_amendFloor_18 rfl (by decide) ⟨rfl, by decide⟩ rfl ?_
    refine q_aload_n (pc' := 22) ja_C_amendFloor_21 rfl rfl ?_
    refine q_getf (pc' := 25) (v := .ref 60) ja_C_amendFloor_22 rfl (by decide) ⟨rfl, by decide⟩ rfl ?_
    refine q_getf (pc' := 28) (v := .int (s 60 0)) ja_C_amendFloor_25 rfl (by decide) ⟨rfl, by decide⟩ rfl ?_
    refine q_iload_n (pc' := 29) ja_C_amendFloor_28 rfl rfl ?_
    refine q_iload_n (pc' := 30) ja_C_amendFloor_29 rfl rfl ?_
    refine q_stat (pc' := 33) (as := [.ref 63, .int (s 60 0), .int x1, .int x2]) (r := []) ja_C_amendFloor_30 rfl (by decide) rfl rfl ?_
    exact (k1 h1)
  · intro h2
    exact q_vret ja_C_amendFloor_13 rfl (k2 h2)
set_option maxRecDepth 20000 in
theorem t_C_amendFloor_33 {G : jv_X} {d : Nat} {B : Option Value → jg_H → Prop} {s : jg_H} (x1 : Int32) (x2 : Int32) (x3 : Int32)
    (k1 : ∀ s1 : jg_H, s1 = jg_up s 66 0 0 → B none s1) :
    q_W G (d + 2) jm_C_amendFloor B 33 [some (.ref 0), some (.int x1), some (.int x2), some (.int x3)] [] s := by
  refine q_aload_n (pc' := 34) ja_C_amendFloor_33 rfl rfl ?_
  refine q_getf (pc' := 37) (v := .ref 65) ja_C_amendFloor_34 rfl (by decide) ⟨rfl, by decide⟩ rfl ?_
  refine q_getf (pc' := 40) (v := .ref 66) ja_C_amendFloor_37 rfl (by decide) ⟨rfl, by decide⟩ rfl ?_
  refine q_iconst (pc' := 41) ja_C_amendFloor_40 rfl 0 (by decide) ?_
  refine q_putf (pc' := 44) ja_C_amendFloor_41 rfl (by decide) rfl rfl rfl ?_
  intro s1 e1
  exact q_vret ja_C_amendFloor_44 rfl (k1 s1 e1)
set_option maxRecDepth 20000 in
theorem t_C_ask {G : jv_X} {d : Nat} {B : Option Value → jg_H → Prop} {s : jg_H} (a1 : Int32) (a2 : Int32)
    (k1 : a1 < 0 → B (some (.int (-2))) s)
    (k2 : ¬ a1 < 0 → ¬ a1 < (s 0 1) → B (some (.int (-2))) s)
    (k3 : ¬ a1 < 0 → a1 < (s 0 1) → ¬ a1 < 15 → B (some (.int (-2))) s)
    (k4 : ¬ a1 < 0 → a1 < (s 0 1) → a1 < 15 → a2 < 0 → B (some (.int (-2))) s)
    (k5 : ¬ a1 < 0 → a1 < (s 0 1) → a1 < 15 → ¬ a2 < 0 → a2 ≤ 2 → ∀ s1 : jg_H, s1 = jg_up s (2 + 2 * a1.toNatClampNeg) 3 a2 → B (some (.int (s (2 + 2 * a1.toNatClampNeg) 3))) s1)
    (k6 : ¬ a1 < 0 → a1 < (s 0 1) → a1 < 15 → ¬ a2 < 0 → ¬ a2 ≤ 2 → B (some (.int (-2))) s) :
    q_P G (d + 2) 48 [.ref 0, .int a1, .int a2] s B := by
  refine q_in (M := jm_C_ask) rfl (Nat.le_of_ble_eq_true rfl) (ls := [some (.ref 0), some (.int a1), some (.int a2), none]) rfl ?_
  refine q_aload_n (pc' := 1) ja_C_ask_0 rfl rfl ?_
  refine q_iload_n (pc' := 2) ja_C_ask_1 rfl rfl ?_
  refine q_virt (pc' := 5) (c := 0) (as := [.int a1]) (r := []) ja_C_ask_2 rfl rfl rfl (by decide) ⟨rfl, by decide⟩ ?_
  refine q_in (M := jm_C_isMember) rfl (Nat.le_of_ble_eq_true rfl) (ls := [some (.ref 0), some (.int a1)]) rfl ?_
  refine q_iload_n (pc' := 1) ja_C_isMember_0 rfl rfl ?_
  refine q_if_lt (pc' := 4) ja_C_isMember_1 rfl ?_ ?_
  · intro h1
    refine q_iconst (pc' := 26) ja_C_isMember_25 rfl 0 (by decide) ?_
    refine q_iret ja_C_isMember_26 rfl (by decide) ?_
    show q_W _ _ _ _ 5 [some (.ref 0), some (.int a1), some (.int a2), none] [.int 0] s
    refine q_if_eq (pc' := 8) ja_C_ask_5 rfl (fun _ => ?_) (fun h => absurd ((by decide : (0 : Int32) = 0)) h)
    refine q_bipush (pc' := 19) ja_C_ask_17 rfl (-2) (by decide) ?_
    exact q_iret ja_C_ask_19 rfl rfl (k1 h1)
  · intro h2
    refine q_iload_n (pc' := 5) ja_C_isMember_4 rfl rfl ?_
    refine q_aload_n (pc' := 6) ja_C_isMember_5 rfl rfl ?_
    refine q_getf (pc' := 9) (v := .int (s 0 1)) ja_C_isMember_6 rfl (by decide) ⟨rfl, by decide⟩ rfl ?_
    refine q_ic_ge (pc' := 12) ja_C_isMember_9 rfl ?_ ?_
    · intro h3
      refine q_iconst (pc' := 26) ja_C_isMember_25 rfl 0 (by decide) ?_
      refine q_iret ja_C_isMember_26 rfl (by decide) ?_
      show q_W _ _ _ _ 5 [some (.ref 0), some (.int a1), some (.int a2), none] [.int 0] s
      refine q_if_eq (pc' := 8) ja_C_ask_5 rfl (fun _ => ?_) (fun h => absurd ((by decide : (0 : Int32) = 0)) h)
      refine q_bipush (pc' := 19) ja_C_ask_17 rfl (-2) (by decide) ?_
      exact q_iret ja_C_ask_19 rfl rfl (k2 h2 h3)
    · intro h4
      refine q_iload_n (pc' := 13) ja_C_isMember_12 rfl rfl ?_
      refine q_aload_n (pc' := 14) ja_C_isMember_13 rfl rfl ?_
      refine q_getf (pc' := 17) (v := .ref 1) ja_C_isMember_14 rfl (by decide) ⟨rfl, by decide⟩ rfl ?_
      refine q_alen (pc' := 18) ja_C_isMember_17 rfl (by decide) (kd := 16) (l := 15) rfl (by decide) (v := 15) (by decide) ?_
      refine q_ic_ge (pc' := 21) ja_C_isMember_18 rfl ?_ ?_
      · intro h5
        refine q_iconst (pc' := 26) ja_C_isMember_25 rfl 0 (by decide) ?_
        refine q_iret ja_C_isMember_26 rfl (by decide) ?_
        show q_W _ _ _ _ 5 [some (.ref 0), some (.int a1), some (.int a2), none] [.int 0] s
        refine q_if_eq (pc' := 8) ja_C_ask_5 rfl (fun _ => ?_) (fun h => absurd ((by decide : (0 : Int32) = 0)) h)
        refine q_bipush (pc' := 19) ja_C_ask_17 rfl (-2) (by decide) ?_
        exact q_iret ja_C_ask_19 rfl rfl (k3 h2 h4 h5)
      · intro h6
        refine q_iconst (pc' := 22) ja_C_isMember_21 rfl 1 (by decide) ?_
        refine q_goto ja_C_isMember_22 ?_
        refine q_iret ja_C_isMember_26 rfl (by decide) ?_
        show q_W _ _ _ _ 5 [some (.ref 0), some (.int a1), some (.int a2), none] [.int 1] s
        refine q_if_eq (pc' := 8) ja_C_ask_5 rfl (fun h => absurd h ((by decide : ¬ (1 : Int32) = 0))) (fun _ => ?_)
        refine q_iload_n (pc' := 9) ja_C_ask_8 rfl rfl ?_
        refine q_if_lt (pc' := 12) ja_C_ask_9 rfl ?_ ?_
        · intro h7
          refine q_bipush (pc' := 19) ja_C_ask_17 rfl (-2) (by decide) ?_
          exact q_iret ja_C_ask_19 rfl rfl (k4 h2 h4 h6 h7)
        · intro h8
          refine q_iload_n (pc' := 13) ja_C_ask_12 rfl rfl ?_
          refine q_iconst (pc' := 14) ja_C_ask_13 rfl 2 (by decide) ?_
          refine q_ic_le (pc' := 17) ja_C_ask_14 rfl ?_ ?_
          · intro h9
            refine q_aload_n (pc' := 21) ja_C_ask_20 rfl rfl ?_
            refine q_getf (pc' := 24) (v := .ref 1) ja_C_ask_21 rfl (by decide) ⟨rfl, by decide⟩ rfl ?_
            refine q_iload_n (pc' := 25) ja_C_ask_24 rfl rfl ?_
            refine q_aald (pc' := 26) (v := .ref (2 + 2 * a1.toNatClampNeg)) ja_C_ask_25 rfl (by decide) (kd := 16) (l := 15) rfl (by decide) (q_inr (l := 15) (by decide) h2 h6) (f_A1 (f_in (q_inr (l := 15) (by decide) h2 h6))) ?_
            refine q_getf (pc' := 29) (v := .int (s (2 + 2 * a1.toNatClampNeg) 3)) ja_C_ask_26 rfl (f_5_c (f_m1 (f_in (q_inr (l := 15) (by decide) h2 h6)))) ⟨by rw [f_5_k (f_m1 (f_in (q_inr (l := 15) (by decide) h2 h6)))], by decide⟩ (f_i (f_5_k (f_m1 (f_in (q_inr (l := 15) (by decide) h2 h6)))) rfl) ?_
            refine q_istore_n (pc' := 30) (ls' := [some (.ref 0), some (.int a1), some (.int a2), some (.int (s (2 + 2 * a1.toNatClampNeg) 3))]) ja_C_ask_29 rfl ⟨Nat.le_of_ble_eq_true rfl, rfl⟩ rfl ?_
            refine q_aload_n (pc' := 31) ja_C_ask_30 rfl rfl ?_
            refine q_getf (pc' := 34) (v := .ref 1) ja_C_ask_31 rfl (by decide) ⟨rfl, by decide⟩ rfl ?_
            refine q_iload_n (pc' := 35) ja_C_ask_34 rfl rfl ?_
            refine q_aald (pc' := 36) (v := .ref (2 + 2 * a1.toNatClampNeg)) ja_C_ask_35 rfl (by decide) (kd := 16) (l := 15) rfl (by decide) (q_inr (l := 15) (by decide) h2 h6) (f_A1 (f_in (q_inr (l := 15) (by decide) h2 h6))) ?_
            refine q_iload_n (pc' := 37) ja_C_ask_36 rfl rfl ?_
            refine q_putf (pc' := 40) ja_C_ask_37 rfl (f_5_c (f_m1 (f_in (q_inr (l := 15) (by decide) h2 h6)))) (by rw [f_5_k (f_m1 (f_in (q_inr (l := 15) (by decide) h2 h6)))]) rfl (by rw [f_5_k (f_m1 (f_in (q_inr (l := 15) (by decide) h2 h6)))]; rfl) ?_
            intro s1 e1
            refine q_iload_n (pc' := 41) ja_C_ask_40 rfl rfl ?_
            exact q_iret ja_C_ask_41 rfl rfl (k5 h2 h4 h6 h8 h9 s1 e1)
          · intro h10
            refine q_bipush (pc' := 19) ja_C_ask_17 rfl (-2) (by decide) ?_
            exact q_iret ja_C_ask_19 rfl rfl (k6 h2 h4 h6 h8 h10)
set_option maxRecDepth 20000 in
theorem t_C_best {G : jv_X} {d : Nat} {B : Option Value → jg_H → Prop} {s : jg_H} (a1 : Int32)
    (k1 : a1 < 0 → B (some (.int (-2))) s)
    (k2 : ¬ a1 < 0 → ¬ a1 < (s 0 1) → B (some (.int (-2))) s)
    (k3 : ¬ a1 < 0 → a1 < (s 0 1) → ¬ a1 < 15 → B (some (.int (-2))) s)
    (k4 : ¬ a1 < 0 → a1 < (s 0 1) → a1 < 15 → ¬ (s 0 6) = (-1) → (s 0 6) < 0 → q_P G (d + 2) 109 [.ref 65, .ref 58] s (fun v t => q_W G (d + 2) jm_C_best B 33 [some (.ref 0), some (.int a1)] (v.toList ++ []) t))
    (k5 : ¬ a1 < 0 → a1 < (s 0 1) → a1 < 15 → ¬ (s 0 6) = (-1) → ¬ (s 0 6) < 0 → ¬ (s 0 6) < (s 0 3) → q_P G (d + 2) 109 [.ref 65, .ref 58] s (fun v t => q_W G (d + 2) jm_C_best B 33 [some (.ref 0), some (.int a1)] (v.toList ++ []) t))
    (k6 : ¬ a1 < 0 → a1 < (s 0 1) → a1 < 15 → ¬ (s 0 6) = (-1) → ¬ (s 0 6) < 0 → (s 0 6) < (s 0 3) → ¬ (s 0 6) < 8 → q_P G (d + 2) 109 [.ref 65, .ref 58] s (fun v t => q_W G (d + 2) jm_C_best B 33 [some (.ref 0), some (.int a1)] (v.toList ++ []) t))
    (k7 : ¬ a1 < 0 → a1 < (s 0 1) → a1 < 15 → ¬ (s 0 6) = (-1) → ¬ (s 0 6) < 0 → (s 0 6) < (s 0 3) → (s 0 6) < 8 → q_P G (d + 2) 109 [.ref 65, .ref ((33 + 3 * (s 0 6).toNatClampNeg) + 1)] s (fun v t => q_W G (d + 2) jm_C_best B 33 [some (.ref 0), some (.int a1)] (v.toList ++ []) t))
    (k8 : ¬ a1 < 0 → a1 < (s 0 1) → a1 < 15 → (s 0 6) = (-1) → B (some (.int (-3))) s) :
    q_P G (d + 3) 114 [.ref 0, .int a1] s B := by
  refine q_in (M := jm_C_best) rfl (Nat.le_of_ble_eq_true rfl) (ls := [some (.ref 0), some (.int a1)]) rfl ?_
  refine q_aload_n (pc' := 1) ja_C_best_0 rfl rfl ?_
  refine q_iload_n (pc' := 2) ja_C_best_1 rfl rfl ?_
  refine q_virt (pc' := 5) (c := 0) (as := [.int a1]) (r := []) ja_C_best_2 rfl rfl rfl (by decide) ⟨rfl, by decide⟩ ?_
  refine q_in (M := jm_C_isMember) rfl (Nat.le_of_ble_eq_true rfl) (ls := [some (.ref 0), some (.int a1)]) rfl ?_
  refine q_iload_n (pc' := 1) ja_C_isMember_0 rfl rfl ?_
  refine q_if_lt (pc' := 4) ja_C_isMember_1 rfl ?_ ?_
  · intro h1
    refine q_iconst (pc' := 26) ja_C_isMember_25 rfl 0 (by decide) ?_
    refine q_iret ja_C_isMember_26 rfl (by decide) ?_
    show q_W _ _ _ _ 5 [some (.ref 0), some (.int a1)] [.int 0] s
    refine q_if_ne (pc' := 8) ja_C_best_5 rfl (fun h => absurd ((by decide : (0 : Int32) = 0)) h) (fun _ => ?_)
    refine q_bipush (pc' := 10) ja_C_best_8 rfl (-2) (by decide) ?_
    exact q_iret ja_C_best_10 rfl rfl (k1 h1)
  · intro h2
    refine q_iload_n (pc' := 5) ja_C_isMember_4 rfl rfl ?_
    refine q_aload_n (pc' := 6) ja_C_isMember_5 rfl rfl ?_
    refine q_getf (pc' := 9) (v := .int (s 0 1)) ja_C_isMember_6 rfl (by decide) ⟨rfl, by decide⟩ rfl ?_
    refine q_ic_ge (pc' := 12) ja_C_isMember_9 rfl ?_ ?_
    · intro h3
      refine q_iconst (pc' := 26) ja_C_isMember_25 rfl 0 (by decide) ?_
      refine q_iret ja_C_isMember_26 rfl (by decide) ?_
      show q_W _ _ _ _ 5 [some (.ref 0), some (.int a1)] [.int 0] s
      refine q_if_ne (pc' := 8) ja_C_best_5 rfl (fun h => absurd ((by decide : (0 : Int32) = 0)) h) (fun _ => ?_)
      refine q_bipush (pc' := 10) ja_C_best_8 rfl (-2) (by decide) ?_
      exact q_iret ja_C_best_10 rfl rfl (k2 h2 h3)
    · intro h4
      refine q_iload_n (pc' := 13) ja_C_isMember_12 rfl rfl ?_
      refine q_aload_n (pc' := 14) ja_C_isMember_13 rfl rfl ?_
      refine q_getf (pc' := 17) (v := .ref 1) ja_C_isMember_14 rfl (by decide) ⟨rfl, by decide⟩ rfl ?_
      refine q_alen (pc' := 18) ja_C_isMember_17 rfl (by decide) (kd := 16) (l := 15) rfl (by decide) (v := 15) (by decide) ?_
      refine q_ic_ge (pc' := 21) ja_C_isMember_18 rfl ?_ ?_
      · intro h5
        refine q_iconst (pc' := 26) ja_C_isMember_25 rfl 0 (by decide) ?_
        refine q_iret ja_C_isMember_26 rfl (by decide) ?_
        show q_W _ _ _ _ 5 [some (.ref 0), some (.int a1)] [.int 0] s
        refine q_if_ne (pc' := 8) ja_C_best_5 rfl (fun h => absurd ((by decide : (0 : Int32) = 0)) h) (fun _ => ?_)
        refine q_bipush (pc' := 10) ja_C_best_8 rfl (-2) (by decide) ?_
        exact q_iret ja_C_best_10 rfl rfl (k3 h2 h4 h5)
      · intro h6
        refine q_iconst (pc' := 22) ja_C_isMember_21 rfl 1 (by decide) ?_
        refine q_goto ja_C_isMember_22 ?_
        refine q_iret ja_C_isMember_26 rfl (by decide) ?_
        show q_W _ _ _ _ 5 [some (.ref 0), some (.int a1)] [.int 1] s
        refine q_if_ne (pc' := 8) ja_C_best_5 rfl (fun _ => ?_) (fun h => absurd h ((by decide : ¬ (1 : Int32) = 0)))
        refine q_aload_n (pc' := 12) ja_C_best_11 rfl rfl ?_
        refine q_getf (pc' := 15) (v := .int (s 0 6)) ja_C_best_12 rfl (by decide) ⟨rfl, by decide⟩ rfl ?_
        refine q_iconst (pc' := 16) ja_C_best_15 rfl (-1) (by decide) ?_
        refine q_ic_ne (pc' := 19) ja_C_best_16 rfl ?_ ?_
        · intro h7
          refine q_aload_n (pc' := 23) ja_C_best_22 rfl rfl ?_
          refine q_getf (pc' := 26) (v := .ref 65) ja_C_best_23 rfl (by decide) ⟨rfl, by decide⟩ rfl ?_
          refine q_aload_n (pc' := 27) ja_C_best_26 rfl rfl ?_
          refine q_virt (pc' := 30) (c := 0) (as := []) (r := [.ref 65]) ja_C_best_27 rfl rfl rfl (by decide) ⟨rfl, by decide⟩ ?_
          refine q_in (M := jm_C_floor) rfl (Nat.le_of_ble_eq_true rfl) (ls := [some (.ref 0)]) rfl ?_
          refine q_aload_n (pc' := 1) ja_C_floor_0 rfl rfl ?_
          refine q_aload_n (pc' := 2) ja_C_floor_1 rfl rfl ?_
          refine q_getf (pc' := 5) (v := .int (s 0 6)) ja_C_floor_2 rfl (by decide) ⟨rfl, by decide⟩ rfl ?_
          refine q_virt (pc' := 8) (c := 0) (as := [.int (s 0 6)]) (r := []) ja_C_floor_5 rfl rfl rfl (by decide) ⟨rfl, by decide⟩ ?_
          refine q_in (M := jm_C_isBill) rfl (Nat.le_of_ble_eq_true rfl) (ls := [some (.ref 0), some (.int (s 0 6))]) rfl ?_
          refine q_iload_n (pc' := 1) ja_C_isBill_0 rfl rfl ?_
          refine q_if_lt (pc' := 4) ja_C_isBill_1 rfl ?_ ?_
          · intro h8
            refine q_iconst (pc' := 26) ja_C_isBill_25 rfl 0 (by decide) ?_
            refine q_iret ja_C_isBill_26 rfl (by decide) ?_
            show q_W _ _ _ _ 8 [some (.ref 0)] [.int 0] s
            refine q_if_eq (pc' := 11) ja_C_floor_8 rfl (fun _ => ?_) (fun h => absurd ((by decide : (0 : Int32) = 0)) h)
            refine q_aload_n (pc' := 27) ja_C_floor_26 rfl rfl ?_
            refine q_getf (pc' := 30) (v := .ref 58) ja_C_floor_27 rfl (by decide) ⟨rfl, by decide⟩ rfl ?_
            refine q_aret ja_C_floor_30 rfl ?_
            show q_W _ _ _ _ 30 [some (.ref 0), some (.int a1)] [.ref 58, .ref 65] s
            refine q_virt (pc' := 33) (c := 65) (as := [.ref 58]) (r := []) ja_C_best_30 rfl rfl rfl (by decide) ⟨rfl, by decide⟩ ?_
            exact (k4 h2 h4 h6 h7 h8)
          · intro h9
            refine q_iload_n (pc' := 5) ja_C_isBill_4 rfl rfl ?_
            refine q_aload_n (pc' := 6) ja_C_isBill_5 rfl rfl ?_
            refine q_getf (pc' := 9) (v := .int (s 0 3)) ja_C_isBill_6 rfl (by decide) ⟨rfl, by decide⟩ rfl ?_
            refine q_ic_ge (pc' := 12) ja_C_isBill_9 rfl ?_ ?_
            · intro h10
              refine q_iconst (pc' := 26) ja_C_isBill_25 rfl 0 (by decide) ?_
              refine q_iret ja_C_isBill_26 rfl (by decide) ?_
              show q_W _ _ _ _ 8 [some (.ref 0)] [.int 0] s
              refine q_if_eq (pc' := 11) ja_C_floor_8 rfl (fun _ => ?_) (fun h => absurd ((by decide : (0 : Int32) = 0)) h)
              refine q_aload_n (pc' := 27) ja_C_floor_26 rfl rfl ?_
              refine q_getf (pc' := 30) (v := .ref 58) ja_C_floor_27 rfl (by decide) ⟨rfl, by decide⟩ rfl ?_
              refine q_aret ja_C_floor_30 rfl ?_
              show q_W _ _ _ _ 30 [some (.ref 0), some (.int a1)] [.ref 58, .ref 65] s
              refine q_virt (pc' := 33) (c := 65) (as := [.ref 58]) (r := []) ja_C_best_30 rfl rfl rfl (by decide) ⟨rfl, by decide⟩ ?_
              exact (k5 h2 h4 h6 h7 h9 h10)
            · intro h11
              refine q_iload_n (pc' := 13) ja_C_isBill_12 rfl rfl ?_
              refine q_aload_n (pc' := 14) ja_C_isBill_13 rfl rfl ?_
              refine q_getf (pc' := 17) (v := .ref 32) ja_C_isBill_14 rfl (by decide) ⟨rfl, by decide⟩ rfl ?_
              refine q_alen (pc' := 18) ja_C_isBill_17 rfl (by decide) (kd := 17) (l := 8) rfl (by decide) (v := 8) (by decide) ?_
              refine q_ic_ge (pc' := 21) ja_C_isBill_18 rfl ?_ ?_
              · intro h12
                refine q_iconst (pc' := 26) ja_C_isBill_25 rfl 0 (by decide) ?_
                refine q_iret ja_C_isBill_26 rfl (by decide) ?_
                show q_W _ _ _ _ 8 [some (.ref 0)] [.int 0] s
                refine q_if_eq (pc' := 11) ja_C_floor_8 rfl (fun _ => ?_) (fun h => absurd ((by decide : (0 : Int32) = 0)) h)
                refine q_aload_n (pc' := 27) ja_C_floor_26 rfl rfl ?_
                refine q_getf (pc' := 30) (v := .ref 58) ja_C_floor_27 rfl (by decide) ⟨rfl, by decide⟩ rfl ?_
                refine q_aret ja_C_floor_30 rfl ?_
                show q_W _ _ _ _ 30 [some (.ref 0), some (.int a1)] [.ref 58, .ref 65] s
                refine q_virt (pc' := 33) (c := 65) (as := [.ref 58]) (r := []) ja_C_best_30 rfl rfl rfl (by decide) ⟨rfl, by decide⟩ ?_
                exact (k6 h2 h4 h6 h7 h9 h11 h12)
              · intro h13
                refine q_iconst (pc' := 22) ja_C_isBill_21 rfl 1 (by decide) ?_
                refine q_goto ja_C_isBill_22 ?_
                refine q_iret ja_C_isBill_26 rfl (by decide) ?_
                show q_W _ _ _ _ 8 [some (.ref 0)] [.int 1] s
                refine q_if_eq (pc' := 11) ja_C_floor_8 rfl (fun h => absurd h ((by decide : ¬ (1 : Int32) = 0))) (fun _ => ?_)
                refine q_aload_n (pc' := 12) ja_C_floor_11 rfl rfl ?_
                refine q_getf (pc' := 15) (v := .ref 32) ja_C_floor_12 rfl (by decide) ⟨rfl, by decide⟩ rfl ?_
                refine q_aload_n (pc' := 16) ja_C_floor_15 rfl rfl ?_
                refine q_getf (pc' := 19) (v := .int (s 0 6)) ja_C_floor_16 rfl (by decide) ⟨rfl, by decide⟩ rfl ?_
                refine q_aald (pc' := 20) (v := .ref (33 + 3 * (s 0 6).toNatClampNeg)) ja_C_floor_19 rfl (by decide) (kd := 17) (l := 8) rfl (by decide) (q_inr (l := 8) (by decide) h9 h13) (f_A32 (f_in (q_inr (l := 8) (by decide) h9 h13))) ?_
                refine q_getf (pc' := 23) (v := .ref ((33 + 3 * (s 0 6).toNatClampNeg) + 1)) ja_C_floor_20 rfl (f_1_c (f_m32 (f_in (q_inr (l := 8) (by decide) h9 h13)))) ⟨by rw [f_1_k (f_m32 (f_in (q_inr (l := 8) (by decide) h9 h13)))], by decide⟩ (f_1_g2 (f_m32 (f_in (q_inr (l := 8) (by decide) h9 h13)))) ?_
                refine q_goto ja_C_floor_23 ?_
                refine q_aret ja_C_floor_30 rfl ?_
                show q_W _ _ _ _ 30 [some (.ref 0), some (.int a1)] [.ref ((33 + 3 * (s 0 6).toNatClampNeg) + 1), .ref 65] s
                refine q_virt (pc' := 33) (c := 65) (as := [.ref ((33 + 3 * (s 0 6).toNatClampNeg) + 1)]) (r := []) ja_C_best_30 rfl rfl rfl (by decide) ⟨rfl, by decide⟩ ?_
                exact (k7 h2 h4 h6 h7 h9 h11 h13)
        · intro h14
          refine q_bipush (pc' := 21) ja_C_best_19 rfl (-3) (by decide) ?_
          exact q_iret ja_C_best_21 rfl rfl (k8 h2 h4 h6 h14)
set_option maxRecDepth 20000 in
theorem t_C_best_33 {G : jv_X} {d : Nat} {B : Option Value → jg_H → Prop} {s : jg_H} (x1 : Int32)
    (k1 : jv_in x1 15 = true)
    (k2 : q_P G (d + 2) 115 [.ref 0, .ref (2 + 2 * x1.toNatClampNeg), .int 0, .int 0, .int 0, .int 1] s (fun v t => q_W G (d + 2) jm_C_best B 47 [some (.ref 0), some (.int x1)] (v.toList ++ []) t)) :
    q_W G (d + 2) jm_C_best B 33 [some (.ref 0), some (.int x1)] [] s := by
  refine q_aload_n (pc' := 34) ja_C_best_33 rfl rfl ?_
  refine q_aload_n (pc' := 35) ja_C_best_34 rfl rfl ?_
  refine q_getf (pc' := 38) (v := .ref 1) ja_C_best_35 rfl (by decide) ⟨rfl, by decide⟩ rfl ?_
  refine q_iload_n (pc' := 39) ja_C_best_38 rfl rfl ?_
  refine q_aald (pc' := 40) (v := .ref (2 + 2 * x1.toNatClampNeg)) ja_C_best_39 rfl (by decide) (kd := 16) (l := 15) rfl (by decide) k1 (f_A1 (f_in k1)) ?_
  refine q_iconst (pc' := 41) ja_C_best_40 rfl 0 (by decide) ?_
  refine q_iconst (pc' := 42) ja_C_best_41 rfl 0 (by decide) ?_
  refine q_iconst (pc' := 43) ja_C_best_42 rfl 0 (by decide) ?_
  refine q_iconst (pc' := 44) ja_C_best_43 rfl 1 (by decide) ?_
  refine q_stat (pc' := 47) (as := [.ref 0, .ref (2 + 2 * x1.toNatClampNeg), .int 0, .int 0, .int 0, .int 1]) (r := []) ja_C_best_44 rfl (by decide) rfl rfl ?_
  exact k2
set_option maxRecDepth 20000 in
theorem t_C_best_47 {G : jv_X} {d : Nat} {B : Option Value → jg_H → Prop} {s : jg_H} (x1 : Int32)
    (k1 : B (some (.int (s 65 4))) s) :
    q_W G (d + 2) jm_C_best B 47 [some (.ref 0), some (.int x1)] [] s := by
  refine q_aload_n (pc' := 48) ja_C_best_47 rfl rfl ?_
  refine q_getf (pc' := 51) (v := .ref 65) ja_C_best_48 rfl (by decide) ⟨rfl, by decide⟩ rfl ?_
  refine q_getf (pc' := 54) (v := .int (s 65 4)) ja_C_best_51 rfl (by decide) ⟨rfl, by decide⟩ rfl ?_
  exact q_iret ja_C_best_54 rfl rfl k1
set_option maxRecDepth 20000 in
theorem t_C_bill {G : jv_X} {d : Nat} {B : Option Value → jg_H → Prop} {s : jg_H} 
    (k1 : (s 0 3) < 8 → ∀ s1 : jg_H, s1 = jg_up s 0 3 ((s 0 3) + 1) → B (some (.int ((s1 0 3) - 1))) s1)
    (k2 : ¬ (s 0 3) < 8 → B (some (.int (-4))) s) :
    q_P G (d + 1) 50 [.ref 0] s B := by
  refine q_in (M := jm_C_bill) rfl (Nat.le_of_ble_eq_true rfl) (ls := [some (.ref 0)]) rfl ?_
  refine q_aload_n (pc' := 1) ja_C_bill_0 rfl rfl ?_
  refine q_getf (pc' := 4) (v := .int (s 0 3)) ja_C_bill_1 rfl (by decide) ⟨rfl, by decide⟩ rfl ?_
  refine q_aload_n (pc' := 5) ja_C_bill_4 rfl rfl ?_
  refine q_getf (pc' := 8) (v := .ref 32) ja_C_bill_5 rfl (by decide) ⟨rfl, by decide⟩ rfl ?_
  refine q_alen (pc' := 9) ja_C_bill_8 rfl (by decide) (kd := 17) (l := 8) rfl (by decide) (v := 8) (by decide) ?_
  refine q_ic_lt (pc' := 12) ja_C_bill_9 rfl ?_ ?_
  · intro h1
    refine q_aload_n (pc' := 16) ja_C_bill_15 rfl rfl ?_
    refine q_dup (pc' := 17) ja_C_bill_16 rfl rfl ?_
    refine q_getf (pc' := 20) (v := .int (s 0 3)) ja_C_bill_17 rfl (by decide) ⟨rfl, by decide⟩ rfl ?_
    refine q_iconst (pc' := 21) ja_C_bill_20 rfl 1 (by decide) ?_
    refine q_iadd (pc' := 22) ja_C_bill_21 rfl ?_
    refine q_putf (pc' := 25) ja_C_bill_22 rfl (by decide) rfl rfl rfl ?_
    intro s1 e1
    refine q_aload_n (pc' := 26) ja_C_bill_25 rfl rfl ?_
    refine q_getf (pc' := 29) (v := .int (s1 0 3)) ja_C_bill_26 rfl (by decide) ⟨rfl, by decide⟩ rfl ?_
    refine q_iconst (pc' := 30) ja_C_bill_29 rfl 1 (by decide) ?_
    refine q_isub (pc' := 31) ja_C_bill_30 rfl ?_
    exact q_iret ja_C_bill_31 rfl rfl (k1 h1 s1 e1)
  · intro h2
    refine q_bipush (pc' := 14) ja_C_bill_12 rfl (-4) (by decide) ?_
    exact q_iret ja_C_bill_14 rfl rfl (k2 h2)
set_option maxRecDepth 20000 in
theorem t_C_billTold {G : jv_X} {d : Nat} {B : Option Value → jg_H → Prop} {s : jg_H} (a1 : Int32) (a2 : Int32)
    (k1 : a1 < 0 → B (some (.int (-2))) s)
    (k2 : ¬ a1 < 0 → ¬ a1 < (s 0 3) → B (some (.int (-2))) s)
    (k3 : ¬ a1 < 0 → a1 < (s 0 3) → ¬ a1 < 8 → B (some (.int (-2))) s)
    (k4 : ¬ a1 < 0 → a1 < (s 0 3) → a1 < 8 → a2 = 0 → B (some (.int (s (33 + 3 * a1.toNatClampNeg) 0))) s)
    (k5 : ¬ a1 < 0 → a1 < (s 0 3) → a1 < 8 → ¬ a2 = 0 → a2 = 1 → B (some (.int (s ((33 + 3 * a1.toNatClampNeg) + 1) 0))) s)
    (k6 : ¬ a1 < 0 → a1 < (s 0 3) → a1 < 8 → ¬ a2 = 0 → ¬ a2 = 1 → a2 = 2 → q_P G (d + 1) 59 [.ref 0, .int a1] s (fun v t => q_W G (d + 1) jm_C_billTold B 66 [some (.ref 0), some (.int a1), some (.int a2), some (.ref (33 + 3 * a1.toNatClampNeg))] (v.toList ++ []) t))
    (k7 : ¬ a1 < 0 → a1 < (s 0 3) → a1 < 8 → ¬ a2 = 0 → ¬ a2 = 1 → ¬ a2 = 2 → a2 = 3 → q_P G (d + 1) 60 [.int (s (33 + 3 * a1.toNatClampNeg) 1)] s (fun v t => q_W G (d + 1) jm_C_billTold B 74 [some (.ref 0), some (.int a1), some (.int a2), some (.ref (33 + 3 * a1.toNatClampNeg))] (v.toList ++ []) t))
    (k8 : ¬ a1 < 0 → a1 < (s 0 3) → a1 < 8 → ¬ a2 = 0 → ¬ a2 = 1 → ¬ a2 = 2 → ¬ a2 = 3 → B (some (.int (-2))) s) :
    q_P G (d + 2) 58 [.ref 0, .int a1, .int a2] s B := by
  refine q_in (M := jm_C_billTold) rfl (Nat.le_of_ble_eq_true rfl) (ls := [some (.ref 0), some (.int a1), some (.int a2), none]) rfl ?_
  refine q_aload_n (pc' := 1) ja_C_billTold_0 rfl rfl ?_
  refine q_iload_n (pc' := 2) ja_C_billTold_1 rfl rfl ?_
  refine q_virt (pc' := 5) (c := 0) (as := [.int a1]) (r := []) ja_C_billTold_2 rfl rfl rfl (by decide) ⟨rfl, by decide⟩ ?_
  refine q_in (M := jm_C_isBill) rfl (Nat.le_of_ble_eq_true rfl) (ls := [some (.ref 0), some (.int a1)]) rfl ?_
  refine q_iload_n (pc' := 1) ja_C_isBill_0 rfl rfl ?_
  refine q_if_lt (pc' := 4) ja_C_isBill_1 rfl ?_ ?_
  · intro h1
    refine q_iconst (pc' := 26) ja_C_isBill_25 rfl 0 (by decide) ?_
    refine q_iret ja_C_isBill_26 rfl (by decide) ?_
    show q_W _ _ _ _ 5 [some (.ref 0), some (.int a1), some (.int a2), none] [.int 0] s
    refine q_if_ne (pc' := 8) ja_C_billTold_5 rfl (fun h => absurd ((by decide : (0 : Int32) = 0)) h) (fun _ => ?_)
    refine q_bipush (pc' := 10) ja_C_billTold_8 rfl (-2) (by decide) ?_
    exact q_iret ja_C_billTold_10 rfl rfl (k1 h1)
  · intro h2
    refine q_iload_n (pc' := 5) ja_C_isBill_4 rfl rfl ?_
    refine q_aload_n (pc' := 6) ja_C_isBill_5 rfl rfl ?_
    refine q_getf (pc' := 9) (v := .int (s 0 3)) ja_C_isBill_6 rfl (by decide) ⟨rfl, by decide⟩ rfl ?_
    refine q_ic_ge (pc' := 12) ja_C_isBill_9 rfl ?_ ?_
    · intro h3
      refine q_iconst (pc' := 26) ja_C_isBill_25 rfl 0 (by decide) ?_
      refine q_iret ja_C_isBill_26 rfl (by decide) ?_
      show q_W _ _ _ _ 5 [some (.ref 0), some (.int a1), some (.int a2), none] [.int 0] s
      refine q_if_ne (pc' := 8) ja_C_billTold_5 rfl (fun h => absurd ((by decide : (0 : Int32) = 0)) h) (fun _ => ?_)
      refine q_bipush (pc' := 10) ja_C_billTold_8 rfl (-2) (by decide) ?_
      exact q_iret ja_C_billTold_10 rfl rfl (k2 h2 h3)
    · intro h4
      refine q_iload_n (pc' := 13) ja_C_isBill_12 rfl rfl ?_
      refine q_aload_n (pc' := 14) ja_C_isBill_13 rfl rfl ?_
      refine q_getf (pc' := 17) (v := .ref 32) ja_C_isBill_14 rfl (by decide) ⟨rfl, by decide⟩ rfl ?_
      refine q_alen (pc' := 18) ja_C_isBill_17 rfl (by decide) (kd := 17) (l := 8) rfl (by decide) (v := 8) (by decide) ?_
      refine q_ic_ge (pc' := 21) ja_C_isBill_18 rfl ?_ ?_
      · intro h5
        refine q_iconst (pc' := 26) ja_C_isBill_25 rfl 0 (by decide) ?_
        refine q_iret ja_C_isBill_26 rfl (by decide) ?_
        show q_W _ _ _ _ 5 [some (.ref 0), some (.int a1), some (.int a2), none] [.int 0] s
        refine q_if_ne (pc' := 8) ja_C_billTold_5 rfl (fun h => absurd ((by decide : (0 : Int32) = 0)) h) (fun _ => ?_)
        refine q_bipush (pc' := 10) ja_C_billTold_8 rfl (-2) (by decide) ?_
        exact q_iret ja_C_billTold_10 rfl rfl (k3 h2 h4 h5)
      · intro h6
        refine q_iconst (pc' := 22) ja_C_isBill_21 rfl 1 (by decide) ?_
        refine q_goto ja_C_isBill_22 ?_
        refine q_iret ja_C_isBill_26 rfl (by decide) ?_
        show q_W _ _ _ _ 5 [some (.ref 0), some (.int a1), some (.int a2), none] [.int 1] s
        refine q_if_ne (pc' := 8) ja_C_billTold_5 rfl (fun _ => ?_) (fun h => absurd h ((by decide : ¬ (1 : Int32) = 0)))
        refine q_aload_n (pc' := 12) ja_C_billTold_11 rfl rfl ?_
        refine q_getf (pc' := 15) (v := .ref 32) ja_C_billTold_12 rfl (by decide) ⟨rfl, by decide⟩ rfl ?_
        refine q_iload_n (pc' := 16) ja_C_billTold_15 rfl rfl ?_
        refine q_aald (pc' := 17) (v := .ref (33 + 3 * a1.toNatClampNeg)) ja_C_billTold_16 rfl (by decide) (kd := 17) (l := 8) rfl (by decide) (q_inr (l := 8) (by decide) h2 h6) (f_A32 (f_in (q_inr (l := 8) (by decide) h2 h6))) ?_
        refine q_astore_n (pc' := 18) (ls' := [some (.ref 0), some (.int a1), some (.int a2), some (.ref (33 + 3 * a1.toNatClampNeg))]) ja_C_billTold_17 rfl ⟨Nat.le_of_ble_eq_true rfl, rfl⟩ rfl ?_
        refine q_iload_n (pc' := 19) ja_C_billTold_18 rfl rfl ?_
        by_cases h7 : a2 = 0
        · refine q_swE (pc' := 48) ja_C_billTold_19 (by rw [h7]; decide) (by rw [h7]; exact ⟨_, rfl, rfl⟩) ?_
          refine q_aload_n (pc' := 49) ja_C_billTold_48 rfl rfl ?_
          refine q_getf (pc' := 52) (v := .int (s (33 + 3 * a1.toNatClampNeg) 0)) ja_C_billTold_49 rfl (f_1_c (f_m32 (f_in (q_inr (l := 8) (by decide) h2 h6)))) ⟨by rw [f_1_k (f_m32 (f_in (q_inr (l := 8) (by decide) h2 h6)))], by decide⟩ (f_i (f_1_k (f_m32 (f_in (q_inr (l := 8) (by decide) h2 h6)))) rfl) ?_
          exact q_iret ja_C_billTold_52 rfl rfl (k4 h2 h4 h6 h7)
        by_cases h8 : a2 = 1
        · refine q_swE (pc' := 53) ja_C_billTold_19 (by rw [h8]; decide) (by rw [h8]; exact ⟨_, rfl, rfl⟩) ?_
          refine q_aload_n (pc' := 54) ja_C_billTold_53 rfl rfl ?_
          refine q_getf (pc' := 57) (v := .ref ((33 + 3 * a1.toNatClampNeg) + 1)) ja_C_billTold_54 rfl (f_1_c (f_m32 (f_in (q_inr (l := 8) (by decide) h2 h6)))) ⟨by rw [f_1_k (f_m32 (f_in (q_inr (l := 8) (by decide) h2 h6)))], by decide⟩ (f_1_g2 (f_m32 (f_in (q_inr (l := 8) (by decide) h2 h6)))) ?_
          refine q_getf (pc' := 60) (v := .int (s ((33 + 3 * a1.toNatClampNeg) + 1) 0)) ja_C_billTold_57 rfl (f_8_c (f_1_s2 (f_m32 (f_in (q_inr (l := 8) (by decide) h2 h6))))) ⟨by rw [f_8_k (f_1_s2 (f_m32 (f_in (q_inr (l := 8) (by decide) h2 h6))))], by decide⟩ (f_i (f_8_k (f_1_s2 (f_m32 (f_in (q_inr (l := 8) (by decide) h2 h6))))) rfl) ?_
          exact q_iret ja_C_billTold_60 rfl rfl (k5 h2 h4 h6 h7 h8)
        by_cases h9 : a2 = 2
        · refine q_swE (pc' := 61) ja_C_billTold_19 (by rw [h9]; decide) (by rw [h9]; exact ⟨_, rfl, rfl⟩) ?_
          refine q_aload_n (pc' := 62) ja_C_billTold_61 rfl rfl ?_
          refine q_iload_n (pc' := 63) ja_C_billTold_62 rfl rfl ?_
          refine q_virt (pc' := 66) (c := 0) (as := [.int a1]) (r := []) ja_C_billTold_63 rfl rfl rfl (by decide) ⟨rfl, by decide⟩ ?_
          exact (k6 h2 h4 h6 h7 h8 h9)
        by_cases h10 : a2 = 3
        · refine q_swE (pc' := 67) ja_C_billTold_19 (by rw [h10]; decide) (by rw [h10]; exact ⟨_, rfl, rfl⟩) ?_
          refine q_aload_n (pc' := 68) ja_C_billTold_67 rfl rfl ?_
          refine q_getf (pc' := 71) (v := .int (s (33 + 3 * a1.toNatClampNeg) 1)) ja_C_billTold_68 rfl (f_1_c (f_m32 (f_in (q_inr (l := 8) (by decide) h2 h6)))) ⟨by rw [f_1_k (f_m32 (f_in (q_inr (l := 8) (by decide) h2 h6)))], by decide⟩ (f_i (f_1_k (f_m32 (f_in (q_inr (l := 8) (by decide) h2 h6)))) rfl) ?_
          refine q_stat (pc' := 74) (as := [.int (s (33 + 3 * a1.toNatClampNeg) 1)]) (r := []) ja_C_billTold_71 rfl (by decide) rfl rfl ?_
          exact (k7 h2 h4 h6 h7 h8 h9 h10)
        refine q_swD (pc' := 75) ja_C_billTold_19 [0, 1, 2, 3] (List.forall_mem_cons.mpr ⟨fun e => h7 (by rw [e]; decide), (List.forall_mem_cons.mpr ⟨fun e => h8 (by rw [e]; decide), (List.forall_mem_cons.mpr ⟨fun e => h9 (by rw [e]; decide), (List.forall_mem_cons.mpr ⟨fun e => h10 (by rw [e]; decide), (List.forall_mem_nil _)⟩)⟩)⟩)⟩) (by decide) rfl ?_
        refine q_bipush (pc' := 77) ja_C_billTold_75 rfl (-2) (by decide) ?_
        exact q_iret ja_C_billTold_77 rfl rfl (k8 h2 h4 h6 h7 h8 h9 h10)
set_option maxRecDepth 20000 in
theorem t_C_billTold_66 {G : jv_X} {d : Nat} {B : Option Value → jg_H → Prop} {s : jg_H} (x1 : Int32) (x2 : Int32) {x3 : Nat} (hx3 : f_1 x3) (y0 : Int32)
    (k1 : B (some (.int y0)) s) :
    q_W G (d + 1) jm_C_billTold B 66 [some (.ref 0), some (.int x1), some (.int x2), some (.ref x3)] [.int y0] s := by
  exact q_iret ja_C_billTold_66 rfl rfl k1
set_option maxRecDepth 20000 in
theorem t_C_billTold_74 {G : jv_X} {d : Nat} {B : Option Value → jg_H → Prop} {s : jg_H} (x1 : Int32) (x2 : Int32) {x3 : Nat} (hx3 : f_1 x3) (y0 : Int32)
    (k1 : B (some (.int y0)) s) :
    q_W G (d + 1) jm_C_billTold B 74 [some (.ref 0), some (.int x1), some (.int x2), some (.ref x3)] [.int y0] s := by
  exact q_iret ja_C_billTold_74 rfl rfl k1
set_option maxRecDepth 20000 in
theorem t_C_bySign {G : jv_X} {d : Nat} {B : Option Value → jg_H → Prop} {s : jg_H} (a1 : Int32)
    (k1 : a1 ≤ 0 → ¬ a1 < 0 → B (some (.int 0)) s)
    (k2 : a1 ≤ 0 → a1 < 0 → B (some (.int 2)) s)
    (k3 : ¬ a1 ≤ 0 → B (some (.int 1)) s) :
    q_P G (d + 1) 95 [.int a1] s B := by
  refine q_in (M := jm_C_bySign) rfl (Nat.le_of_ble_eq_true rfl) (ls := [some (.int a1)]) rfl ?_
  refine q_iload_n (pc' := 1) ja_C_bySign_0 rfl rfl ?_
  refine q_if_le (pc' := 4) ja_C_bySign_1 rfl ?_ ?_
  · intro h1
    refine q_iload_n (pc' := 9) ja_C_bySign_8 rfl rfl ?_
    refine q_if_ge (pc' := 12) ja_C_bySign_9 rfl ?_ ?_
    · intro h2
      refine q_iconst (pc' := 17) ja_C_bySign_16 rfl 0 (by decide) ?_
      exact q_iret ja_C_bySign_17 rfl rfl (k1 h1 h2)
    · intro h3
      refine q_iconst (pc' := 13) ja_C_bySign_12 rfl 2 (by decide) ?_
      refine q_goto ja_C_bySign_13 ?_
      exact q_iret ja_C_bySign_17 rfl rfl (k2 h1 h3)
  · intro h4
    refine q_iconst (pc' := 5) ja_C_bySign_4 rfl 1 (by decide) ?_
    refine q_goto ja_C_bySign_5 ?_
    exact q_iret ja_C_bySign_17 rfl rfl (k3 h4)
set_option maxRecDepth 20000 in
theorem t_C_call {G : jv_X} {d : Nat} {B : Option Value → jg_H → Prop} {s : jg_H} 
    (k1 : ¬ (s 0 6) = (-1) → B (some (.int (-3))) s)
    (k2 : (s 0 6) = (-1) → ¬ (s 0 5) ≤ 0 → ∀ s1 : jg_H, s1 = jg_up s 0 6 (s 57 0) → ∀ s2 : jg_H, s2 = jg_up s1 0 5 ((s1 0 5) - 1) → q_W G (d + 1) jm_C_call B 40 [some (.ref 0), some (.int 0)] [] s2)
    (k3 : (s 0 6) = (-1) → (s 0 5) ≤ 0 → B (some (.int (-3))) s) :
    q_P G (d + 2) 68 [.ref 0] s B := by
  refine q_in (M := jm_C_call) rfl (Nat.le_of_ble_eq_true rfl) (ls := [some (.ref 0), none]) rfl ?_
  refine q_aload_n (pc' := 1) ja_C_call_0 rfl rfl ?_
  refine q_getf (pc' := 4) (v := .int (s 0 6)) ja_C_call_1 rfl (by decide) ⟨rfl, by decide⟩ rfl ?_
  refine q_iconst (pc' := 5) ja_C_call_4 rfl (-1) (by decide) ?_
  refine q_ic_ne (pc' := 8) ja_C_call_5 rfl ?_ ?_
  · intro h1
    refine q_bipush (pc' := 17) ja_C_call_15 rfl (-3) (by decide) ?_
    exact q_iret ja_C_call_17 rfl rfl (k1 h1)
  · intro h2
    refine q_aload_n (pc' := 9) ja_C_call_8 rfl rfl ?_
    refine q_getf (pc' := 12) (v := .int (s 0 5)) ja_C_call_9 rfl (by decide) ⟨rfl, by decide⟩ rfl ?_
    refine q_if_gt (pc' := 15) ja_C_call_12 rfl ?_ ?_
    · intro h3
      refine q_aload_n (pc' := 19) ja_C_call_18 rfl rfl ?_
      refine q_aload_n (pc' := 20) ja_C_call_19 rfl rfl ?_
      refine q_getf (pc' := 23) (v := .ref 57) ja_C_call_20 rfl (by decide) ⟨rfl, by decide⟩ rfl ?_
      refine q_iconst (pc' := 24) ja_C_call_23 rfl 0 (by decide) ?_
      refine q_iald (pc' := 25) (v := .int (s 57 0)) ja_C_call_24 rfl (by decide) (l := 8) rfl (by decide) rfl ?_
      refine q_putf (pc' := 28) ja_C_call_25 rfl (by decide) rfl rfl rfl ?_
      intro s1 e1
      refine q_aload_n (pc' := 29) ja_C_call_28 rfl rfl ?_
      refine q_dup (pc' := 30) ja_C_call_29 rfl rfl ?_
      refine q_getf (pc' := 33) (v := .int (s1 0 5)) ja_C_call_30 rfl (by decide) ⟨rfl, by decide⟩ rfl ?_
      refine q_iconst (pc' := 34) ja_C_call_33 rfl 1 (by decide) ?_
      refine q_isub (pc' := 35) ja_C_call_34 rfl ?_
      refine q_putf (pc' := 38) ja_C_call_35 rfl (by decide) rfl rfl rfl ?_
      intro s2 e2
      refine q_iconst (pc' := 39) ja_C_call_38 rfl 0 (by decide) ?_
      refine q_istore_n (pc' := 40) (ls' := [some (.ref 0), some (.int 0)]) ja_C_call_39 rfl ⟨Nat.le_of_ble_eq_true rfl, rfl⟩ rfl ?_
      exact (k2 h2 h3 s1 e1 s2 e2)
    · intro h4
      refine q_bipush (pc' := 17) ja_C_call_15 rfl (-3) (by decide) ?_
      exact q_iret ja_C_call_17 rfl rfl (k3 h2 h4)
set_option maxRecDepth 20000 in
theorem t_C_call_40 {G : jv_X} {d : Nat} {B : Option Value → jg_H → Prop} {s : jg_H} (x1 : Int32)
    (k1 : ¬ x1 < (s 0 5) → (s 0 6) < 0 → B (some (.int (s 0 6))) s)
    (k2 : ¬ x1 < (s 0 5) → ¬ (s 0 6) < 0 → ¬ (s 0 6) < (s 0 3) → B (some (.int (s 0 6))) s)
    (k3 : ¬ x1 < (s 0 5) → ¬ (s 0 6) < 0 → (s 0 6) < (s 0 3) → ¬ (s 0 6) < 8 → B (some (.int (s 0 6))) s)
    (k4 : ¬ x1 < (s 0 5) → ¬ (s 0 6) < 0 → (s 0 6) < (s 0 3) → (s 0 6) < 8 → ∀ s1 : jg_H, s1 = jg_up s (33 + 3 * (s 0 6).toNatClampNeg) 0 2 → B (some (.int (s1 0 6))) s1)
    (k5 : x1 < (s 0 5) → ¬ (x1 + 1) < 8 → (s 0 6) < 0 → B (some (.int (s 0 6))) s)
    (k6 : x1 < (s 0 5) → ¬ (x1 + 1) < 8 → ¬ (s 0 6) < 0 → ¬ (s 0 6) < (s 0 3) → B (some (.int (s 0 6))) s)
    (k7 : x1 < (s 0 5) → ¬ (x1 + 1) < 8 → ¬ (s 0 6) < 0 → (s 0 6) < (s 0 3) → ¬ (s 0 6) < 8 → B (some (.int (s 0 6))) s)
    (k8 : x1 < (s 0 5) → ¬ (x1 + 1) < 8 → ¬ (s 0 6) < 0 → (s 0 6) < (s 0 3) → (s 0 6) < 8 → ∀ s2 : jg_H, s2 = jg_up s (33 + 3 * (s 0 6).toNatClampNeg) 0 2 → B (some (.int (s2 0 6))) s2)
    (k9 : x1 < (s 0 5) → (x1 + 1) < 8 → jv_in (x1 + 1) 8 = true)
    (k10 : x1 < (s 0 5) → (x1 + 1) < 8 → jv_in x1 8 = true)
    (k11 : x1 < (s 0 5) → (x1 + 1) < 8 → ∀ s3 : jg_H, s3 = jg_up s 57 x1.toNatClampNeg (s 57 (x1 + 1).toNatClampNeg) → q_W G (d + 1) jm_C_call B 40 [some (.ref 0), some (.int (x1 + 1))] [] s3) :
    q_W G (d + 1) jm_C_call B 40 [some (.ref 0), some (.int x1)] [] s := by
  refine q_iload_n (pc' := 41) ja_C_call_40 rfl rfl ?_
  refine q_aload_n (pc' := 42) ja_C_call_41 rfl rfl ?_
  refine q_getf (pc' := 45) (v := .int (s 0 5)) ja_C_call_42 rfl (by decide) ⟨rfl, by decide⟩ rfl ?_
  refine q_ic_ge (pc' := 48) ja_C_call_45 rfl ?_ ?_
  · intro h1
    refine q_aload_n (pc' := 80) ja_C_call_79 rfl rfl ?_
    refine q_aload_n (pc' := 81) ja_C_call_80 rfl rfl ?_
    refine q_getf (pc' := 84) (v := .int (s 0 6)) ja_C_call_81 rfl (by decide) ⟨rfl, by decide⟩ rfl ?_
    refine q_virt (pc' := 87) (c := 0) (as := [.int (s 0 6)]) (r := []) ja_C_call_84 rfl rfl rfl (by decide) ⟨rfl, by decide⟩ ?_
    refine q_in (M := jm_C_isBill) rfl (Nat.le_of_ble_eq_true rfl) (ls := [some (.ref 0), some (.int (s 0 6))]) rfl ?_
    refine q_iload_n (pc' := 1) ja_C_isBill_0 rfl rfl ?_
    refine q_if_lt (pc' := 4) ja_C_isBill_1 rfl ?_ ?_
    · intro h2
      refine q_iconst (pc' := 26) ja_C_isBill_25 rfl 0 (by decide) ?_
      refine q_iret ja_C_isBill_26 rfl (by decide) ?_
      show q_W _ _ _ _ 87 [some (.ref 0), some (.int x1)] [.int 0] s
      refine q_if_eq (pc' := 90) ja_C_call_87 rfl (fun _ => ?_) (fun h => absurd ((by decide : (0 : Int32) = 0)) h)
      refine q_aload_n (pc' := 104) ja_C_call_103 rfl rfl ?_
      refine q_getf (pc' := 107) (v := .int (s 0 6)) ja_C_call_104 rfl (by decide) ⟨rfl, by decide⟩ rfl ?_
      exact q_iret ja_C_call_107 rfl rfl (k1 h1 h2)
    · intro h3
      refine q_iload_n (pc' := 5) ja_C_isBill_4 rfl rfl ?_
      refine q_aload_n (pc' := 6) ja_C_isBill_5 rfl rfl ?_
      refine q_getf (pc' := 9) (v := .int (s 0 3)) ja_C_isBill_6 rfl (by decide) ⟨rfl, by decide⟩ rfl ?_
      refine q_ic_ge (pc' := 12) ja_C_isBill_9 rfl ?_ ?_
      · intro h4
        refine q_iconst (pc' := 26) ja_C_isBill_25 rfl 0 (by decide) ?_
        refine q_iret ja_C_isBill_26 rfl (by decide) ?_
        show q_W _ _ _ _ 87 [some (.ref 0), some (.int x1)] [.int 0] s
        refine q_if_eq (pc' := 90) ja_C_call_87 rfl (fun _ => ?_) (fun h => absurd ((by decide : (0 : Int32) = 0)) h)
        refine q_aload_n (pc' := 104) ja_C_call_103 rfl rfl ?_
        refine q_getf (pc' := 107) (v := .int (s 0 6)) ja_C_call_104 rfl (by decide) ⟨rfl, by decide⟩ rfl ?_
        exact q_iret ja_C_call_107 rfl rfl (k2 h1 h3 h4)
      · intro h5
        refine q_iload_n (pc' := 13) ja_C_isBill_12 rfl rfl ?_
        refine q_aload_n (pc' := 14) ja_C_isBill_13 rfl rfl ?_
        refine q_getf (pc' := 17) (v := .ref 32) ja_C_isBill_14 rfl (by decide) ⟨rfl, by decide⟩ rfl ?_
        refine q_alen (pc' := 18) ja_C_isBill_17 rfl (by decide) (kd := 17) (l := 8) rfl (by decide) (v := 8) (by decide) ?_
        refine q_ic_ge (pc' := 21) ja_C_isBill_18 rfl ?_ ?_
        · intro h6
          refine q_iconst (pc' := 26) ja_C_isBill_25 rfl 0 (by decide) ?_
          refine q_iret ja_C_isBill_26 rfl (by decide) ?_
          show q_W _ _ _ _ 87 [some (.ref 0), some (.int x1)] [.int 0] s
          refine q_if_eq (pc' := 90) ja_C_call_87 rfl (fun _ => ?_) (fun h => absurd ((by decide : (0 : Int32) = 0)) h)
          refine q_aload_n (pc' := 104) ja_C_call_103 rfl rfl ?_
          refine q_getf (pc' := 107) (v := .int (s 0 6)) ja_C_call_104 rfl (by decide) ⟨rfl, by decide⟩ rfl ?_
          exact q_iret ja_C_call_107 rfl rfl (k3 h1 h3 h5 h6)
        · intro h7
          refine q_iconst (pc' := 22) ja_C_isBill_21 rfl 1 (by decide) ?_
          refine q_goto ja_C_isBill_22 ?_
          refine q_iret ja_C_isBill_26 rfl (by decide) ?_
          show q_W _ _ _ _ 87 [some (.ref 0), some (.int x1)] [.int 1] s
          refine q_if_eq (pc' := 90) ja_C_call_87 rfl (fun h => absurd h ((by decide : ¬ (1 : Int32) = 0))) (fun _ => ?_)
          refine q_aload_n (pc' := 91) ja_C_call_90 rfl rfl ?_
          refine q_getf (pc' := 94) (v := .ref 32) ja_C_call_91 rfl (by decide) ⟨rfl, by decide⟩ rfl ?_
          refine q_aload_n (pc' := 95) ja_C_call_94 rfl rfl ?_
          refine q_getf (pc' := 98) (v := .int (s 0 6)) ja_C_call_95 rfl (by decide) ⟨rfl, by decide⟩ rfl ?_
          refine q_aald (pc' := 99) (v := .ref (33 + 3 * (s 0 6).toNatClampNeg)) ja_C_call_98 rfl (by decide) (kd := 17) (l := 8) rfl (by decide) (q_inr (l := 8) (by decide) h3 h7) (f_A32 (f_in (q_inr (l := 8) (by decide) h3 h7))) ?_
          refine q_iconst (pc' := 100) ja_C_call_99 rfl 2 (by decide) ?_
          refine q_putf (pc' := 103) ja_C_call_100 rfl (f_1_c (f_m32 (f_in (q_inr (l := 8) (by decide) h3 h7)))) (by rw [f_1_k (f_m32 (f_in (q_inr (l := 8) (by decide) h3 h7)))]) rfl (by rw [f_1_k (f_m32 (f_in (q_inr (l := 8) (by decide) h3 h7)))]; rfl) ?_
          intro s1 e1
          refine q_aload_n (pc' := 104) ja_C_call_103 rfl rfl ?_
          refine q_getf (pc' := 107) (v := .int (s1 0 6)) ja_C_call_104 rfl (by decide) ⟨rfl, by decide⟩ rfl ?_
          exact q_iret ja_C_call_107 rfl rfl (k4 h1 h3 h5 h7 s1 e1)
  · intro h8
    refine q_iload_n (pc' := 49) ja_C_call_48 rfl rfl ?_
    refine q_iconst (pc' := 50) ja_C_call_49 rfl 1 (by decide) ?_
    refine q_iadd (pc' := 51) ja_C_call_50 rfl ?_
    refine q_aload_n (pc' := 52) ja_C_call_51 rfl rfl ?_
    refine q_getf (pc' := 55) (v := .ref 57) ja_C_call_52 rfl (by decide) ⟨rfl, by decide⟩ rfl ?_
    refine q_alen (pc' := 56) ja_C_call_55 rfl (by decide) (kd := 13) (l := 8) rfl (by decide) (v := 8) (by decide) ?_
    refine q_ic_ge (pc' := 59) ja_C_call_56 rfl ?_ ?_
    · intro h9
      refine q_aload_n (pc' := 80) ja_C_call_79 rfl rfl ?_
      refine q_aload_n (pc' := 81) ja_C_call_80 rfl rfl ?_
      refine q_getf (pc' := 84) (v := .int (s 0 6)) ja_C_call_81 rfl (by decide) ⟨rfl, by decide⟩ rfl ?_
      refine q_virt (pc' := 87) (c := 0) (as := [.int (s 0 6)]) (r := []) ja_C_call_84 rfl rfl rfl (by decide) ⟨rfl, by decide⟩ ?_
      refine q_in (M := jm_C_isBill) rfl (Nat.le_of_ble_eq_true rfl) (ls := [some (.ref 0), some (.int (s 0 6))]) rfl ?_
      refine q_iload_n (pc' := 1) ja_C_isBill_0 rfl rfl ?_
      refine q_if_lt (pc' := 4) ja_C_isBill_1 rfl ?_ ?_
      · intro h10
        refine q_iconst (pc' := 26) ja_C_isBill_25 rfl 0 (by decide) ?_
        refine q_iret ja_C_isBill_26 rfl (by decide) ?_
        show q_W _ _ _ _ 87 [some (.ref 0), some (.int x1)] [.int 0] s
        refine q_if_eq (pc' := 90) ja_C_call_87 rfl (fun _ => ?_) (fun h => absurd ((by decide : (0 : Int32) = 0)) h)
        refine q_aload_n (pc' := 104) ja_C_call_103 rfl rfl ?_
        refine q_getf (pc' := 107) (v := .int (s 0 6)) ja_C_call_104 rfl (by decide) ⟨rfl, by decide⟩ rfl ?_
        exact q_iret ja_C_call_107 rfl rfl (k5 h8 h9 h10)
      · intro h11
        refine q_iload_n (pc' := 5) ja_C_isBill_4 rfl rfl ?_
        refine q_aload_n (pc' := 6) ja_C_isBill_5 rfl rfl ?_
        refine q_getf (pc' := 9) (v := .int (s 0 3)) ja_C_isBill_6 rfl (by decide) ⟨rfl, by decide⟩ rfl ?_
        refine q_ic_ge (pc' := 12) ja_C_isBill_9 rfl ?_ ?_
        · intro h12
          refine q_iconst (pc' := 26) ja_C_isBill_25 rfl 0 (by decide) ?_
          refine q_iret ja_C_isBill_26 rfl (by decide) ?_
          show q_W _ _ _ _ 87 [some (.ref 0), some (.int x1)] [.int 0] s
          refine q_if_eq (pc' := 90) ja_C_call_87 rfl (fun _ => ?_) (fun h => absurd ((by decide : (0 : Int32) = 0)) h)
          refine q_aload_n (pc' := 104) ja_C_call_103 rfl rfl ?_
          refine q_getf (pc' := 107) (v := .int (s 0 6)) ja_C_call_104 rfl (by decide) ⟨rfl, by decide⟩ rfl ?_
          exact q_iret ja_C_call_107 rfl rfl (k6 h8 h9 h11 h12)
        · intro h13
          refine q_iload_n (pc' := 13) ja_C_isBill_12 rfl rfl ?_
          refine q_aload_n (pc' := 14) ja_C_isBill_13 rfl rfl ?_
          refine q_getf (pc' := 17) (v := .ref 32) ja_C_isBill_14 rfl (by decide) ⟨rfl, by decide⟩ rfl ?_
          refine q_alen (pc' := 18) ja_C_isBill_17 rfl (by decide) (kd := 17) (l := 8) rfl (by decide) (v := 8) (by decide) ?_
          refine q_ic_ge (pc' := 21) ja_C_isBill_18 rfl ?_ ?_
          · intro h14
            refine q_iconst (pc' := 26) ja_C_isBill_25 rfl 0 (by decide) ?_
            refine q_iret ja_C_isBill_26 rfl (by decide) ?_
            show q_W _ _ _ _ 87 [some (.ref 0), some (.int x1)] [.int 0] s
            refine q_if_eq (pc' := 90) ja_C_call_87 rfl (fun _ => ?_) (fun h => absurd ((by decide : (0 : Int32) = 0)) h)
            refine q_aload_n (pc' := 104) ja_C_call_103 rfl rfl ?_
            refine q_getf (pc' := 107) (v := .int (s 0 6)) ja_C_call_104 rfl (by decide) ⟨rfl, by decide⟩ rfl ?_
            exact q_iret ja_C_call_107 rfl rfl (k7 h8 h9 h11 h13 h14)
          · intro h15
            refine q_iconst (pc' := 22) ja_C_isBill_21 rfl 1 (by decide) ?_
            refine q_goto ja_C_isBill_22 ?_
            refine q_iret ja_C_isBill_26 rfl (by decide) ?_
            show q_W _ _ _ _ 87 [some (.ref 0), some (.int x1)] [.int 1] s
            refine q_if_eq (pc' := 90) ja_C_call_87 rfl (fun h => absurd h ((by decide : ¬ (1 : Int32) = 0))) (fun _ => ?_)
            refine q_aload_n (pc' := 91) ja_C_call_90 rfl rfl ?_
            refine q_getf (pc' := 94) (v := .ref 32) ja_C_call_91 rfl (by decide) ⟨rfl, by decide⟩ rfl ?_
            refine q_aload_n (pc' := 95) ja_C_call_94 rfl rfl ?_
            refine q_getf (pc' := 98) (v := .int (s 0 6)) ja_C_call_95 rfl (by decide) ⟨rfl, by decide⟩ rfl ?_
            refine q_aald (pc' := 99) (v := .ref (33 + 3 * (s 0 6).toNatClampNeg)) ja_C_call_98 rfl (by decide) (kd := 17) (l := 8) rfl (by decide) (q_inr (l := 8) (by decide) h11 h15) (f_A32 (f_in (q_inr (l := 8) (by decide) h11 h15))) ?_
            refine q_iconst (pc' := 100) ja_C_call_99 rfl 2 (by decide) ?_
            refine q_putf (pc' := 103) ja_C_call_100 rfl (f_1_c (f_m32 (f_in (q_inr (l := 8) (by decide) h11 h15)))) (by rw [f_1_k (f_m32 (f_in (q_inr (l := 8) (by decide) h11 h15)))]) rfl (by rw [f_1_k (f_m32 (f_in (q_inr (l := 8) (by decide) h11 h15)))]; rfl) ?_
            intro s2 e2
            refine q_aload_n (pc' := 104) ja_C_call_103 rfl rfl ?_
            refine q_getf (pc' := 107) (v := .int (s2 0 6)) ja_C_call_104 rfl (by decide) ⟨rfl, by decide⟩ rfl ?_
            exact q_iret ja_C_call_107 rfl rfl (k8 h8 h9 h11 h13 h15 s2 e2)
    · intro h16
      refine q_aload_n (pc' := 60) ja_C_call_59 rfl rfl ?_
      refine q_getf (pc' := 63) (v := .ref 57) ja_C_call_60 rfl (by decide) ⟨rfl, by decide⟩ rfl ?_
      refine q_iload_n (pc' := 64) ja_C_call_63 rfl rfl ?_
      refine q_aload_n (pc' := 65) ja_C_call_64 rfl rfl ?_
      refine q_getf (pc' := 68) (v := .ref 57) ja_C_call_65 rfl (by decide) ⟨rfl, by decide⟩ rfl ?_
      refine q_iload_n (pc' := 69) ja_C_call_68 rfl rfl ?_
      refine q_iconst (pc' := 70) ja_C_call_69 rfl 1 (by decide) ?_
      refine q_iadd (pc' := 71) ja_C_call_70 rfl ?_
      refine q_iald (pc' := 72) (v := .int (s 57 (x1 + 1).toNatClampNeg)) ja_C_call_71 rfl (by decide) (l := 8) rfl (k9 h8 h16) rfl ?_
      refine q_iast (pc' := 73) ja_C_call_72 rfl (by decide) (l := 8) rfl (k10 h8 h16) ?_
      intro s3 e3
      refine q_iinc (pc' := 76) (ls' := [some (.ref 0), some (.int (x1 + 1))]) ja_C_call_73 rfl rfl (x1 + 1) rfl ⟨Nat.le_of_ble_eq_true rfl, rfl⟩ rfl ?_
      refine q_goto ja_C_call_76 ?_
      exact (k11 h8 h16 s3 e3)
set_option maxRecDepth 20000 in
theorem t_C_carry {G : jv_X} {d : Nat} {B : Option Value → jg_H → Prop} {s : jg_H} (a1 : Int32) (a2 : Int32) (a3 : Int32)
    (k1 : a1 = 0 → (s 0 6) < 0 → B none s)
    (k2 : a1 = 0 → ¬ (s 0 6) < 0 → ¬ (s 0 6) < (s 0 3) → B none s)
    (k3 : a1 = 0 → ¬ (s 0 6) < 0 → (s 0 6) < (s 0 3) → ¬ (s 0 6) < 8 → B none s)
    (k4 : a1 = 0 → ¬ (s 0 6) < 0 → (s 0 6) < (s 0 3) → (s 0 6) < 8 → ∀ s1 : jg_H, s1 = jg_up s (33 + 3 * (s 0 6).toNatClampNeg) 0 3 → ∀ s2 : jg_H, s2 = jg_up s1 0 6 (-1) → ∀ s3 : jg_H, s3 = jg_up s2 60 0 0 → ∀ s4 : jg_H, s4 = jg_up s3 66 0 0 → B none s4)
    (k5 : ¬ a1 = 0 → a1 = 4 → (s 0 6) < 0 → B none s)
    (k6 : ¬ a1 = 0 → a1 = 4 → ¬ (s 0 6) < 0 → ¬ (s 0 6) < (s 0 3) → B none s)
    (k7 : ¬ a1 = 0 → a1 = 4 → ¬ (s 0 6) < 0 → (s 0 6) < (s 0 3) → ¬ (s 0 6) < 8 → B none s)
    (k8 : ¬ a1 = 0 → a1 = 4 → ¬ (s 0 6) < 0 → (s 0 6) < (s 0 3) → (s 0 6) < 8 → ∀ s5 : jg_H, s5 = jg_up s (33 + 3 * (s 0 6).toNatClampNeg) 0 4 → ∀ s6 : jg_H, s6 = jg_up s5 0 6 (-1) → ∀ s7 : jg_H, s7 = jg_up s6 60 0 0 → ∀ s8 : jg_H, s8 = jg_up s7 66 0 0 → B none s8)
    (k9 : ¬ a1 = 0 → ¬ a1 = 4 → a1 = 5 → (s 0 6) < 0 → B none s)
    (k10 : ¬ a1 = 0 → ¬ a1 = 4 → a1 = 5 → ¬ (s 0 6) < 0 → ¬ (s 0 6) < (s 0 3) → B none s)
    (k11 : ¬ a1 = 0 → ¬ a1 = 4 → a1 = 5 → ¬ (s 0 6) < 0 → (s 0 6) < (s 0 3) → ¬ (s 0 6) < 8 → B none s)
    (k12 : ¬ a1 = 0 → ¬ a1 = 4 → a1 = 5 → ¬ (s 0 6) < 0 → (s 0 6) < (s 0 3) → (s 0 6) < 8 → ∀ s9 : jg_H, s9 = jg_up s (33 + 3 * (s 0 6).toNatClampNeg) 0 0 → jv_in (s9 0 6) 8 = true)
    (k13 : ¬ a1 = 0 → ¬ a1 = 4 → a1 = 5 → ¬ (s 0 6) < 0 → (s 0 6) < (s 0 3) → (s 0 6) < 8 → ∀ s9 : jg_H, s9 = jg_up s (33 + 3 * (s 0 6).toNatClampNeg) 0 0 → ∀ s10 : jg_H, s10 = jg_up s9 (33 + 3 * (s9 0 6).toNatClampNeg) 1 0 → ∀ s11 : jg_H, s11 = jg_up s10 0 6 (-1) → ∀ s12 : jg_H, s12 = jg_up s11 60 0 0 → ∀ s13 : jg_H, s13 = jg_up s12 66 0 0 → B none s13)
    (k14 : ¬ a1 = 0 → ¬ a1 = 4 → ¬ a1 = 5 → a1 = 6 → ∀ s14 : jg_H, s14 = jg_up s 0 12 a3 → B none s14)
    (k15 : ¬ a1 = 0 → ¬ a1 = 4 → ¬ a1 = 5 → ¬ a1 = 6 → q_P G (d + 2) 99 [.ref 0, .int a1, .int a2, .int a3] s (fun v t => q_W G (d + 2) jm_C_carry B 83 [some (.ref 0), some (.int a1), some (.int a2), some (.int a3)] (v.toList ++ []) t)) :
    q_P G (d + 3) 97 [.ref 0, .int a1, .int a2, .int a3] s B := by
  refine q_in (M := jm_C_carry) rfl (Nat.le_of_ble_eq_true rfl) (ls := [some (.ref 0), some (.int a1), some (.int a2), some (.int a3)]) rfl ?_
  refine q_iload_n (pc' := 1) ja_C_carry_0 rfl rfl ?_
  by_cases h1 : a1 = 0
  · refine q_swE (pc' := 44) ja_C_carry_1 (by rw [h1]; decide) (by rw [h1]; exact ⟨_, rfl, rfl⟩) ?_
    refine q_aload_n (pc' := 45) ja_C_carry_44 rfl rfl ?_
    refine q_iconst (pc' := 46) ja_C_carry_45 rfl 3 (by decide) ?_
    refine q_virt (pc' := 49) (c := 0) (as := [.int 3]) (r := []) ja_C_carry_46 rfl rfl rfl (by decide) ⟨rfl, by decide⟩ ?_
    refine q_in (M := jm_C_leaveFloor) rfl (Nat.le_of_ble_eq_true rfl) (ls := [some (.ref 0), some (.int 3)]) rfl ?_
    refine q_aload_n (pc' := 1) ja_C_leaveFloor_0 rfl rfl ?_
    refine q_aload_n (pc' := 2) ja_C_leaveFloor_1 rfl rfl ?_
    refine q_getf (pc' := 5) (v := .int (s 0 6)) ja_C_leaveFloor_2 rfl (by decide) ⟨rfl, by decide⟩ rfl ?_
    refine q_virt (pc' := 8) (c := 0) (as := [.int (s 0 6)]) (r := []) ja_C_leaveFloor_5 rfl rfl rfl (by decide) ⟨rfl, by decide⟩ ?_
    refine q_in (M := jm_C_isBill) rfl (Nat.le_of_ble_eq_true rfl) (ls := [some (.ref 0), some (.int (s 0 6))]) rfl ?_
    refine q_iload_n (pc' := 1) ja_C_isBill_0 rfl rfl ?_
    refine q_if_lt (pc' := 4) ja_C_isBill_1 rfl ?_ ?_
    · intro h2
      refine q_iconst (pc' := 26) ja_C_isBill_25 rfl 0 (by decide) ?_
      refine q_iret ja_C_isBill_26 rfl (by decide) ?_
      show q_W _ _ _ _ 8 [some (.ref 0), some (.int 3)] [.int 0] s
      refine q_if_ne (pc' := 11) ja_C_leaveFloor_8 rfl (fun h => absurd ((by decide : (0 : Int32) = 0)) h) (fun _ => ?_)
      refine q_vret ja_C_leaveFloor_11 rfl ?_
      show q_W _ _ _ _ 49 [some (.ref 0), some (.int a1), some (.int a2), some (.int a3)] [] s
      refine q_goto ja_C_carry_49 ?_
      exact q_vret ja_C_carry_83 rfl (k1 h1 h2)
    · intro h3
      refine q_iload_n (pc' := 5) ja_C_isBill_4 rfl rfl ?_
      refine q_aload_n (pc' := 6) ja_C_isBill_5 rfl rfl ?_
      refine q_getf (pc' := 9) (v := .int (s 0 3)) ja_C_isBill_6 rfl (by decide) ⟨rfl, by decide⟩ rfl ?_
      refine q_ic_ge (pc' := 12) ja_C_isBill_9 rfl ?_ ?_
      · intro h4
        refine q_iconst (pc' := 26) ja_C_isBill_25 rfl 0 (by decide) ?_
        refine q_iret ja_C_isBill_26 rfl (by decide) ?_
        show q_W _ _ _ _ 8 [some (.ref 0), some (.int 3)] [.int 0] s
        refine q_if_ne (pc' := 11) ja_C_leaveFloor_8 rfl (fun h => absurd ((by decide : (0 : Int32) = 0)) h) (fun _ => ?_)
        refine q_vret ja_C_leaveFloor_11 rfl ?_
        show q_W _ _ _ _ 49 [some (.ref 0), some (.int a1), some (.int a2), some (.int a3)] [] s
        refine q_goto ja_C_carry_49 ?_
        exact q_vret ja_C_carry_83 rfl (k2 h1 h3 h4)
      · intro h5
        refine q_iload_n (pc' := 13) ja_C_isBill_12 rfl rfl ?_
        refine q_aload_n (pc' := 14) ja_C_isBill_13 rfl rfl ?_
        refine q_getf (pc' := 17) (v := .ref 32) ja_C_isBill_14 rfl (by decide) ⟨rfl, by decide⟩ rfl ?_
        refine q_alen (pc' := 18) ja_C_isBill_17 rfl (by decide) (kd := 17) (l := 8) rfl (by decide) (v := 8) (by decide) ?_
        refine q_ic_ge (pc' := 21) ja_C_isBill_18 rfl ?_ ?_
        · intro h6
          refine q_iconst (pc' := 26) ja_C_isBill_25 rfl 0 (by decide) ?_
          refine q_iret ja_C_isBill_26 rfl (by decide) ?_
          show q_W _ _ _ _ 8 [some (.ref 0), some (.int 3)] [.int 0] s
          refine q_if_ne (pc' := 11) ja_C_leaveFloor_8 rfl (fun h => absurd ((by decide : (0 : Int32) = 0)) h) (fun _ => ?_)
          refine q_vret ja_C_leaveFloor_11 rfl ?_
          show q_W _ _ _ _ 49 [some (.ref 0), some (.int a1), some (.int a2), some (.int a3)] [] s
          refine q_goto ja_C_carry_49 ?_
          exact q_vret ja_C_carry_83 rfl (k3 h1 h3 h5 h6)
        · intro h7
          refine q_iconst (pc' := 22) ja_C_isBill_21 rfl 1 (by decide) ?_
          refine q_goto ja_C_isBill_22 ?_
          refine q_iret ja_C_isBill_26 rfl (by decide) ?_
          show q_W _ _ _ _ 8 [some (.ref 0), some (.int 3)] [.int 1] s
          refine q_if_ne (pc' := 11) ja_C_leaveFloor_8 rfl (fun _ => ?_) (fun h => absurd h ((by decide : ¬ (1 : Int32) = 0)))
          refine q_aload_n (pc' := 13) ja_C_leaveFloor_12 rfl rfl ?_
          refine q_getf (pc' := 16) (v := .ref 32) ja_C_leaveFloor_13 rfl (by decide) ⟨rfl, by decide⟩ rfl ?_
          refine q_aload_n (pc' := 17) ja_C_leaveFloor_16 rfl rfl ?_
          refine q_getf (pc' := 20) (v := .int (s 0 6)) ja_C_leaveFloor_17 rfl (by decide) ⟨rfl, by decide⟩ rfl ?_
          refine q_aald (pc' := 21) (v := .ref (33 + 3 * (s 0 6).toNatClampNeg)) ja_C_leaveFloor_20 rfl (by decide) (kd := 17) (l := 8) rfl (by decide) (q_inr (l := 8) (by decide) h3 h7) (f_A32 (f_in (q_inr (l := 8) (by decide) h3 h7))) ?_
          refine q_iload_n (pc' := 22) ja_C_leaveFloor_21 rfl rfl ?_
          refine q_putf (pc' := 25) ja_C_leaveFloor_22 rfl (f_1_c (f_m32 (f_in (q_inr (l := 8) (by decide) h3 h7)))) (by rw [f_1_k (f_m32 (f_in (q_inr (l := 8) (by decide) h3 h7)))]) rfl (by rw [f_1_k (f_m32 (f_in (q_inr (l := 8) (by decide) h3 h7)))]; rfl) ?_
          intro s1 e1
          refine q_iload_n (pc' := 26) ja_C_leaveFloor_25 rfl rfl ?_
          refine q_if_ne (pc' := 29) ja_C_leaveFloor_26 rfl (fun _ => ?_) (fun h => absurd h ((by decide : ¬ (3 : Int32) = 0)))
          refine q_aload_n (pc' := 43) ja_C_leaveFloor_42 rfl rfl ?_
          refine q_iconst (pc' := 44) ja_C_leaveFloor_43 rfl (-1) (by decide) ?_
          refine q_putf (pc' := 47) ja_C_leaveFloor_44 rfl (by decide) rfl rfl rfl ?_
          intro s2 e2
          refine q_aload_n (pc' := 48) ja_C_leaveFloor_47 rfl rfl ?_
          refine q_getf (pc' := 51) (v := .ref 60) ja_C_leaveFloor_48 rfl (by decide) ⟨rfl, by decide⟩ rfl ?_
          refine q_iconst (pc' := 52) ja_C_leaveFloor_51 rfl 0 (by decide) ?_
          refine q_putf (pc' := 55) ja_C_leaveFloor_52 rfl (by decide) rfl rfl rfl ?_
          intro s3 e3
          refine q_aload_n (pc' := 56) ja_C_leaveFloor_55 rfl rfl ?_
          refine q_getf (pc' := 59) (v := .ref 65) ja_C_leaveFloor_56 rfl (by decide) ⟨rfl, by decide⟩ rfl ?_
          refine q_getf (pc' := 62) (v := .ref 66) ja_C_leaveFloor_59 rfl (by decide) ⟨rfl, by decide⟩ rfl ?_
          refine q_iconst (pc' := 63) ja_C_leaveFloor_62 rfl 0 (by decide) ?_
          refine q_putf (pc' := 66) ja_C_leaveFloor_63 rfl (by decide) rfl rfl rfl ?_
          intro s4 e4
          refine q_vret ja_C_leaveFloor_66 rfl ?_
          show q_W _ _ _ _ 49 [some (.ref 0), some (.int a1), some (.int a2), some (.int a3)] [] s4
          refine q_goto ja_C_carry_49 ?_
          exact q_vret ja_C_carry_83 rfl (k4 h1 h3 h5 h7 s1 e1 s2 e2 s3 e3 s4 e4)
  by_cases h8 : a1 = 4
  · refine q_swE (pc' := 52) ja_C_carry_1 (by rw [h8]; decide) (by rw [h8]; exact ⟨_, rfl, rfl⟩) ?_
    refine q_aload_n (pc' := 53) ja_C_carry_52 rfl rfl ?_
    refine q_iconst (pc' := 54) ja_C_carry_53 rfl 4 (by decide) ?_
    refine q_virt (pc' := 57) (c := 0) (as := [.int 4]) (r := []) ja_C_carry_54 rfl rfl rfl (by decide) ⟨rfl, by decide⟩ ?_
    refine q_in (M := jm_C_leaveFloor) rfl (Nat.le_of_ble_eq_true rfl) (ls := [some (.ref 0), some (.int 4)]) rfl ?_
    refine q_aload_n (pc' := 1) ja_C_leaveFloor_0 rfl rfl ?_
    refine q_aload_n (pc' := 2) ja_C_leaveFloor_1 rfl rfl ?_
    refine q_getf (pc' := 5) (v := .int (s 0 6)) ja_C_leaveFloor_2 rfl (by decide) ⟨rfl, by decide⟩ rfl ?_
    refine q_virt (pc' := 8) (c := 0) (as := [.int (s 0 6)]) (r := []) ja_C_leaveFloor_5 rfl rfl rfl (by decide) ⟨rfl, by decide⟩ ?_
    refine q_in (M := jm_C_isBill) rfl (Nat.le_of_ble_eq_true rfl) (ls := [some (.ref 0), some (.int (s 0 6))]) rfl ?_
    refine q_iload_n (pc' := 1) ja_C_isBill_0 rfl rfl ?_
    refine q_if_lt (pc' := 4) ja_C_isBill_1 rfl ?_ ?_
    · intro h9
      refine q_iconst (pc' := 26) ja_C_isBill_25 rfl 0 (by decide) ?_
      refine q_iret ja_C_isBill_26 rfl (by decide) ?_
      show q_W _ _ _ _ 8 [some (.ref 0), some (.int 4)] [.int 0] s
      refine q_if_ne (pc' := 11) ja_C_leaveFloor_8 rfl (fun h => absurd ((by decide : (0 : Int32) = 0)) h) (fun _ => ?_)
      refine q_vret ja_C_leaveFloor_11 rfl ?_
      show q_W _ _ _ _ 57 [some (.ref 0), some (.int a1), some (.int a2), some (.int a3)] [] s
      refine q_goto ja_C_carry_57 ?_
      exact q_vret ja_C_carry_83 rfl (k5 h1 h8 h9)
    · intro h10
      refine q_iload_n (pc' := 5) ja_C_isBill_4 rfl rfl ?_
      refine q_aload_n (pc' := 6) ja_C_isBill_5 rfl rfl ?_
      refine q_getf (pc' := 9) (v := .int (s 0 3)) ja_C_isBill_6 rfl (by decide) ⟨rfl, by decide⟩ rfl ?_
      refine q_ic_ge (pc' := 12) ja_C_isBill_9 rfl ?_ ?_
      · intro h11
        refine q_iconst (pc' := 26) ja_C_isBill_25 rfl 0 (by decide) ?_
        refine q_iret ja_C_isBill_26 rfl (by decide) ?_
        show q_W _ _ _ _ 8 [some (.ref 0), some (.int 4)] [.int 0] s
        refine q_if_ne (pc' := 11) ja_C_leaveFloor_8 rfl (fun h => absurd ((by decide : (0 : Int32) = 0)) h) (fun _ => ?_)
        refine q_vret ja_C_leaveFloor_11 rfl ?_
        show q_W _ _ _ _ 57 [some (.ref 0), some (.int a1), some (.int a2), some (.int a3)] [] s
        refine q_goto ja_C_carry_57 ?_
        exact q_vret ja_C_carry_83 rfl (k6 h1 h8 h10 h11)
      · intro h12
        refine q_iload_n (pc' := 13) ja_C_isBill_12 rfl rfl ?_
        refine q_aload_n (pc' := 14) ja_C_isBill_13 rfl rfl ?_
        refine q_getf (pc' := 17) (v := .ref 32) ja_C_isBill_14 rfl (by decide) ⟨rfl, by decide⟩ rfl ?_
        refine q_alen (pc' := 18) ja_C_isBill_17 rfl (by decide) (kd := 17) (l := 8) rfl (by decide) (v := 8) (by decide) ?_
        refine q_ic_ge (pc' := 21) ja_C_isBill_18 rfl ?_ ?_
        · intro h13
          refine q_iconst (pc' := 26) ja_C_isBill_25 rfl 0 (by decide) ?_
          refine q_iret ja_C_isBill_26 rfl (by decide) ?_
          show q_W _ _ _ _ 8 [some (.ref 0), some (.int 4)] [.int 0] s
          refine q_if_ne (pc' := 11) ja_C_leaveFloor_8 rfl (fun h => absurd ((by decide : (0 : Int32) = 0)) h) (fun _ => ?_)
          refine q_vret ja_C_leaveFloor_11 rfl ?_
          show q_W _ _ _ _ 57 [some (.ref 0), some (.int a1), some (.int a2), some (.int a3)] [] s
          refine q_goto ja_C_carry_57 ?_
          exact q_vret ja_C_carry_83 rfl (k7 h1 h8 h10 h12 h13)
        · intro h14
          refine q_iconst (pc' := 22) ja_C_isBill_21 rfl 1 (by decide) ?_
          refine q_goto ja_C_isBill_22 ?_
          refine q_iret ja_C_isBill_26 rfl (by decide) ?_
          show q_W _ _ _ _ 8 [some (.ref 0), some (.int 4)] [.int 1] s
          refine q_if_ne (pc' := 11) ja_C_leaveFloor_8 rfl (fun _ => ?_) (fun h => absurd h ((by decide : ¬ (1 : Int32) = 0)))
          refine q_aload_n (pc' := 13) ja_C_leaveFloor_12 rfl rfl ?_
          refine q_getf (pc' := 16) (v := .ref 32) ja_C_leaveFloor_13 rfl (by decide) ⟨rfl, by decide⟩ rfl ?_
          refine q_aload_n (pc' := 17) ja_C_leaveFloor_16 rfl rfl ?_
          refine q_getf (pc' := 20) (v := .int (s 0 6)) ja_C_leaveFloor_17 rfl (by decide) ⟨rfl, by decide⟩ rfl ?_
          refine q_aald (pc' := 21) (v := .ref (33 + 3 * (s 0 6).toNatClampNeg)) ja_C_leaveFloor_20 rfl (by decide) (kd := 17) (l := 8) rfl (by decide) (q_inr (l := 8) (by decide) h10 h14) (f_A32 (f_in (q_inr (l := 8) (by decide) h10 h14))) ?_
          refine q_iload_n (pc' := 22) ja_C_leaveFloor_21 rfl rfl ?_
          refine q_putf (pc' := 25) ja_C_leaveFloor_22 rfl (f_1_c (f_m32 (f_in (q_inr (l := 8) (by decide) h10 h14)))) (by rw [f_1_k (f_m32 (f_in (q_inr (l := 8) (by decide) h10 h14)))]) rfl (by rw [f_1_k (f_m32 (f_in (q_inr (l := 8) (by decide) h10 h14)))]; rfl) ?_
          intro s5 e5
          refine q_iload_n (pc' := 26) ja_C_leaveFloor_25 rfl rfl ?_
          refine q_if_ne (pc' := 29) ja_C_leaveFloor_26 rfl (fun _ => ?_) (fun h => absurd h ((by decide : ¬ (4 : Int32) = 0)))
          refine q_aload_n (pc' := 43) ja_C_leaveFloor_42 rfl rfl ?_
          refine q_iconst (pc' := 44) ja_C_leaveFloor_43 rfl (-1) (by decide) ?_
          refine q_putf (pc' := 47) ja_C_leaveFloor_44 rfl (by decide) rfl rfl rfl ?_
          intro s6 e6
          refine q_aload_n (pc' := 48) ja_C_leaveFloor_47 rfl rfl ?_
          refine q_getf (pc' := 51) (v := .ref 60) ja_C_leaveFloor_48 rfl (by decide) ⟨rfl, by decide⟩ rfl ?_
          refine q_iconst (pc' := 52) ja_C_leaveFloor_51 rfl 0 (by decide) ?_
          refine q_putf (pc' := 55) ja_C_leaveFloor_52 rfl (by decide) rfl rfl rfl ?_
          intro s7 e7
          refine q_aload_n (pc' := 56) ja_C_leaveFloor_55 rfl rfl ?_
          refine q_getf (pc' := 59) (v := .ref 65) ja_C_leaveFloor_56 rfl (by decide) ⟨rfl, by decide⟩ rfl ?_
          refine q_getf (pc' := 62) (v := .ref 66) ja_C_leaveFloor_59 rfl (by decide) ⟨rfl, by decide⟩ rfl ?_
          refine q_iconst (pc' := 63) ja_C_leaveFloor_62 rfl 0 (by decide) ?_
          refine q_putf (pc' := 66) ja_C_leaveFloor_63 rfl (by decide) rfl rfl rfl ?_
          intro s8 e8
          refine q_vret ja_C_leaveFloor_66 rfl ?_
          show q_W _ _ _ _ 57 [some (.ref 0), some (.int a1), some (.int a2), some (.int a3)] [] s8
          refine q_goto ja_C_carry_57 ?_
          exact q_vret ja_C_carry_83 rfl (k8 h1 h8 h10 h12 h14 s5 e5 s6 e6 s7 e7 s8 e8)
  by_cases h15 : a1 = 5
  · refine q_swE (pc' := 60) ja_C_carry_1 (by rw [h15]; decide) (by rw [h15]; exact ⟨_, rfl, rfl⟩) ?_
    refine q_aload_n (pc' := 61) ja_C_carry_60 rfl rfl ?_
    refine q_iconst (pc' := 62) ja_C_carry_61 rfl 0 (by decide) ?_
    refine q_virt (pc' := 65) (c := 0) (as := [.int 0]) (r := []) ja_C_carry_62 rfl rfl rfl (by decide) ⟨rfl, by decide⟩ ?_
    refine q_in (M := jm_C_leaveFloor) rfl (Nat.le_of_ble_eq_true rfl) (ls := [some (.ref 0), some (.int 0)]) rfl ?_
    refine q_aload_n (pc' := 1) ja_C_leaveFloor_0 rfl rfl ?_
    refine q_aload_n (pc' := 2) ja_C_leaveFloor_1 rfl rfl ?_
    refine q_getf (pc' := 5) (v := .int (s 0 6)) ja_C_leaveFloor_2 rfl (by decide) ⟨rfl, by decide⟩ rfl ?_
    refine q_virt (pc' := 8) (c := 0) (as := [.int (s 0 6)]) (r := []) ja_C_leaveFloor_5 rfl rfl rfl (by decide) ⟨rfl, by decide⟩ ?_
    refine q_in (M := jm_C_isBill) rfl (Nat.le_of_ble_eq_true rfl) (ls := [some (.ref 0), some (.int (s 0 6))]) rfl ?_
    refine q_iload_n (pc' := 1) ja_C_isBill_0 rfl rfl ?_
    refine q_if_lt (pc' := 4) ja_C_isBill_1 rfl ?_ ?_
    · intro h16
      refine q_iconst (pc' := 26) ja_C_isBill_25 rfl 0 (by decide) ?_
      refine q_iret ja_C_isBill_26 rfl (by decide) ?_
      show q_W _ _ _ _ 8 [some (.ref 0), some (.int 0)] [.int 0] s
      refine q_if_ne (pc' := 11) ja_C_leaveFloor_8 rfl (fun h => absurd ((by decide : (0 : Int32) = 0)) h) (fun _ => ?_)
      refine q_vret ja_C_leaveFloor_11 rfl ?_
      show q_W _ _ _ _ 65 [some (.ref 0), some (.int a1), some (.int a2), some (.int a3)] [] s
      refine q_goto ja_C_carry_65 ?_
      exact q_vret ja_C_carry_83 rfl (k9 h1 h8 h15 h16)
    · intro h17
      refine q_iload_n (pc' := 5) ja_C_isBill_4 rfl rfl ?_
      refine q_aload_n (pc' := 6) ja_C_isBill_5 rfl rfl ?_
      refine q_getf (pc' := 9) (v := .int (s 0 3)) ja_C_isBill_6 rfl (by decide) ⟨rfl, by decide⟩ rfl ?_
      refine q_ic_ge (pc' := 12) ja_C_isBill_9 rfl ?_ ?_
      · intro h18
        refine q_iconst (pc' := 26) ja_C_isBill_25 rfl 0 (by decide) ?_
        refine q_iret ja_C_isBill_26 rfl (by decide) ?_
        show q_W _ _ _ _ 8 [some (.ref 0), some (.int 0)] [.int 0] s
        refine q_if_ne (pc' := 11) ja_C_leaveFloor_8 rfl (fun h => absurd ((by decide : (0 : Int32) = 0)) h) (fun _ => ?_)
        refine q_vret ja_C_leaveFloor_11 rfl ?_
        show q_W _ _ _ _ 65 [some (.ref 0), some (.int a1), some (.int a2), some (.int a3)] [] s
        refine q_goto ja_C_carry_65 ?_
        exact q_vret ja_C_carry_83 rfl (k10 h1 h8 h15 h17 h18)
      · intro h19
        refine q_iload_n (pc' := 13) ja_C_isBill_12 rfl rfl ?_
        refine q_aload_n (pc' := 14) ja_C_isBill_13 rfl rfl ?_
        refine q_getf (pc' := 17) (v := .ref 32) ja_C_isBill_14 rfl (by decide) ⟨rfl, by decide⟩ rfl ?_
        refine q_alen (pc' := 18) ja_C_isBill_17 rfl (by decide) (kd := 17) (l := 8) rfl (by decide) (v := 8) (by decide) ?_
        refine q_ic_ge (pc' := 21) ja_C_isBill_18 rfl ?_ ?_
        · intro h20
          refine q_iconst (pc' := 26) ja_C_isBill_25 rfl 0 (by decide) ?_
          refine q_iret ja_C_isBill_26 rfl (by decide) ?_
          show q_W _ _ _ _ 8 [some (.ref 0), some (.int 0)] [.int 0] s
          refine q_if_ne (pc' := 11) ja_C_leaveFloor_8 rfl (fun h => absurd ((by decide : (0 : Int32) = 0)) h) (fun _ => ?_)
          refine q_vret ja_C_leaveFloor_11 rfl ?_
          show q_W _ _ _ _ 65 [some (.ref 0), some (.int a1), some (.int a2), some (.int a3)] [] s
          refine q_goto ja_C_carry_65 ?_
          exact q_vret ja_C_carry_83 rfl (k11 h1 h8 h15 h17 h19 h20)
        · intro h21
          refine q_iconst (pc' := 22) ja_C_isBill_21 rfl 1 (by decide) ?_
          refine q_goto ja_C_isBill_22 ?_
          refine q_iret ja_C_isBill_26 rfl (by decide) ?_
          show q_W _ _ _ _ 8 [some (.ref 0), some (.int 0)] [.int 1] s
          refine q_if_ne (pc' := 11) ja_C_leaveFloor_8 rfl (fun _ => ?_) (fun h => absurd h ((by decide : ¬ (1 : Int32) = 0)))
          refine q_aload_n (pc' := 13) ja_C_leaveFloor_12 rfl rfl ?_
          refine q_getf (pc' := 16) (v := .ref 32) ja_C_leaveFloor_13 rfl (by decide) ⟨rfl, by decide⟩ rfl ?_
          refine q_aload_n (pc' := 17) ja_C_leaveFloor_16 rfl rfl ?_
          refine q_getf (pc' := 20) (v := .int (s 0 6)) ja_C_leaveFloor_17 rfl (by decide) ⟨rfl, by decide⟩ rfl ?_
          refine q_aald (pc' := 21) (v := .ref (33 + 3 * (s 0 6).toNatClampNeg)) ja_C_leaveFloor_20 rfl (by decide) (kd := 17) (l := 8) rfl (by decide) (q_inr (l := 8) (by decide) h17 h21) (f_A32 (f_in (q_inr (l := 8) (by decide) h17 h21))) ?_
          refine q_iload_n (pc' := 22) ja_C_leaveFloor_21 rfl rfl ?_
          refine q_putf (pc' := 25) ja_C_leaveFloor_22 rfl (f_1_c (f_m32 (f_in (q_inr (l := 8) (by decide) h17 h21)))) (by rw [f_1_k (f_m32 (f_in (q_inr (l := 8) (by decide) h17 h21)))]) rfl (by rw [f_1_k (f_m32 (f_in (q_inr (l := 8) (by decide) h17 h21)))]; rfl) ?_
          intro s9 e9
          refine q_iload_n (pc' := 26) ja_C_leaveFloor_25 rfl rfl ?_
          refine q_if_ne (pc' := 29) ja_C_leaveFloor_26 rfl (fun h => absurd ((by decide : (0 : Int32) = 0)) h) (fun _ => ?_)
          refine q_aload_n (pc' := 30) ja_C_leaveFloor_29 rfl rfl ?_
          refine q_getf (pc' := 33) (v := .ref 32) ja_C_leaveFloor_30 rfl (by decide) ⟨rfl, by decide⟩ rfl ?_
          refine q_aload_n (pc' := 34) ja_C_leaveFloor_33 rfl rfl ?_
          refine q_getf (pc' := 37) (v := .int (s9 0 6)) ja_C_leaveFloor_34 rfl (by decide) ⟨rfl, by decide⟩ rfl ?_
          refine q_aald (pc' := 38) (v := .ref (33 + 3 * (s9 0 6).toNatClampNeg)) ja_C_leaveFloor_37 rfl (by decide) (kd := 17) (l := 8) rfl (by decide) (k12 h1 h8 h15 h17 h19 h21 s9 e9) (f_A32 (f_in (k12 h1 h8 h15 h17 h19 h21 s9 e9))) ?_
          refine q_iconst (pc' := 39) ja_C_leaveFloor_38 rfl 0 (by decide) ?_
          refine q_putf (pc' := 42) ja_C_leaveFloor_39 rfl (f_1_c (f_m32 (f_in (k12 h1 h8 h15 h17 h19 h21 s9 e9)))) (by rw [f_1_k (f_m32 (f_in (k12 h1 h8 h15 h17 h19 h21 s9 e9)))]) rfl (by rw [f_1_k (f_m32 (f_in (k12 h1 h8 h15 h17 h19 h21 s9 e9)))]; rfl) ?_
          intro s10 e10
          refine q_aload_n (pc' := 43) ja_C_leaveFloor_42 rfl rfl ?_
          refine q_iconst (pc' := 44) ja_C_leaveFloor_43 rfl (-1) (by decide) ?_
          refine q_putf (pc' := 47) ja_C_leaveFloor_44 rfl (by decide) rfl rfl rfl ?_
          intro s11 e11
          refine q_aload_n (pc' := 48) ja_C_leaveFloor_47 rfl rfl ?_
          refine q_getf (pc' := 51) (v := .ref 60) ja_C_leaveFloor_48 rfl (by decide) ⟨rfl, by decide⟩ rfl ?_
          refine q_iconst (pc' := 52) ja_C_leaveFloor_51 rfl 0 (by decide) ?_
          refine q_putf (pc' := 55) ja_C_leaveFloor_52 rfl (by decide) rfl rfl rfl ?_
          intro s12 e12
          refine q_aload_n (pc' := 56) ja_C_leaveFloor_55 rfl rfl ?_
          refine q_getf (pc' := 59) (v := .ref 65) ja_C_leaveFloor_56 rfl (by decide) ⟨rfl, by decide⟩ rfl ?_
          refine q_getf (pc' := 62) (v := .ref 66) ja_C_leaveFloor_59 rfl (by decide) ⟨rfl, by decide⟩ rfl ?_
          refine q_iconst (pc' := 63) ja_C_leaveFloor_62 rfl 0 (by decide) ?_
          refine q_putf (pc' := 66) ja_C_leaveFloor_63 rfl (by decide) rfl rfl rfl ?_
          intro s13 e13
          refine q_vret ja_C_leaveFloor_66 rfl ?_
          show q_W _ _ _ _ 65 [some (.ref 0), some (.int a1), some (.int a2), some (.int a3)] [] s13
          refine q_goto ja_C_carry_65 ?_
          exact q_vret ja_C_carry_83 rfl (k13 h1 h8 h15 h17 h19 h21 s9 e9 s10 e10 s11 e11 s12 e12 s13 e13)
  by_cases h22 : a1 = 6
  · refine q_swE (pc' := 68) ja_C_carry_1 (by rw [h22]; decide) (by rw [h22]; exact ⟨_, rfl, rfl⟩) ?_
    refine q_aload_n (pc' := 69) ja_C_carry_68 rfl rfl ?_
    refine q_iload_n (pc' := 70) ja_C_carry_69 rfl rfl ?_
    refine q_putf (pc' := 73) ja_C_carry_70 rfl (by decide) rfl rfl rfl ?_
    intro s14 e14
    refine q_goto ja_C_carry_73 ?_
    exact q_vret ja_C_carry_83 rfl (k14 h1 h8 h15 h22 s14 e14)
  refine q_swD (pc' := 76) ja_C_carry_1 [0, 4, 5, 6] (List.forall_mem_cons.mpr ⟨fun e => h1 (by rw [e]; decide), (List.forall_mem_cons.mpr ⟨fun e => h8 (by rw [e]; decide), (List.forall_mem_cons.mpr ⟨fun e => h15 (by rw [e]; decide), (List.forall_mem_cons.mpr ⟨fun e => h22 (by rw [e]; decide), (List.forall_mem_nil _)⟩)⟩)⟩)⟩) (by decide) rfl ?_
  refine q_aload_n (pc' := 77) ja_C_carry_76 rfl rfl ?_
  refine q_iload_n (pc' := 78) ja_C_carry_77 rfl rfl ?_
  refine q_iload_n (pc' := 79) ja_C_carry_78 rfl rfl ?_
  refine q_iload_n (pc' := 80) ja_C_carry_79 rfl rfl ?_
  refine q_virt (pc' := 83) (c := 0) (as := [.int a1, .int a2, .int a3]) (r := []) ja_C_carry_80 rfl rfl rfl (by decide) ⟨rfl, by decide⟩ ?_
  exact (k15 h1 h8 h15 h22)
set_option maxRecDepth 20000 in
theorem t_C_carry_83 {G : jv_X} {d : Nat} {B : Option Value → jg_H → Prop} {s : jg_H} (x1 : Int32) (x2 : Int32) (x3 : Int32)
    (k1 : B none s) :
    q_W G (d + 2) jm_C_carry B 83 [some (.ref 0), some (.int x1), some (.int x2), some (.int x3)] [] s := by
  exact q_vret ja_C_carry_83 rfl k1
set_option maxRecDepth 20000 in
theorem t_C_cell {G : jv_X} {d : Nat} {B : Option Value → jg_H → Prop} {s : jg_H} (a1 : Int32) (a2 : Int32) (a3 : Int32)
    (k1 : a1 < 0 → B (some (.int (-2))) s)
    (k2 : ¬ a1 < 0 → ¬ a1 < 4 → B (some (.int (-2))) s)
    (k3 : ¬ a1 < 0 → a1 < 4 → ¬ (s (138 + 2 * a1.toNatClampNeg) 0) = (-1) → a2 < 0 → B (some (.int (-12))) s)
    (k4 : ¬ a1 < 0 → a1 < 4 → ¬ (s (138 + 2 * a1.toNatClampNeg) 0) = (-1) → ¬ a2 < 0 → ¬ a2 < (s (138 + 2 * a1.toNatClampNeg) 0) → B (some (.int (-12))) s)
    (k5 : ¬ a1 < 0 → a1 < 4 → ¬ (s (138 + 2 * a1.toNatClampNeg) 0) = (-1) → ¬ a2 < 0 → a2 < (s (138 + 2 * a1.toNatClampNeg) 0) → ¬ a2 < 40 → B (some (.int (-12))) s)
    (k6 : ¬ a1 < 0 → a1 < 4 → ¬ (s (138 + 2 * a1.toNatClampNeg) 0) = (-1) → ¬ a2 < 0 → a2 < (s (138 + 2 * a1.toNatClampNeg) 0) → a2 < 40 → ∀ s1 : jg_H, s1 = jg_up s ((138 + 2 * a1.toNatClampNeg) + 1) a2.toNatClampNeg (a3 &&& 255) → B (some (.int 1)) s1)
    (k7 : ¬ a1 < 0 → a1 < 4 → (s (138 + 2 * a1.toNatClampNeg) 0) = (-1) → B (some (.int (-11))) s) :
    q_P G (d + 2) 127 [.ref 0, .int a1, .int a2, .int a3] s B := by
  refine q_in (M := jm_C_cell) rfl (Nat.le_of_ble_eq_true rfl) (ls := [some (.ref 0), some (.int a1), some (.int a2), some (.int a3), none]) rfl ?_
  refine q_iload_n (pc' := 1) ja_C_cell_0 rfl rfl ?_
  refine q_stat (pc' := 4) (as := [.int a1]) (r := []) ja_C_cell_1 rfl (by decide) rfl rfl ?_
  refine q_in (M := jm_C_isTray) rfl (Nat.le_of_ble_eq_true rfl) (ls := [some (.int a1)]) rfl ?_
  refine q_iload_n (pc' := 1) ja_C_isTray_0 rfl rfl ?_
  refine q_if_lt (pc' := 4) ja_C_isTray_1 rfl ?_ ?_
  · intro h1
    refine q_iconst (pc' := 14) ja_C_isTray_13 rfl 0 (by decide) ?_
    refine q_iret ja_C_isTray_14 rfl (by decide) ?_
    show q_W _ _ _ _ 4 [some (.ref 0), some (.int a1), some (.int a2), some (.int a3), none] [.int 0] s
    refine q_if_ne (pc' := 7) ja_C_cell_4 rfl (fun h => absurd ((by decide : (0 : Int32) = 0)) h) (fun _ => ?_)
    refine q_bipush (pc' := 9) ja_C_cell_7 rfl (-2) (by decide) ?_
    exact q_iret ja_C_cell_9 rfl rfl (k1 h1)
  · intro h2
    refine q_iload_n (pc' := 5) ja_C_isTray_4 rfl rfl ?_
    refine q_iconst (pc' := 6) ja_C_isTray_5 rfl 4 (by decide) ?_
    refine q_ic_ge (pc' := 9) ja_C_isTray_6 rfl ?_ ?_
    · intro h3
      refine q_iconst (pc' := 14) ja_C_isTray_13 rfl 0 (by decide) ?_
      refine q_iret ja_C_isTray_14 rfl (by decide) ?_
      show q_W _ _ _ _ 4 [some (.ref 0), some (.int a1), some (.int a2), some (.int a3), none] [.int 0] s
      refine q_if_ne (pc' := 7) ja_C_cell_4 rfl (fun h => absurd ((by decide : (0 : Int32) = 0)) h) (fun _ => ?_)
      refine q_bipush (pc' := 9) ja_C_cell_7 rfl (-2) (by decide) ?_
      exact q_iret ja_C_cell_9 rfl rfl (k2 h2 h3)
    · intro h4
      refine q_iconst (pc' := 10) ja_C_isTray_9 rfl 1 (by decide) ?_
      refine q_goto ja_C_isTray_10 ?_
      refine q_iret ja_C_isTray_14 rfl (by decide) ?_
      show q_W _ _ _ _ 4 [some (.ref 0), some (.int a1), some (.int a2), some (.int a3), none] [.int 1] s
      refine q_if_ne (pc' := 7) ja_C_cell_4 rfl (fun _ => ?_) (fun h => absurd h ((by decide : ¬ (1 : Int32) = 0)))
      refine q_aload_n (pc' := 11) ja_C_cell_10 rfl rfl ?_
      refine q_getf (pc' := 14) (v := .ref 137) ja_C_cell_11 rfl (by decide) ⟨rfl, by decide⟩ rfl ?_
      refine q_iload_n (pc' := 15) ja_C_cell_14 rfl rfl ?_
      refine q_aald (pc' := 16) (v := .ref (138 + 2 * a1.toNatClampNeg)) ja_C_cell_15 rfl (by decide) (kd := 20) (l := 4) rfl (by decide) (q_inr (l := 4) (by decide) h2 h4) (f_A137 (f_in (q_inr (l := 4) (by decide) h2 h4))) ?_
      refine q_astore (pc' := 18) (ls' := [some (.ref 0), some (.int a1), some (.int a2), some (.int a3), some (.ref (138 + 2 * a1.toNatClampNeg))]) ja_C_cell_16 rfl ⟨Nat.le_of_ble_eq_true rfl, rfl⟩ rfl ?_
      refine q_aload (pc' := 20) ja_C_cell_18 rfl rfl ?_
      refine q_getf (pc' := 23) (v := .int (s (138 + 2 * a1.toNatClampNeg) 0)) ja_C_cell_20 rfl (f_10_c (f_m137 (f_in (q_inr (l := 4) (by decide) h2 h4)))) ⟨by rw [f_10_k (f_m137 (f_in (q_inr (l := 4) (by decide) h2 h4)))], by decide⟩ (f_i (f_10_k (f_m137 (f_in (q_inr (l := 4) (by decide) h2 h4)))) rfl) ?_
      refine q_iconst (pc' := 24) ja_C_cell_23 rfl (-1) (by decide) ?_
      refine q_ic_ne (pc' := 27) ja_C_cell_24 rfl ?_ ?_
      · intro h5
        refine q_aload (pc' := 32) ja_C_cell_30 rfl rfl ?_
        refine q_iload_n (pc' := 33) ja_C_cell_32 rfl rfl ?_
        refine q_virt (pc' := 36) (c := (138 + 2 * a1.toNatClampNeg)) (as := [.int a2]) (r := []) ja_C_cell_33 rfl rfl rfl (f_10_c (f_m137 (f_in (q_inr (l := 4) (by decide) h2 h4)))) ⟨by rw [f_10_k (f_m137 (f_in (q_inr (l := 4) (by decide) h2 h4)))], by decide⟩ ?_
        refine q_in (M := jm_Tray_has) rfl (Nat.le_of_ble_eq_true rfl) (ls := [some (.ref (138 + 2 * a1.toNatClampNeg)), some (.int a2)]) rfl ?_
        refine q_iload_n (pc' := 1) ja_Tray_has_0 rfl rfl ?_
        refine q_if_lt (pc' := 4) ja_Tray_has_1 rfl ?_ ?_
        · intro h6
          refine q_iconst (pc' := 26) ja_Tray_has_25 rfl 0 (by decide) ?_
          refine q_iret ja_Tray_has_26 rfl (by decide) ?_
          show q_W _ _ _ _ 36 [some (.ref 0), some (.int a1), some (.int a2), some (.int a3), some (.ref (138 + 2 * a1.toNatClampNeg))] [.int 0] s
          refine q_if_ne (pc' := 39) ja_C_cell_36 rfl (fun h => absurd ((by decide : (0 : Int32) = 0)) h) (fun _ => ?_)
          refine q_bipush (pc' := 41) ja_C_cell_39 rfl (-12) (by decide) ?_
          exact q_iret ja_C_cell_41 rfl rfl (k3 h2 h4 h5 h6)
        · intro h7
          refine q_iload_n (pc' := 5) ja_Tray_has_4 rfl rfl ?_
          refine q_aload_n (pc' := 6) ja_Tray_has_5 rfl rfl ?_
          refine q_getf (pc' := 9) (v := .int (s (138 + 2 * a1.toNatClampNeg) 0)) ja_Tray_has_6 rfl (f_10_c (f_m137 (f_in (q_inr (l := 4) (by decide) h2 h4)))) ⟨by rw [f_10_k (f_m137 (f_in (q_inr (l := 4) (by decide) h2 h4)))], by decide⟩ (f_i (f_10_k (f_m137 (f_in (q_inr (l := 4) (by decide) h2 h4)))) rfl) ?_
          refine q_ic_ge (pc' := 12) ja_Tray_has_9 rfl ?_ ?_
          · intro h8
            refine q_iconst (pc' := 26) ja_Tray_has_25 rfl 0 (by decide) ?_
            refine q_iret ja_Tray_has_26 rfl (by decide) ?_
            show q_W _ _ _ _ 36 [some (.ref 0), some (.int a1), some (.int a2), some (.int a3), some (.ref (138 + 2 * a1.toNatClampNeg))] [.int 0] s
            refine q_if_ne (pc' := 39) ja_C_cell_36 rfl (fun h => absurd ((by decide : (0 : Int32) = 0)) h) (fun _ => ?_)
            refine q_bipush (pc' := 41) ja_C_cell_39 rfl (-12) (by decide) ?_
            exact q_iret ja_C_cell_41 rfl rfl (k4 h2 h4 h5 h7 h8)
          · intro h9
            refine q_iload_n (pc' := 13) ja_Tray_has_12 rfl rfl ?_
            refine q_aload_n (pc' := 14) ja_Tray_has_13 rfl rfl ?_
            refine q_getf (pc' := 17) (v := .ref ((138 + 2 * a1.toNatClampNeg) + 1)) ja_Tray_has_14 rfl (f_10_c (f_m137 (f_in (q_inr (l := 4) (by decide) h2 h4)))) ⟨by rw [f_10_k (f_m137 (f_in (q_inr (l := 4) (by decide) h2 h4)))], by decide⟩ (f_10_g1 (f_m137 (f_in (q_inr (l := 4) (by decide) h2 h4)))) ?_
            refine q_alen (pc' := 18) ja_Tray_has_17 rfl (f_a_c (f_10_s1 (f_m137 (f_in (q_inr (l := 4) (by decide) h2 h4))))) (kd := 13) (l := 40) (f_a_k (f_10_s1 (f_m137 (f_in (q_inr (l := 4) (by decide) h2 h4))))) (by decide) (v := 40) (by decide) ?_
            refine q_ic_ge (pc' := 21) ja_Tray_has_18 rfl ?_ ?_
            · intro h10
              refine q_iconst (pc' := 26) ja_Tray_has_25 rfl 0 (by decide) ?_
              refine q_iret ja_Tray_has_26 rfl (by decide) ?_
              show q_W _ _ _ _ 36 [some (.ref 0), some (.int a1), some (.int a2), some (.int a3), some (.ref (138 + 2 * a1.toNatClampNeg))] [.int 0] s
              refine q_if_ne (pc' := 39) ja_C_cell_36 rfl (fun h => absurd ((by decide : (0 : Int32) = 0)) h) (fun _ => ?_)
              refine q_bipush (pc' := 41) ja_C_cell_39 rfl (-12) (by decide) ?_
              exact q_iret ja_C_cell_41 rfl rfl (k5 h2 h4 h5 h7 h9 h10)
            · intro h11
              refine q_iconst (pc' := 22) ja_Tray_has_21 rfl 1 (by decide) ?_
              refine q_goto ja_Tray_has_22 ?_
              refine q_iret ja_Tray_has_26 rfl (by decide) ?_
              show q_W _ _ _ _ 36 [some (.ref 0), some (.int a1), some (.int a2), some (.int a3), some (.ref (138 + 2 * a1.toNatClampNeg))] [.int 1] s
              refine q_if_ne (pc' := 39) ja_C_cell_36 rfl (fun _ => ?_) (fun h => absurd h ((by decide : ¬ (1 : Int32) = 0)))
              refine q_aload (pc' := 44) ja_C_cell_42 rfl rfl ?_
              refine q_getf (pc' := 47) (v := .ref ((138 + 2 * a1.toNatClampNeg) + 1)) ja_C_cell_44 rfl (f_10_c (f_m137 (f_in (q_inr (l := 4) (by decide) h2 h4)))) ⟨by rw [f_10_k (f_m137 (f_in (q_inr (l := 4) (by decide) h2 h4)))], by decide⟩ (f_10_g1 (f_m137 (f_in (q_inr (l := 4) (by decide) h2 h4)))) ?_
              refine q_iload_n (pc' := 48) ja_C_cell_47 rfl rfl ?_
              refine q_iload_n (pc' := 49) ja_C_cell_48 rfl rfl ?_
              refine q_sipush (pc' := 52) ja_C_cell_49 rfl 255 (by decide) ?_
              refine q_iand (pc' := 53) ja_C_cell_52 rfl ?_
              refine q_iast (pc' := 54) ja_C_cell_53 rfl (f_a_c (f_10_s1 (f_m137 (f_in (q_inr (l := 4) (by decide) h2 h4))))) (l := 40) (f_a_k (f_10_s1 (f_m137 (f_in (q_inr (l := 4) (by decide) h2 h4))))) (q_inr (l := 40) (by decide) h7 h11) ?_
              intro s1 e1
              refine q_iconst (pc' := 55) ja_C_cell_54 rfl 1 (by decide) ?_
              exact q_iret ja_C_cell_55 rfl rfl (k6 h2 h4 h5 h7 h9 h11 s1 e1)
      · intro h12
        refine q_bipush (pc' := 29) ja_C_cell_27 rfl (-11) (by decide) ?_
        exact q_iret ja_C_cell_29 rfl rfl (k7 h2 h4 h12)
set_option maxRecDepth 20000 in
theorem t_C_choice {G : jv_X} {d : Nat} {B : Option Value → jg_H → Prop} {s : jg_H} {c1 : Nat} (hc1 : f_5 c1) {c2 : Nat} (hc2 : f_8 c2) {c3 Lc3 : Nat} (hc3 : f_6 c3 Lc3) (a4 : Int32) (a5 : Int32)
    (k1 : (s c1 1) = 0 → B (some (.int 0)) s)
    (k2 : ¬ (s c1 1) = 0 → ¬ (s c1 2) = (-1) → B (some (.int 0)) s)
    (k3 : ¬ (s c1 1) = 0 → (s c1 2) = (-1) → a4 < 0 → B (some (.int 0)) s)
    (k4 : ¬ (s c1 1) = 0 → (s c1 2) = (-1) → ¬ a4 < 0 → ¬ a4 < (s c3 0) → B (some (.int 0)) s)
    (k5 : ¬ (s c1 1) = 0 → (s c1 2) = (-1) → ¬ a4 < 0 → a4 < (s c3 0) → ¬ a4 < (s c3 1) → B (some (.int 0)) s)
    (k6 : ¬ (s c1 1) = 0 → (s c1 2) = (-1) → ¬ a4 < 0 → a4 < (s c3 0) → a4 < (s c3 1) → (s c1 3) = 0 → jv_in a4 Lc3 = true)
    (k7 : ¬ (s c1 1) = 0 → (s c1 2) = (-1) → ¬ a4 < 0 → a4 < (s c3 0) → a4 < (s c3 1) → (s c1 3) = 0 → (s (c3 + 1) a4.toNatClampNeg) = 0 → q_P G (d + 2) 64 [.ref c2, .ref c1] s (fun v t => q_W G (d + 2) jm_C_choice B 97 [some (.ref 0), some (.ref c1), some (.ref c2), some (.ref c3), some (.int a4), some (.int a5), some (.int (s (c3 + 1) a4.toNatClampNeg))] (v.toList ++ []) t))
    (k8 : ¬ (s c1 1) = 0 → (s c1 2) = (-1) → ¬ a4 < 0 → a4 < (s c3 0) → a4 < (s c3 1) → (s c1 3) = 0 → ¬ (s (c3 + 1) a4.toNatClampNeg) = 0 → (s (c3 + 1) a4.toNatClampNeg) = 4 → q_P G (d + 2) 64 [.ref c2, .ref c1] s (fun v t => q_W G (d + 2) jm_C_choice B 106 [some (.ref 0), some (.ref c1), some (.ref c2), some (.ref c3), some (.int a4), some (.int a5), some (.int (s (c3 + 1) a4.toNatClampNeg))] (v.toList ++ []) t))
    (k9 : ¬ (s c1 1) = 0 → (s c1 2) = (-1) → ¬ a4 < 0 → a4 < (s c3 0) → a4 < (s c3 1) → (s c1 3) = 0 → ¬ (s (c3 + 1) a4.toNatClampNeg) = 0 → ¬ (s (c3 + 1) a4.toNatClampNeg) = 4 → (s (c3 + 1) a4.toNatClampNeg) = 5 → q_P G (d + 2) 64 [.ref c2, .ref c1] s (fun v t => q_W G (d + 2) jm_C_choice B 116 [some (.ref 0), some (.ref c1), some (.ref c2), some (.ref c3), some (.int a4), some (.int a5), some (.int (s (c3 + 1) a4.toNatClampNeg))] (v.toList ++ []) t))
    (k10 : ¬ (s c1 1) = 0 → (s c1 2) = (-1) → ¬ a4 < 0 → a4 < (s c3 0) → a4 < (s c3 1) → (s c1 3) = 0 → ¬ (s (c3 + 1) a4.toNatClampNeg) = 0 → ¬ (s (c3 + 1) a4.toNatClampNeg) = 4 → ¬ (s (c3 + 1) a4.toNatClampNeg) = 5 → (s (c3 + 1) a4.toNatClampNeg) = 6 → jv_in a4 Lc3 = true)
    (k11 : ¬ (s c1 1) = 0 → (s c1 2) = (-1) → ¬ a4 < 0 → a4 < (s c3 0) → a4 < (s c3 1) → (s c1 3) = 0 → ¬ (s (c3 + 1) a4.toNatClampNeg) = 0 → ¬ (s (c3 + 1) a4.toNatClampNeg) = 4 → ¬ (s (c3 + 1) a4.toNatClampNeg) = 5 → (s (c3 + 1) a4.toNatClampNeg) = 6 → (s (c3 + 2) a4.toNatClampNeg) < 0 → ¬ (s c1 0) = 0 → B (some (.int 2)) s)
    (k12 : ¬ (s c1 1) = 0 → (s c1 2) = (-1) → ¬ a4 < 0 → a4 < (s c3 0) → a4 < (s c3 1) → (s c1 3) = 0 → ¬ (s (c3 + 1) a4.toNatClampNeg) = 0 → ¬ (s (c3 + 1) a4.toNatClampNeg) = 4 → ¬ (s (c3 + 1) a4.toNatClampNeg) = 5 → (s (c3 + 1) a4.toNatClampNeg) = 6 → (s (c3 + 2) a4.toNatClampNeg) < 0 → (s c1 0) = 0 → B (some (.int 1)) s)
    (k13 : ¬ (s c1 1) = 0 → (s c1 2) = (-1) → ¬ a4 < 0 → a4 < (s c3 0) → a4 < (s c3 1) → (s c1 3) = 0 → ¬ (s (c3 + 1) a4.toNatClampNeg) = 0 → ¬ (s (c3 + 1) a4.toNatClampNeg) = 4 → ¬ (s (c3 + 1) a4.toNatClampNeg) = 5 → (s (c3 + 1) a4.toNatClampNeg) = 6 → ¬ (s (c3 + 2) a4.toNatClampNeg) < 0 → ¬ (s (c3 + 2) a4.toNatClampNeg) < (s 0 1) → ¬ (s c1 0) = 0 → B (some (.int 2)) s)
    (k14 : ¬ (s c1 1) = 0 → (s c1 2) = (-1) → ¬ a4 < 0 → a4 < (s c3 0) → a4 < (s c3 1) → (s c1 3) = 0 → ¬ (s (c3 + 1) a4.toNatClampNeg) = 0 → ¬ (s (c3 + 1) a4.toNatClampNeg) = 4 → ¬ (s (c3 + 1) a4.toNatClampNeg) = 5 → (s (c3 + 1) a4.toNatClampNeg) = 6 → ¬ (s (c3 + 2) a4.toNatClampNeg) < 0 → ¬ (s (c3 + 2) a4.toNatClampNeg) < (s 0 1) → (s c1 0) = 0 → B (some (.int 1)) s)
    (k15 : ¬ (s c1 1) = 0 → (s c1 2) = (-1) → ¬ a4 < 0 → a4 < (s c3 0) → a4 < (s c3 1) → (s c1 3) = 0 → ¬ (s (c3 + 1) a4.toNatClampNeg) = 0 → ¬ (s (c3 + 1) a4.toNatClampNeg) = 4 → ¬ (s (c3 + 1) a4.toNatClampNeg) = 5 → (s (c3 + 1) a4.toNatClampNeg) = 6 → ¬ (s (c3 + 2) a4.toNatClampNeg) < 0 → (s (c3 + 2) a4.toNatClampNeg) < (s 0 1) → ¬ (s (c3 + 2) a4.toNatClampNeg) < 15 → ¬ (s c1 0) = 0 → B (some (.int 2)) s)
    (k16 : ¬ (s c1 1) = 0 → (s c1 2) = (-1) → ¬ a4 < 0 → a4 < (s c3 0) → a4 < (s c3 1) → (s c1 3) = 0 → ¬ (s (c3 + 1) a4.toNatClampNeg) = 0 → ¬ (s (c3 + 1) a4.toNatClampNeg) = 4 → ¬ (s (c3 + 1) a4.toNatClampNeg) = 5 → (s (c3 + 1) a4.toNatClampNeg) = 6 → ¬ (s (c3 + 2) a4.toNatClampNeg) < 0 → (s (c3 + 2) a4.toNatClampNeg) < (s 0 1) → ¬ (s (c3 + 2) a4.toNatClampNeg) < 15 → (s c1 0) = 0 → B (some (.int 1)) s)
    (k17 : ¬ (s c1 1) = 0 → (s c1 2) = (-1) → ¬ a4 < 0 → a4 < (s c3 0) → a4 < (s c3 1) → (s c1 3) = 0 → ¬ (s (c3 + 1) a4.toNatClampNeg) = 0 → ¬ (s (c3 + 1) a4.toNatClampNeg) = 4 → ¬ (s (c3 + 1) a4.toNatClampNeg) = 5 → (s (c3 + 1) a4.toNatClampNeg) = 6 → ¬ (s (c3 + 2) a4.toNatClampNeg) < 0 → (s (c3 + 2) a4.toNatClampNeg) < (s 0 1) → (s (c3 + 2) a4.toNatClampNeg) < 15 → ¬ (s c1 0) = (s (2 + 2 * (s (c3 + 2) a4.toNatClampNeg).toNatClampNeg) 0) → B (some (.int 2)) s)
    (k18 : ¬ (s c1 1) = 0 → (s c1 2) = (-1) → ¬ a4 < 0 → a4 < (s c3 0) → a4 < (s c3 1) → (s c1 3) = 0 → ¬ (s (c3 + 1) a4.toNatClampNeg) = 0 → ¬ (s (c3 + 1) a4.toNatClampNeg) = 4 → ¬ (s (c3 + 1) a4.toNatClampNeg) = 5 → (s (c3 + 1) a4.toNatClampNeg) = 6 → ¬ (s (c3 + 2) a4.toNatClampNeg) < 0 → (s (c3 + 2) a4.toNatClampNeg) < (s 0 1) → (s (c3 + 2) a4.toNatClampNeg) < 15 → (s c1 0) = (s (2 + 2 * (s (c3 + 2) a4.toNatClampNeg).toNatClampNeg) 0) → B (some (.int 1)) s)
    (k19 : ¬ (s c1 1) = 0 → (s c1 2) = (-1) → ¬ a4 < 0 → a4 < (s c3 0) → a4 < (s c3 1) → (s c1 3) = 0 → ¬ (s (c3 + 1) a4.toNatClampNeg) = 0 → ¬ (s (c3 + 1) a4.toNatClampNeg) = 4 → ¬ (s (c3 + 1) a4.toNatClampNeg) = 5 → ¬ (s (c3 + 1) a4.toNatClampNeg) = 6 → jv_in a4 Lc3 = true)
    (k20 : ¬ (s c1 1) = 0 → (s c1 2) = (-1) → ¬ a4 < 0 → a4 < (s c3 0) → a4 < (s c3 1) → (s c1 3) = 0 → ¬ (s (c3 + 1) a4.toNatClampNeg) = 0 → ¬ (s (c3 + 1) a4.toNatClampNeg) = 4 → ¬ (s (c3 + 1) a4.toNatClampNeg) = 5 → ¬ (s (c3 + 1) a4.toNatClampNeg) = 6 → a5 < 0 → B (some (.int 0)) s)
    (k21 : ¬ (s c1 1) = 0 → (s c1 2) = (-1) → ¬ a4 < 0 → a4 < (s c3 0) → a4 < (s c3 1) → (s c1 3) = 0 → ¬ (s (c3 + 1) a4.toNatClampNeg) = 0 → ¬ (s (c3 + 1) a4.toNatClampNeg) = 4 → ¬ (s (c3 + 1) a4.toNatClampNeg) = 5 → ¬ (s (c3 + 1) a4.toNatClampNeg) = 6 → ¬ a5 < 0 → ¬ (s (c3 + 1) a4.toNatClampNeg) = 2 → ¬ a5 < (s c2 0) → B (some (.int 0)) s)
    (k22 : ¬ (s c1 1) = 0 → (s c1 2) = (-1) → ¬ a4 < 0 → a4 < (s c3 0) → a4 < (s c3 1) → (s c1 3) = 0 → ¬ (s (c3 + 1) a4.toNatClampNeg) = 0 → ¬ (s (c3 + 1) a4.toNatClampNeg) = 4 → ¬ (s (c3 + 1) a4.toNatClampNeg) = 5 → ¬ (s (c3 + 1) a4.toNatClampNeg) = 6 → ¬ a5 < 0 → ¬ (s (c3 + 1) a4.toNatClampNeg) = 2 → a5 < (s c2 0) → ¬ (s (c3 + 1) a4.toNatClampNeg) = 1 → (s (c3 + 4) a4.toNatClampNeg) < 0 → ¬ a5 < 10 → B (some (.int 0)) s)
    (k23 : ¬ (s c1 1) = 0 → (s c1 2) = (-1) → ¬ a4 < 0 → a4 < (s c3 0) → a4 < (s c3 1) → (s c1 3) = 0 → ¬ (s (c3 + 1) a4.toNatClampNeg) = 0 → ¬ (s (c3 + 1) a4.toNatClampNeg) = 4 → ¬ (s (c3 + 1) a4.toNatClampNeg) = 5 → ¬ (s (c3 + 1) a4.toNatClampNeg) = 6 → ¬ a5 < 0 → ¬ (s (c3 + 1) a4.toNatClampNeg) = 2 → a5 < (s c2 0) → ¬ (s (c3 + 1) a4.toNatClampNeg) = 1 → (s (c3 + 4) a4.toNatClampNeg) < 0 → a5 < 10 → (s (c2 + 1) a5.toNatClampNeg) < 0 → B (some (.int 0)) s)
    (k24 : ¬ (s c1 1) = 0 → (s c1 2) = (-1) → ¬ a4 < 0 → a4 < (s c3 0) → a4 < (s c3 1) → (s c1 3) = 0 → ¬ (s (c3 + 1) a4.toNatClampNeg) = 0 → ¬ (s (c3 + 1) a4.toNatClampNeg) = 4 → ¬ (s (c3 + 1) a4.toNatClampNeg) = 5 → ¬ (s (c3 + 1) a4.toNatClampNeg) = 6 → ¬ a5 < 0 → ¬ (s (c3 + 1) a4.toNatClampNeg) = 2 → a5 < (s c2 0) → ¬ (s (c3 + 1) a4.toNatClampNeg) = 1 → (s (c3 + 4) a4.toNatClampNeg) < 0 → a5 < 10 → ¬ (s (c2 + 1) a5.toNatClampNeg) < 0 → ¬ (s (c2 + 1) a5.toNatClampNeg) < 61 → B (some (.int 0)) s)
    (k25 : ¬ (s c1 1) = 0 → (s c1 2) = (-1) → ¬ a4 < 0 → a4 < (s c3 0) → a4 < (s c3 1) → (s c1 3) = 0 → ¬ (s (c3 + 1) a4.toNatClampNeg) = 0 → ¬ (s (c3 + 1) a4.toNatClampNeg) = 4 → ¬ (s (c3 + 1) a4.toNatClampNeg) = 5 → ¬ (s (c3 + 1) a4.toNatClampNeg) = 6 → ¬ a5 < 0 → ¬ (s (c3 + 1) a4.toNatClampNeg) = 2 → a5 < (s c2 0) → ¬ (s (c3 + 1) a4.toNatClampNeg) = 1 → (s (c3 + 4) a4.toNatClampNeg) < 0 → a5 < 10 → ¬ (s (c2 + 1) a5.toNatClampNeg) < 0 → (s (c2 + 1) a5.toNatClampNeg) < 61 → (0 - (s (c1 + 1) (s (c2 + 1) a5.toNatClampNeg).toNatClampNeg)) ≤ 0 → ¬ (0 - (s (c1 + 1) (s (c2 + 1) a5.toNatClampNeg).toNatClampNeg)) < 0 → B (some (.int 0)) s)
    (k26 : ¬ (s c1 1) = 0 → (s c1 2) = (-1) → ¬ a4 < 0 → a4 < (s c3 0) → a4 < (s c3 1) → (s c1 3) = 0 → ¬ (s (c3 + 1) a4.toNatClampNeg) = 0 → ¬ (s (c3 + 1) a4.toNatClampNeg) = 4 → ¬ (s (c3 + 1) a4.toNatClampNeg) = 5 → ¬ (s (c3 + 1) a4.toNatClampNeg) = 6 → ¬ a5 < 0 → ¬ (s (c3 + 1) a4.toNatClampNeg) = 2 → a5 < (s c2 0) → ¬ (s (c3 + 1) a4.toNatClampNeg) = 1 → (s (c3 + 4) a4.toNatClampNeg) < 0 → a5 < 10 → ¬ (s (c2 + 1) a5.toNatClampNeg) < 0 → (s (c2 + 1) a5.toNatClampNeg) < 61 → (0 - (s (c1 + 1) (s (c2 + 1) a5.toNatClampNeg).toNatClampNeg)) ≤ 0 → (0 - (s (c1 + 1) (s (c2 + 1) a5.toNatClampNeg).toNatClampNeg)) < 0 → B (some (.int 2)) s)
    (k27 : ¬ (s c1 1) = 0 → (s c1 2) = (-1) → ¬ a4 < 0 → a4 < (s c3 0) → a4 < (s c3 1) → (s c1 3) = 0 → ¬ (s (c3 + 1) a4.toNatClampNeg) = 0 → ¬ (s (c3 + 1) a4.toNatClampNeg) = 4 → ¬ (s (c3 + 1) a4.toNatClampNeg) = 5 → ¬ (s (c3 + 1) a4.toNatClampNeg) = 6 → ¬ a5 < 0 → ¬ (s (c3 + 1) a4.toNatClampNeg) = 2 → a5 < (s c2 0) → ¬ (s (c3 + 1) a4.toNatClampNeg) = 1 → (s (c3 + 4) a4.toNatClampNeg) < 0 → a5 < 10 → ¬ (s (c2 + 1) a5.toNatClampNeg) < 0 → (s (c2 + 1) a5.toNatClampNeg) < 61 → ¬ (0 - (s (c1 + 1) (s (c2 + 1) a5.toNatClampNeg).toNatClampNeg)) ≤ 0 → B (some (.int 1)) s)
    (k28 : ¬ (s c1 1) = 0 → (s c1 2) = (-1) → ¬ a4 < 0 → a4 < (s c3 0) → a4 < (s c3 1) → (s c1 3) = 0 → ¬ (s (c3 + 1) a4.toNatClampNeg) = 0 → ¬ (s (c3 + 1) a4.toNatClampNeg) = 4 → ¬ (s (c3 + 1) a4.toNatClampNeg) = 5 → ¬ (s (c3 + 1) a4.toNatClampNeg) = 6 → ¬ a5 < 0 → ¬ (s (c3 + 1) a4.toNatClampNeg) = 2 → a5 < (s c2 0) → ¬ (s (c3 + 1) a4.toNatClampNeg) = 1 → ¬ (s (c3 + 4) a4.toNatClampNeg) < 0 → ¬ (s (c3 + 4) a4.toNatClampNeg) < 61 → ¬ a5 < 10 → B (some (.int 0)) s)
    (k29 : ¬ (s c1 1) = 0 → (s c1 2) = (-1) → ¬ a4 < 0 → a4 < (s c3 0) → a4 < (s c3 1) → (s c1 3) = 0 → ¬ (s (c3 + 1) a4.toNatClampNeg) = 0 → ¬ (s (c3 + 1) a4.toNatClampNeg) = 4 → ¬ (s (c3 + 1) a4.toNatClampNeg) = 5 → ¬ (s (c3 + 1) a4.toNatClampNeg) = 6 → ¬ a5 < 0 → ¬ (s (c3 + 1) a4.toNatClampNeg) = 2 → a5 < (s c2 0) → ¬ (s (c3 + 1) a4.toNatClampNeg) = 1 → ¬ (s (c3 + 4) a4.toNatClampNeg) < 0 → ¬ (s (c3 + 4) a4.toNatClampNeg) < 61 → a5 < 10 → (s (c2 + 1) a5.toNatClampNeg) < 0 → B (some (.int 0)) s)
    (k30 : ¬ (s c1 1) = 0 → (s c1 2) = (-1) → ¬ a4 < 0 → a4 < (s c3 0) → a4 < (s c3 1) → (s c1 3) = 0 → ¬ (s (c3 + 1) a4.toNatClampNeg) = 0 → ¬ (s (c3 + 1) a4.toNatClampNeg) = 4 → ¬ (s (c3 + 1) a4.toNatClampNeg) = 5 → ¬ (s (c3 + 1) a4.toNatClampNeg) = 6 → ¬ a5 < 0 → ¬ (s (c3 + 1) a4.toNatClampNeg) = 2 → a5 < (s c2 0) → ¬ (s (c3 + 1) a4.toNatClampNeg) = 1 → ¬ (s (c3 + 4) a4.toNatClampNeg) < 0 → ¬ (s (c3 + 4) a4.toNatClampNeg) < 61 → a5 < 10 → ¬ (s (c2 + 1) a5.toNatClampNeg) < 0 → ¬ (s (c2 + 1) a5.toNatClampNeg) < 61 → B (some (.int 0)) s)
    (k31 : ¬ (s c1 1) = 0 → (s c1 2) = (-1) → ¬ a4 < 0 → a4 < (s c3 0) → a4 < (s c3 1) → (s c1 3) = 0 → ¬ (s (c3 + 1) a4.toNatClampNeg) = 0 → ¬ (s (c3 + 1) a4.toNatClampNeg) = 4 → ¬ (s (c3 + 1) a4.toNatClampNeg) = 5 → ¬ (s (c3 + 1) a4.toNatClampNeg) = 6 → ¬ a5 < 0 → ¬ (s (c3 + 1) a4.toNatClampNeg) = 2 → a5 < (s c2 0) → ¬ (s (c3 + 1) a4.toNatClampNeg) = 1 → ¬ (s (c3 + 4) a4.toNatClampNeg) < 0 → ¬ (s (c3 + 4) a4.toNatClampNeg) < 61 → a5 < 10 → ¬ (s (c2 + 1) a5.toNatClampNeg) < 0 → (s (c2 + 1) a5.toNatClampNeg) < 61 → (0 - (s (c1 + 1) (s (c2 + 1) a5.toNatClampNeg).toNatClampNeg)) ≤ 0 → ¬ (0 - (s (c1 + 1) (s (c2 + 1) a5.toNatClampNeg).toNatClampNeg)) < 0 → B (some (.int 0)) s)
    (k32 : ¬ (s c1 1) = 0 → (s c1 2) = (-1) → ¬ a4 < 0 → a4 < (s c3 0) → a4 < (s c3 1) → (s c1 3) = 0 → ¬ (s (c3 + 1) a4.toNatClampNeg) = 0 → ¬ (s (c3 + 1) a4.toNatClampNeg) = 4 → ¬ (s (c3 + 1) a4.toNatClampNeg) = 5 → ¬ (s (c3 + 1) a4.toNatClampNeg) = 6 → ¬ a5 < 0 → ¬ (s (c3 + 1) a4.toNatClampNeg) = 2 → a5 < (s c2 0) → ¬ (s (c3 + 1) a4.toNatClampNeg) = 1 → ¬ (s (c3 + 4) a4.toNatClampNeg) < 0 → ¬ (s (c3 + 4) a4.toNatClampNeg) < 61 → a5 < 10 → ¬ (s (c2 + 1) a5.toNatClampNeg) < 0 → (s (c2 + 1) a5.toNatClampNeg) < 61 → (0 - (s (c1 + 1) (s (c2 + 1) a5.toNatClampNeg).toNatClampNeg)) ≤ 0 → (0 - (s (c1 + 1) (s (c2 + 1) a5.toNatClampNeg).toNatClampNeg)) < 0 → B (some (.int 2)) s)
    (k33 : ¬ (s c1 1) = 0 → (s c1 2) = (-1) → ¬ a4 < 0 → a4 < (s c3 0) → a4 < (s c3 1) → (s c1 3) = 0 → ¬ (s (c3 + 1) a4.toNatClampNeg) = 0 → ¬ (s (c3 + 1) a4.toNatClampNeg) = 4 → ¬ (s (c3 + 1) a4.toNatClampNeg) = 5 → ¬ (s (c3 + 1) a4.toNatClampNeg) = 6 → ¬ a5 < 0 → ¬ (s (c3 + 1) a4.toNatClampNeg) = 2 → a5 < (s c2 0) → ¬ (s (c3 + 1) a4.toNatClampNeg) = 1 → ¬ (s (c3 + 4) a4.toNatClampNeg) < 0 → ¬ (s (c3 + 4) a4.toNatClampNeg) < 61 → a5 < 10 → ¬ (s (c2 + 1) a5.toNatClampNeg) < 0 → (s (c2 + 1) a5.toNatClampNeg) < 61 → ¬ (0 - (s (c1 + 1) (s (c2 + 1) a5.toNatClampNeg).toNatClampNeg)) ≤ 0 → B (some (.int 1)) s)
    (k34 : ¬ (s c1 1) = 0 → (s c1 2) = (-1) → ¬ a4 < 0 → a4 < (s c3 0) → a4 < (s c3 1) → (s c1 3) = 0 → ¬ (s (c3 + 1) a4.toNatClampNeg) = 0 → ¬ (s (c3 + 1) a4.toNatClampNeg) = 4 → ¬ (s (c3 + 1) a4.toNatClampNeg) = 5 → ¬ (s (c3 + 1) a4.toNatClampNeg) = 6 → ¬ a5 < 0 → ¬ (s (c3 + 1) a4.toNatClampNeg) = 2 → a5 < (s c2 0) → ¬ (s (c3 + 1) a4.toNatClampNeg) = 1 → ¬ (s (c3 + 4) a4.toNatClampNeg) < 0 → (s (c3 + 4) a4.toNatClampNeg) < 61 → ¬ a5 < 10 → ((s (c1 + 1) (s (c3 + 4) a4.toNatClampNeg).toNatClampNeg) - 0) ≤ 0 → ¬ ((s (c1 + 1) (s (c3 + 4) a4.toNatClampNeg).toNatClampNeg) - 0) < 0 → B (some (.int 0)) s)
    (k35 : ¬ (s c1 1) = 0 → (s c1 2) = (-1) → ¬ a4 < 0 → a4 < (s c3 0) → a4 < (s c3 1) → (s c1 3) = 0 → ¬ (s (c3 + 1) a4.toNatClampNeg) = 0 → ¬ (s (c3 + 1) a4.toNatClampNeg) = 4 → ¬ (s (c3 + 1) a4.toNatClampNeg) = 5 → ¬ (s (c3 + 1) a4.toNatClampNeg) = 6 → ¬ a5 < 0 → ¬ (s (c3 + 1) a4.toNatClampNeg) = 2 → a5 < (s c2 0) → ¬ (s (c3 + 1) a4.toNatClampNeg) = 1 → ¬ (s (c3 + 4) a4.toNatClampNeg) < 0 → (s (c3 + 4) a4.toNatClampNeg) < 61 → ¬ a5 < 10 → ((s (c1 + 1) (s (c3 + 4) a4.toNatClampNeg).toNatClampNeg) - 0) ≤ 0 → ((s (c1 + 1) (s (c3 + 4) a4.toNatClampNeg).toNatClampNeg) - 0) < 0 → B (some (.int 2)) s)
    (k36 : ¬ (s c1 1) = 0 → (s c1 2) = (-1) → ¬ a4 < 0 → a4 < (s c3 0) → a4 < (s c3 1) → (s c1 3) = 0 → ¬ (s (c3 + 1) a4.toNatClampNeg) = 0 → ¬ (s (c3 + 1) a4.toNatClampNeg) = 4 → ¬ (s (c3 + 1) a4.toNatClampNeg) = 5 → ¬ (s (c3 + 1) a4.toNatClampNeg) = 6 → ¬ a5 < 0 → ¬ (s (c3 + 1) a4.toNatClampNeg) = 2 → a5 < (s c2 0) → ¬ (s (c3 + 1) a4.toNatClampNeg) = 1 → ¬ (s (c3 + 4) a4.toNatClampNeg) < 0 → (s (c3 + 4) a4.toNatClampNeg) < 61 → ¬ a5 < 10 → ¬ ((s (c1 + 1) (s (c3 + 4) a4.toNatClampNeg).toNatClampNeg) - 0) ≤ 0 → B (some (.int 1)) s)
    (k37 : ¬ (s c1 1) = 0 → (s c1 2) = (-1) → ¬ a4 < 0 → a4 < (s c3 0) → a4 < (s c3 1) → (s c1 3) = 0 → ¬ (s (c3 + 1) a4.toNatClampNeg) = 0 → ¬ (s (c3 + 1) a4.toNatClampNeg) = 4 → ¬ (s (c3 + 1) a4.toNatClampNeg) = 5 → ¬ (s (c3 + 1) a4.toNatClampNeg) = 6 → ¬ a5 < 0 → ¬ (s (c3 + 1) a4.toNatClampNeg) = 2 → a5 < (s c2 0) → ¬ (s (c3 + 1) a4.toNatClampNeg) = 1 → ¬ (s (c3 + 4) a4.toNatClampNeg) < 0 → (s (c3 + 4) a4.toNatClampNeg) < 61 → a5 < 10 → (s (c2 + 1) a5.toNatClampNeg) < 0 → ((s (c1 + 1) (s (c3 + 4) a4.toNatClampNeg).toNatClampNeg) - 0) ≤ 0 → ¬ ((s (c1 + 1) (s (c3 + 4) a4.toNatClampNeg).toNatClampNeg) - 0) < 0 → B (some (.int 0)) s)
    (k38 : ¬ (s c1 1) = 0 → (s c1 2) = (-1) → ¬ a4 < 0 → a4 < (s c3 0) → a4 < (s c3 1) → (s c1 3) = 0 → ¬ (s (c3 + 1) a4.toNatClampNeg) = 0 → ¬ (s (c3 + 1) a4.toNatClampNeg) = 4 → ¬ (s (c3 + 1) a4.toNatClampNeg) = 5 → ¬ (s (c3 + 1) a4.toNatClampNeg) = 6 → ¬ a5 < 0 → ¬ (s (c3 + 1) a4.toNatClampNeg) = 2 → a5 < (s c2 0) → ¬ (s (c3 + 1) a4.toNatClampNeg) = 1 → ¬ (s (c3 + 4) a4.toNatClampNeg) < 0 → (s (c3 + 4) a4.toNatClampNeg) < 61 → a5 < 10 → (s (c2 + 1) a5.toNatClampNeg) < 0 → ((s (c1 + 1) (s (c3 + 4) a4.toNatClampNeg).toNatClampNeg) - 0) ≤ 0 → ((s (c1 + 1) (s (c3 + 4) a4.toNatClampNeg).toNatClampNeg) - 0) < 0 → B (some (.int 2)) s)
    (k39 : ¬ (s c1 1) = 0 → (s c1 2) = (-1) → ¬ a4 < 0 → a4 < (s c3 0) → a4 < (s c3 1) → (s c1 3) = 0 → ¬ (s (c3 + 1) a4.toNatClampNeg) = 0 → ¬ (s (c3 + 1) a4.toNatClampNeg) = 4 → ¬ (s (c3 + 1) a4.toNatClampNeg) = 5 → ¬ (s (c3 + 1) a4.toNatClampNeg) = 6 → ¬ a5 < 0 → ¬ (s (c3 + 1) a4.toNatClampNeg) = 2 → a5 < (s c2 0) → ¬ (s (c3 + 1) a4.toNatClampNeg) = 1 → ¬ (s (c3 + 4) a4.toNatClampNeg) < 0 → (s (c3 + 4) a4.toNatClampNeg) < 61 → a5 < 10 → (s (c2 + 1) a5.toNatClampNeg) < 0 → ¬ ((s (c1 + 1) (s (c3 + 4) a4.toNatClampNeg).toNatClampNeg) - 0) ≤ 0 → B (some (.int 1)) s)
    (k40 : ¬ (s c1 1) = 0 → (s c1 2) = (-1) → ¬ a4 < 0 → a4 < (s c3 0) → a4 < (s c3 1) → (s c1 3) = 0 → ¬ (s (c3 + 1) a4.toNatClampNeg) = 0 → ¬ (s (c3 + 1) a4.toNatClampNeg) = 4 → ¬ (s (c3 + 1) a4.toNatClampNeg) = 5 → ¬ (s (c3 + 1) a4.toNatClampNeg) = 6 → ¬ a5 < 0 → ¬ (s (c3 + 1) a4.toNatClampNeg) = 2 → a5 < (s c2 0) → ¬ (s (c3 + 1) a4.toNatClampNeg) = 1 → ¬ (s (c3 + 4) a4.toNatClampNeg) < 0 → (s (c3 + 4) a4.toNatClampNeg) < 61 → a5 < 10 → ¬ (s (c2 + 1) a5.toNatClampNeg) < 0 → ¬ (s (c2 + 1) a5.toNatClampNeg) < 61 → ((s (c1 + 1) (s (c3 + 4) a4.toNatClampNeg).toNatClampNeg) - 0) ≤ 0 → ¬ ((s (c1 + 1) (s (c3 + 4) a4.toNatClampNeg).toNatClampNeg) - 0) < 0 → B (some (.int 0)) s)
    (k41 : ¬ (s c1 1) = 0 → (s c1 2) = (-1) → ¬ a4 < 0 → a4 < (s c3 0) → a4 < (s c3 1) → (s c1 3) = 0 → ¬ (s (c3 + 1) a4.toNatClampNeg) = 0 → ¬ (s (c3 + 1) a4.toNatClampNeg) = 4 → ¬ (s (c3 + 1) a4.toNatClampNeg) = 5 → ¬ (s (c3 + 1) a4.toNatClampNeg) = 6 → ¬ a5 < 0 → ¬ (s (c3 + 1) a4.toNatClampNeg) = 2 → a5 < (s c2 0) → ¬ (s (c3 + 1) a4.toNatClampNeg) = 1 → ¬ (s (c3 + 4) a4.toNatClampNeg) < 0 → (s (c3 + 4) a4.toNatClampNeg) < 61 → a5 < 10 → ¬ (s (c2 + 1) a5.toNatClampNeg) < 0 → ¬ (s (c2 + 1) a5.toNatClampNeg) < 61 → ((s (c1 + 1) (s (c3 + 4) a4.toNatClampNeg).toNatClampNeg) - 0) ≤ 0 → ((s (c1 + 1) (s (c3 + 4) a4.toNatClampNeg).toNatClampNeg) - 0) < 0 → B (some (.int 2)) s)
    (k42 : ¬ (s c1 1) = 0 → (s c1 2) = (-1) → ¬ a4 < 0 → a4 < (s c3 0) → a4 < (s c3 1) → (s c1 3) = 0 → ¬ (s (c3 + 1) a4.toNatClampNeg) = 0 → ¬ (s (c3 + 1) a4.toNatClampNeg) = 4 → ¬ (s (c3 + 1) a4.toNatClampNeg) = 5 → ¬ (s (c3 + 1) a4.toNatClampNeg) = 6 → ¬ a5 < 0 → ¬ (s (c3 + 1) a4.toNatClampNeg) = 2 → a5 < (s c2 0) → ¬ (s (c3 + 1) a4.toNatClampNeg) = 1 → ¬ (s (c3 + 4) a4.toNatClampNeg) < 0 → (s (c3 + 4) a4.toNatClampNeg) < 61 → a5 < 10 → ¬ (s (c2 + 1) a5.toNatClampNeg) < 0 → ¬ (s (c2 + 1) a5.toNatClampNeg) < 61 → ¬ ((s (c1 + 1) (s (c3 + 4) a4.toNatClampNeg).toNatClampNeg) - 0) ≤ 0 → B (some (.int 1)) s)
    (k43 : ¬ (s c1 1) = 0 → (s c1 2) = (-1) → ¬ a4 < 0 → a4 < (s c3 0) → a4 < (s c3 1) → (s c1 3) = 0 → ¬ (s (c3 + 1) a4.toNatClampNeg) = 0 → ¬ (s (c3 + 1) a4.toNatClampNeg) = 4 → ¬ (s (c3 + 1) a4.toNatClampNeg) = 5 → ¬ (s (c3 + 1) a4.toNatClampNeg) = 6 → ¬ a5 < 0 → ¬ (s (c3 + 1) a4.toNatClampNeg) = 2 → a5 < (s c2 0) → ¬ (s (c3 + 1) a4.toNatClampNeg) = 1 → ¬ (s (c3 + 4) a4.toNatClampNeg) < 0 → (s (c3 + 4) a4.toNatClampNeg) < 61 → a5 < 10 → ¬ (s (c2 + 1) a5.toNatClampNeg) < 0 → (s (c2 + 1) a5.toNatClampNeg) < 61 → ((s (c1 + 1) (s (c3 + 4) a4.toNatClampNeg).toNatClampNeg) - (s (c1 + 1) (s (c2 + 1) a5.toNatClampNeg).toNatClampNeg)) ≤ 0 → ¬ ((s (c1 + 1) (s (c3 + 4) a4.toNatClampNeg).toNatClampNeg) - (s (c1 + 1) (s (c2 + 1) a5.toNatClampNeg).toNatClampNeg)) < 0 → B (some (.int 0)) s)
    (k44 : ¬ (s c1 1) = 0 → (s c1 2) = (-1) → ¬ a4 < 0 → a4 < (s c3 0) → a4 < (s c3 1) → (s c1 3) = 0 → ¬ (s (c3 + 1) a4.toNatClampNeg) = 0 → ¬ (s (c3 + 1) a4.toNatClampNeg) = 4 → ¬ (s (c3 + 1) a4.toNatClampNeg) = 5 → ¬ (s (c3 + 1) a4.toNatClampNeg) = 6 → ¬ a5 < 0 → ¬ (s (c3 + 1) a4.toNatClampNeg) = 2 → a5 < (s c2 0) → ¬ (s (c3 + 1) a4.toNatClampNeg) = 1 → ¬ (s (c3 + 4) a4.toNatClampNeg) < 0 → (s (c3 + 4) a4.toNatClampNeg) < 61 → a5 < 10 → ¬ (s (c2 + 1) a5.toNatClampNeg) < 0 → (s (c2 + 1) a5.toNatClampNeg) < 61 → ((s (c1 + 1) (s (c3 + 4) a4.toNatClampNeg).toNatClampNeg) - (s (c1 + 1) (s (c2 + 1) a5.toNatClampNeg).toNatClampNeg)) ≤ 0 → ((s (c1 + 1) (s (c3 + 4) a4.toNatClampNeg).toNatClampNeg) - (s (c1 + 1) (s (c2 + 1) a5.toNatClampNeg).toNatClampNeg)) < 0 → B (some (.int 2)) s)
    (k45 : ¬ (s c1 1) = 0 → (s c1 2) = (-1) → ¬ a4 < 0 → a4 < (s c3 0) → a4 < (s c3 1) → (s c1 3) = 0 → ¬ (s (c3 + 1) a4.toNatClampNeg) = 0 → ¬ (s (c3 + 1) a4.toNatClampNeg) = 4 → ¬ (s (c3 + 1) a4.toNatClampNeg) = 5 → ¬ (s (c3 + 1) a4.toNatClampNeg) = 6 → ¬ a5 < 0 → ¬ (s (c3 + 1) a4.toNatClampNeg) = 2 → a5 < (s c2 0) → ¬ (s (c3 + 1) a4.toNatClampNeg) = 1 → ¬ (s (c3 + 4) a4.toNatClampNeg) < 0 → (s (c3 + 4) a4.toNatClampNeg) < 61 → a5 < 10 → ¬ (s (c2 + 1) a5.toNatClampNeg) < 0 → (s (c2 + 1) a5.toNatClampNeg) < 61 → ¬ ((s (c1 + 1) (s (c3 + 4) a4.toNatClampNeg).toNatClampNeg) - (s (c1 + 1) (s (c2 + 1) a5.toNatClampNeg).toNatClampNeg)) ≤ 0 → B (some (.int 1)) s)
    (k46 : ¬ (s c1 1) = 0 → (s c1 2) = (-1) → ¬ a4 < 0 → a4 < (s c3 0) → a4 < (s c3 1) → (s c1 3) = 0 → ¬ (s (c3 + 1) a4.toNatClampNeg) = 0 → ¬ (s (c3 + 1) a4.toNatClampNeg) = 4 → ¬ (s (c3 + 1) a4.toNatClampNeg) = 5 → ¬ (s (c3 + 1) a4.toNatClampNeg) = 6 → ¬ a5 < 0 → ¬ (s (c3 + 1) a4.toNatClampNeg) = 2 → a5 < (s c2 0) → (s (c3 + 1) a4.toNatClampNeg) = 1 → ¬ a5 < 10 → B (some (.int 0)) s)
    (k47 : ¬ (s c1 1) = 0 → (s c1 2) = (-1) → ¬ a4 < 0 → a4 < (s c3 0) → a4 < (s c3 1) → (s c1 3) = 0 → ¬ (s (c3 + 1) a4.toNatClampNeg) = 0 → ¬ (s (c3 + 1) a4.toNatClampNeg) = 4 → ¬ (s (c3 + 1) a4.toNatClampNeg) = 5 → ¬ (s (c3 + 1) a4.toNatClampNeg) = 6 → ¬ a5 < 0 → ¬ (s (c3 + 1) a4.toNatClampNeg) = 2 → a5 < (s c2 0) → (s (c3 + 1) a4.toNatClampNeg) = 1 → a5 < 10 → (s (c2 + 1) a5.toNatClampNeg) < 0 → B (some (.int 0)) s)
    (k48 : ¬ (s c1 1) = 0 → (s c1 2) = (-1) → ¬ a4 < 0 → a4 < (s c3 0) → a4 < (s c3 1) → (s c1 3) = 0 → ¬ (s (c3 + 1) a4.toNatClampNeg) = 0 → ¬ (s (c3 + 1) a4.toNatClampNeg) = 4 → ¬ (s (c3 + 1) a4.toNatClampNeg) = 5 → ¬ (s (c3 + 1) a4.toNatClampNeg) = 6 → ¬ a5 < 0 → ¬ (s (c3 + 1) a4.toNatClampNeg) = 2 → a5 < (s c2 0) → (s (c3 + 1) a4.toNatClampNeg) = 1 → a5 < 10 → ¬ (s (c2 + 1) a5.toNatClampNeg) < 0 → ¬ (s (c2 + 1) a5.toNatClampNeg) < 61 → B (some (.int 0)) s)
    (k49 : ¬ (s c1 1) = 0 → (s c1 2) = (-1) → ¬ a4 < 0 → a4 < (s c3 0) → a4 < (s c3 1) → (s c1 3) = 0 → ¬ (s (c3 + 1) a4.toNatClampNeg) = 0 → ¬ (s (c3 + 1) a4.toNatClampNeg) = 4 → ¬ (s (c3 + 1) a4.toNatClampNeg) = 5 → ¬ (s (c3 + 1) a4.toNatClampNeg) = 6 → ¬ a5 < 0 → ¬ (s (c3 + 1) a4.toNatClampNeg) = 2 → a5 < (s c2 0) → (s (c3 + 1) a4.toNatClampNeg) = 1 → a5 < 10 → ¬ (s (c2 + 1) a5.toNatClampNeg) < 0 → (s (c2 + 1) a5.toNatClampNeg) < 61 → (0 - (s (c1 + 1) (s (c2 + 1) a5.toNatClampNeg).toNatClampNeg)) ≤ 0 → ¬ (0 - (s (c1 + 1) (s (c2 + 1) a5.toNatClampNeg).toNatClampNeg)) < 0 → B (some (.int 0)) s)
    (k50 : ¬ (s c1 1) = 0 → (s c1 2) = (-1) → ¬ a4 < 0 → a4 < (s c3 0) → a4 < (s c3 1) → (s c1 3) = 0 → ¬ (s (c3 + 1) a4.toNatClampNeg) = 0 → ¬ (s (c3 + 1) a4.toNatClampNeg) = 4 → ¬ (s (c3 + 1) a4.toNatClampNeg) = 5 → ¬ (s (c3 + 1) a4.toNatClampNeg) = 6 → ¬ a5 < 0 → ¬ (s (c3 + 1) a4.toNatClampNeg) = 2 → a5 < (s c2 0) → (s (c3 + 1) a4.toNatClampNeg) = 1 → a5 < 10 → ¬ (s (c2 + 1) a5.toNatClampNeg) < 0 → (s (c2 + 1) a5.toNatClampNeg) < 61 → (0 - (s (c1 + 1) (s (c2 + 1) a5.toNatClampNeg).toNatClampNeg)) ≤ 0 → (0 - (s (c1 + 1) (s (c2 + 1) a5.toNatClampNeg).toNatClampNeg)) < 0 → B (some (.int 2)) s)
    (k51 : ¬ (s c1 1) = 0 → (s c1 2) = (-1) → ¬ a4 < 0 → a4 < (s c3 0) → a4 < (s c3 1) → (s c1 3) = 0 → ¬ (s (c3 + 1) a4.toNatClampNeg) = 0 → ¬ (s (c3 + 1) a4.toNatClampNeg) = 4 → ¬ (s (c3 + 1) a4.toNatClampNeg) = 5 → ¬ (s (c3 + 1) a4.toNatClampNeg) = 6 → ¬ a5 < 0 → ¬ (s (c3 + 1) a4.toNatClampNeg) = 2 → a5 < (s c2 0) → (s (c3 + 1) a4.toNatClampNeg) = 1 → a5 < 10 → ¬ (s (c2 + 1) a5.toNatClampNeg) < 0 → (s (c2 + 1) a5.toNatClampNeg) < 61 → ¬ (0 - (s (c1 + 1) (s (c2 + 1) a5.toNatClampNeg).toNatClampNeg)) ≤ 0 → B (some (.int 1)) s)
    (k52 : ¬ (s c1 1) = 0 → (s c1 2) = (-1) → ¬ a4 < 0 → a4 < (s c3 0) → a4 < (s c3 1) → (s c1 3) = 0 → ¬ (s (c3 + 1) a4.toNatClampNeg) = 0 → ¬ (s (c3 + 1) a4.toNatClampNeg) = 4 → ¬ (s (c3 + 1) a4.toNatClampNeg) = 5 → ¬ (s (c3 + 1) a4.toNatClampNeg) = 6 → ¬ a5 < 0 → (s (c3 + 1) a4.toNatClampNeg) = 2 → ¬ a5 ≤ (s c2 0) → B (some (.int 0)) s)
    (k53 : ¬ (s c1 1) = 0 → (s c1 2) = (-1) → ¬ a4 < 0 → a4 < (s c3 0) → a4 < (s c3 1) → (s c1 3) = 0 → ¬ (s (c3 + 1) a4.toNatClampNeg) = 0 → ¬ (s (c3 + 1) a4.toNatClampNeg) = 4 → ¬ (s (c3 + 1) a4.toNatClampNeg) = 5 → ¬ (s (c3 + 1) a4.toNatClampNeg) = 6 → ¬ a5 < 0 → (s (c3 + 1) a4.toNatClampNeg) = 2 → a5 ≤ (s c2 0) → ¬ (s c2 0) < 10 → B (some (.int 0)) s)
    (k54 : ¬ (s c1 1) = 0 → (s c1 2) = (-1) → ¬ a4 < 0 → a4 < (s c3 0) → a4 < (s c3 1) → (s c1 3) = 0 → ¬ (s (c3 + 1) a4.toNatClampNeg) = 0 → ¬ (s (c3 + 1) a4.toNatClampNeg) = 4 → ¬ (s (c3 + 1) a4.toNatClampNeg) = 5 → ¬ (s (c3 + 1) a4.toNatClampNeg) = 6 → ¬ a5 < 0 → (s (c3 + 1) a4.toNatClampNeg) = 2 → a5 ≤ (s c2 0) → (s c2 0) < 10 → ¬ (s (c3 + 1) a4.toNatClampNeg) = 1 → (s (c3 + 4) a4.toNatClampNeg) < 0 → B (some (.int 0)) s)
    (k55 : ¬ (s c1 1) = 0 → (s c1 2) = (-1) → ¬ a4 < 0 → a4 < (s c3 0) → a4 < (s c3 1) → (s c1 3) = 0 → ¬ (s (c3 + 1) a4.toNatClampNeg) = 0 → ¬ (s (c3 + 1) a4.toNatClampNeg) = 4 → ¬ (s (c3 + 1) a4.toNatClampNeg) = 5 → ¬ (s (c3 + 1) a4.toNatClampNeg) = 6 → ¬ a5 < 0 → (s (c3 + 1) a4.toNatClampNeg) = 2 → a5 ≤ (s c2 0) → (s c2 0) < 10 → ¬ (s (c3 + 1) a4.toNatClampNeg) = 1 → ¬ (s (c3 + 4) a4.toNatClampNeg) < 0 → ¬ (s (c3 + 4) a4.toNatClampNeg) < 61 → B (some (.int 0)) s)
    (k56 : ¬ (s c1 1) = 0 → (s c1 2) = (-1) → ¬ a4 < 0 → a4 < (s c3 0) → a4 < (s c3 1) → (s c1 3) = 0 → ¬ (s (c3 + 1) a4.toNatClampNeg) = 0 → ¬ (s (c3 + 1) a4.toNatClampNeg) = 4 → ¬ (s (c3 + 1) a4.toNatClampNeg) = 5 → ¬ (s (c3 + 1) a4.toNatClampNeg) = 6 → ¬ a5 < 0 → (s (c3 + 1) a4.toNatClampNeg) = 2 → a5 ≤ (s c2 0) → (s c2 0) < 10 → ¬ (s (c3 + 1) a4.toNatClampNeg) = 1 → ¬ (s (c3 + 4) a4.toNatClampNeg) < 0 → (s (c3 + 4) a4.toNatClampNeg) < 61 → ((s (c1 + 1) (s (c3 + 4) a4.toNatClampNeg).toNatClampNeg) - 0) ≤ 0 → ¬ ((s (c1 + 1) (s (c3 + 4) a4.toNatClampNeg).toNatClampNeg) - 0) < 0 → B (some (.int 0)) s)
    (k57 : ¬ (s c1 1) = 0 → (s c1 2) = (-1) → ¬ a4 < 0 → a4 < (s c3 0) → a4 < (s c3 1) → (s c1 3) = 0 → ¬ (s (c3 + 1) a4.toNatClampNeg) = 0 → ¬ (s (c3 + 1) a4.toNatClampNeg) = 4 → ¬ (s (c3 + 1) a4.toNatClampNeg) = 5 → ¬ (s (c3 + 1) a4.toNatClampNeg) = 6 → ¬ a5 < 0 → (s (c3 + 1) a4.toNatClampNeg) = 2 → a5 ≤ (s c2 0) → (s c2 0) < 10 → ¬ (s (c3 + 1) a4.toNatClampNeg) = 1 → ¬ (s (c3 + 4) a4.toNatClampNeg) < 0 → (s (c3 + 4) a4.toNatClampNeg) < 61 → ((s (c1 + 1) (s (c3 + 4) a4.toNatClampNeg).toNatClampNeg) - 0) ≤ 0 → ((s (c1 + 1) (s (c3 + 4) a4.toNatClampNeg).toNatClampNeg) - 0) < 0 → B (some (.int 2)) s)
    (k58 : ¬ (s c1 1) = 0 → (s c1 2) = (-1) → ¬ a4 < 0 → a4 < (s c3 0) → a4 < (s c3 1) → (s c1 3) = 0 → ¬ (s (c3 + 1) a4.toNatClampNeg) = 0 → ¬ (s (c3 + 1) a4.toNatClampNeg) = 4 → ¬ (s (c3 + 1) a4.toNatClampNeg) = 5 → ¬ (s (c3 + 1) a4.toNatClampNeg) = 6 → ¬ a5 < 0 → (s (c3 + 1) a4.toNatClampNeg) = 2 → a5 ≤ (s c2 0) → (s c2 0) < 10 → ¬ (s (c3 + 1) a4.toNatClampNeg) = 1 → ¬ (s (c3 + 4) a4.toNatClampNeg) < 0 → (s (c3 + 4) a4.toNatClampNeg) < 61 → ¬ ((s (c1 + 1) (s (c3 + 4) a4.toNatClampNeg).toNatClampNeg) - 0) ≤ 0 → B (some (.int 1)) s)
    (k59 : ¬ (s c1 1) = 0 → (s c1 2) = (-1) → ¬ a4 < 0 → a4 < (s c3 0) → a4 < (s c3 1) → (s c1 3) = 0 → ¬ (s (c3 + 1) a4.toNatClampNeg) = 0 → ¬ (s (c3 + 1) a4.toNatClampNeg) = 4 → ¬ (s (c3 + 1) a4.toNatClampNeg) = 5 → ¬ (s (c3 + 1) a4.toNatClampNeg) = 6 → ¬ a5 < 0 → (s (c3 + 1) a4.toNatClampNeg) = 2 → a5 ≤ (s c2 0) → (s c2 0) < 10 → (s (c3 + 1) a4.toNatClampNeg) = 1 → B (some (.int 0)) s)
    (k60 : ¬ (s c1 1) = 0 → (s c1 2) = (-1) → ¬ a4 < 0 → a4 < (s c3 0) → a4 < (s c3 1) → ¬ (s c1 3) = 0 → B (some (.int (s c1 3))) s) :
    q_P G (d + 3) 94 [.ref 0, .ref c1, .ref c2, .ref c3, .int a4, .int a5] s B := by
  refine q_in (M := jm_C_choice) rfl (Nat.le_of_ble_eq_true rfl) (ls := [some (.ref 0), some (.ref c1), some (.ref c2), some (.ref c3), some (.int a4), some (.int a5), none]) rfl ?_
  refine q_aload_n (pc' := 1) ja_C_choice_0 rfl rfl ?_
  refine q_getf (pc' := 4) (v := .int (s c1 1)) ja_C_choice_1 rfl (f_5_c hc1) ⟨by rw [f_5_k hc1], by decide⟩ (f_i (f_5_k hc1) rfl) ?_
  refine q_if_eq (pc' := 7) ja_C_choice_4 rfl ?_ ?_
  · intro h1
    refine q_iconst (pc' := 25) ja_C_choice_24 rfl 0 (by decide) ?_
    exact q_iret ja_C_choice_25 rfl rfl (k1 h1)
  · intro h2
    refine q_aload_n (pc' := 8) ja_C_choice_7 rfl rfl ?_
    refine q_getf (pc' := 11) (v := .int (s c1 2)) ja_C_choice_8 rfl (f_5_c hc1) ⟨by rw [f_5_k hc1], by decide⟩ (f_i (f_5_k hc1) rfl) ?_
    refine q_iconst (pc' := 12) ja_C_choice_11 rfl (-1) (by decide) ?_
    refine q_ic_ne (pc' := 15) ja_C_choice_12 rfl ?_ ?_
    · intro h3
      refine q_iconst (pc' := 25) ja_C_choice_24 rfl 0 (by decide) ?_
      exact q_iret ja_C_choice_25 rfl rfl (k2 h2 h3)
    · intro h4
      refine q_aload_n (pc' := 16) ja_C_choice_15 rfl rfl ?_
      refine q_iload (pc' := 18) ja_C_choice_16 rfl rfl ?_
      refine q_virt (pc' := 21) (c := c3) (as := [.int a4]) (r := []) ja_C_choice_18 rfl rfl rfl (f_6_c hc3) ⟨by rw [f_6_k hc3], by decide⟩ ?_
      refine q_in (M := jm_Motions_has) rfl (Nat.le_of_ble_eq_true rfl) (ls := [some (.ref c3), some (.int a4)]) rfl ?_
      refine q_iload_n (pc' := 1) ja_Motions_has_0 rfl rfl ?_
      refine q_if_lt (pc' := 4) ja_Motions_has_1 rfl ?_ ?_
      · intro h5
        refine q_iconst (pc' := 25) ja_Motions_has_24 rfl 0 (by decide) ?_
        refine q_iret ja_Motions_has_25 rfl (by decide) ?_
        show q_W _ _ _ _ 21 [some (.ref 0), some (.ref c1), some (.ref c2), some (.ref c3), some (.int a4), some (.int a5), none] [.int 0] s
        refine q_if_ne (pc' := 24) ja_C_choice_21 rfl (fun h => absurd ((by decide : (0 : Int32) = 0)) h) (fun _ => ?_)
        refine q_iconst (pc' := 25) ja_C_choice_24 rfl 0 (by decide) ?_
        exact q_iret ja_C_choice_25 rfl rfl (k3 h2 h4 h5)
      · intro h6
        refine q_iload_n (pc' := 5) ja_Motions_has_4 rfl rfl ?_
        refine q_aload_n (pc' := 6) ja_Motions_has_5 rfl rfl ?_
        refine q_getf (pc' := 9) (v := .int (s c3 0)) ja_Motions_has_6 rfl (f_6_c hc3) ⟨by rw [f_6_k hc3], by decide⟩ (f_i (f_6_k hc3) rfl) ?_
        refine q_ic_ge (pc' := 12) ja_Motions_has_9 rfl ?_ ?_
        · intro h7
          refine q_iconst (pc' := 25) ja_Motions_has_24 rfl 0 (by decide) ?_
          refine q_iret ja_Motions_has_25 rfl (by decide) ?_
          show q_W _ _ _ _ 21 [some (.ref 0), some (.ref c1), some (.ref c2), some (.ref c3), some (.int a4), some (.int a5), none] [.int 0] s
          refine q_if_ne (pc' := 24) ja_C_choice_21 rfl (fun h => absurd ((by decide : (0 : Int32) = 0)) h) (fun _ => ?_)
          refine q_iconst (pc' := 25) ja_C_choice_24 rfl 0 (by decide) ?_
          exact q_iret ja_C_choice_25 rfl rfl (k4 h2 h4 h6 h7)
        · intro h8
          refine q_iload_n (pc' := 13) ja_Motions_has_12 rfl rfl ?_
          refine q_aload_n (pc' := 14) ja_Motions_has_13 rfl rfl ?_
          refine q_getf (pc' := 17) (v := .int (s c3 1)) ja_Motions_has_14 rfl (f_6_c hc3) ⟨by rw [f_6_k hc3], by decide⟩ (f_i (f_6_k hc3) rfl) ?_
          refine q_ic_ge (pc' := 20) ja_Motions_has_17 rfl ?_ ?_
          · intro h9
            refine q_iconst (pc' := 25) ja_Motions_has_24 rfl 0 (by decide) ?_
            refine q_iret ja_Motions_has_25 rfl (by decide) ?_
            show q_W _ _ _ _ 21 [some (.ref 0), some (.ref c1), some (.ref c2), some (.ref c3), some (.int a4), some (.int a5), none] [.int 0] s
            refine q_if_ne (pc' := 24) ja_C_choice_21 rfl (fun h => absurd ((by decide : (0 : Int32) = 0)) h) (fun _ => ?_)
            refine q_iconst (pc' := 25) ja_C_choice_24 rfl 0 (by decide) ?_
            exact q_iret ja_C_choice_25 rfl rfl (k5 h2 h4 h6 h8 h9)
          · intro h10
            refine q_iconst (pc' := 21) ja_Motions_has_20 rfl 1 (by decide) ?_
            refine q_goto ja_Motions_has_21 ?_
            refine q_iret ja_Motions_has_25 rfl (by decide) ?_
            show q_W _ _ _ _ 21 [some (.ref 0), some (.ref c1), some (.ref c2), some (.ref c3), some (.int a4), some (.int a5), none] [.int 1] s
            refine q_if_ne (pc' := 24) ja_C_choice_21 rfl (fun _ => ?_) (fun h => absurd h ((by decide : ¬ (1 : Int32) = 0)))
            refine q_aload_n (pc' := 27) ja_C_choice_26 rfl rfl ?_
            refine q_getf (pc' := 30) (v := .int (s c1 3)) ja_C_choice_27 rfl (f_5_c hc1) ⟨by rw [f_5_k hc1], by decide⟩ (f_i (f_5_k hc1) rfl) ?_
            refine q_if_eq (pc' := 33) ja_C_choice_30 rfl ?_ ?_
            · intro h11
              refine q_aload_n (pc' := 39) ja_C_choice_38 rfl rfl ?_
              refine q_getf (pc' := 42) (v := .ref (c3 + 1)) ja_C_choice_39 rfl (f_6_c hc3) ⟨by rw [f_6_k hc3], by decide⟩ (f_6_g2 hc3) ?_
              refine q_iload (pc' := 44) ja_C_choice_42 rfl rfl ?_
              refine q_iald (pc' := 45) (v := .int (s (c3 + 1) a4.toNatClampNeg)) ja_C_choice_44 rfl (f_a_c (f_6_s2 hc3)) (l := Lc3) (f_a_k (f_6_s2 hc3)) (k6 h2 h4 h6 h8 h10 h11) (f_i (f_a_k (f_6_s2 hc3)) rfl) ?_
              refine q_istore (pc' := 47) (ls' := [some (.ref 0), some (.ref c1), some (.ref c2), some (.ref c3), some (.int a4), some (.int a5), some (.int (s (c3 + 1) a4.toNatClampNeg))]) ja_C_choice_45 rfl ⟨Nat.le_of_ble_eq_true rfl, rfl⟩ rfl ?_
              refine q_iload (pc' := 49) ja_C_choice_47 rfl rfl ?_
              by_cases h12 : (s (c3 + 1) a4.toNatClampNeg) = 0
              · refine q_swE (pc' := 92) ja_C_choice_49 (by rw [h12]; decide) (by rw [h12]; exact ⟨_, rfl, rfl⟩) ?_
                refine q_aload_n (pc' := 93) ja_C_choice_92 rfl rfl ?_
                refine q_aload_n (pc' := 94) ja_C_choice_93 rfl rfl ?_
                refine q_virt (pc' := 97) (c := c2) (as := [.ref c1]) (r := []) ja_C_choice_94 rfl rfl rfl (f_8_c hc2) ⟨by rw [f_8_k hc2], by decide⟩ ?_
                exact (k7 h2 h4 h6 h8 h10 h11 h12)
              by_cases h13 : (s (c3 + 1) a4.toNatClampNeg) = 4
              · refine q_swE (pc' := 101) ja_C_choice_49 (by rw [h13]; decide) (by rw [h13]; exact ⟨_, rfl, rfl⟩) ?_
                refine q_aload_n (pc' := 102) ja_C_choice_101 rfl rfl ?_
                refine q_aload_n (pc' := 103) ja_C_choice_102 rfl rfl ?_
                refine q_virt (pc' := 106) (c := c2) (as := [.ref c1]) (r := []) ja_C_choice_103 rfl rfl rfl (f_8_c hc2) ⟨by rw [f_8_k hc2], by decide⟩ ?_
                exact (k8 h2 h4 h6 h8 h10 h11 h12 h13)
              by_cases h14 : (s (c3 + 1) a4.toNatClampNeg) = 5
              · refine q_swE (pc' := 111) ja_C_choice_49 (by rw [h14]; decide) (by rw [h14]; exact ⟨_, rfl, rfl⟩) ?_
                refine q_aload_n (pc' := 112) ja_C_choice_111 rfl rfl ?_
                refine q_aload_n (pc' := 113) ja_C_choice_112 rfl rfl ?_
                refine q_virt (pc' := 116) (c := c2) (as := [.ref c1]) (r := []) ja_C_choice_113 rfl rfl rfl (f_8_c hc2) ⟨by rw [f_8_k hc2], by decide⟩ ?_
                exact (k9 h2 h4 h6 h8 h10 h11 h12 h13 h14)
              by_cases h15 : (s (c3 + 1) a4.toNatClampNeg) = 6
              · refine q_swE (pc' := 125) ja_C_choice_49 (by rw [h15]; decide) (by rw [h15]; exact ⟨_, rfl, rfl⟩) ?_
                refine q_aload_n (pc' := 126) ja_C_choice_125 rfl rfl ?_
                refine q_getf (pc' := 129) (v := .int (s c1 0)) ja_C_choice_126 rfl (f_5_c hc1) ⟨by rw [f_5_k hc1], by decide⟩ (f_i (f_5_k hc1) rfl) ?_
                refine q_aload_n (pc' := 130) ja_C_choice_129 rfl rfl ?_
                refine q_aload_n (pc' := 131) ja_C_choice_130 rfl rfl ?_
                refine q_getf (pc' := 134) (v := .ref (c3 + 2)) ja_C_choice_131 rfl (f_6_c hc3) ⟨by rw [f_6_k hc3], by decide⟩ (f_6_g3 hc3) ?_
                refine q_iload (pc' := 136) ja_C_choice_134 rfl rfl ?_
                refine q_iald (pc' := 137) (v := .int (s (c3 + 2) a4.toNatClampNeg)) ja_C_choice_136 rfl (f_a_c (f_6_s3 hc3)) (l := Lc3) (f_a_k (f_6_s3 hc3)) (k10 h2 h4 h6 h8 h10 h11 h12 h13 h14 h15) (f_i (f_a_k (f_6_s3 hc3)) rfl) ?_
                refine q_virt (pc' := 140) (c := 0) (as := [.int (s (c3 + 2) a4.toNatClampNeg)]) (r := [.int (s c1 0)]) ja_C_choice_137 rfl rfl rfl (by decide) ⟨rfl, by decide⟩ ?_
                refine q_in (M := jm_C_partyOf) rfl (Nat.le_of_ble_eq_true rfl) (ls := [some (.ref 0), some (.int (s (c3 + 2) a4.toNatClampNeg))]) rfl ?_
                refine q_aload_n (pc' := 1) ja_C_partyOf_0 rfl rfl ?_
                refine q_iload_n (pc' := 2) ja_C_partyOf_1 rfl rfl ?_
                refine q_virt (pc' := 5) (c := 0) (as := [.int (s (c3 + 2) a4.toNatClampNeg)]) (r := []) ja_C_partyOf_2 rfl rfl rfl (by decide) ⟨rfl, by decide⟩ ?_
                refine q_in (M := jm_C_isMember) rfl (Nat.le_of_ble_eq_true rfl) (ls := [some (.ref 0), some (.int (s (c3 + 2) a4.toNatClampNeg))]) rfl ?_
                refine q_iload_n (pc' := 1) ja_C_isMember_0 rfl rfl ?_
                refine q_if_lt (pc' := 4) ja_C_isMember_1 rfl ?_ ?_
                · intro h16
                  refine q_iconst (pc' := 26) ja_C_isMember_25 rfl 0 (by decide) ?_
                  refine q_iret ja_C_isMember_26 rfl (by decide) ?_
                  show q_W _ _ _ _ 5 [some (.ref 0), some (.int (s (c3 + 2) a4.toNatClampNeg))] [.int 0] s
                  refine q_if_eq (pc' := 8) ja_C_partyOf_5 rfl (fun _ => ?_) (fun h => absurd ((by decide : (0 : Int32) = 0)) h)
                  refine q_iconst (pc' := 21) ja_C_partyOf_20 rfl 0 (by decide) ?_
                  refine q_iret ja_C_partyOf_21 rfl rfl ?_
                  show q_W _ _ _ _ 140 [some (.ref 0), some (.ref c1), some (.ref c2), some (.ref c3), some (.int a4), some (.int a5), some (.int (s (c3 + 1) a4.toNatClampNeg))] [.int 0, .int (s c1 0)] s
                  refine q_ic_ne (pc' := 143) ja_C_choice_140 rfl ?_ ?_
                  · intro h17
                    refine q_iconst (pc' := 148) ja_C_choice_147 rfl 2 (by decide) ?_
                    exact q_iret ja_C_choice_148 rfl rfl (k11 h2 h4 h6 h8 h10 h11 h12 h13 h14 h15 h16 h17)
                  · intro h18
                    refine q_iconst (pc' := 144) ja_C_choice_143 rfl 1 (by decide) ?_
                    refine q_goto ja_C_choice_144 ?_
                    exact q_iret ja_C_choice_148 rfl rfl (k12 h2 h4 h6 h8 h10 h11 h12 h13 h14 h15 h16 h18)
                · intro h19
                  refine q_iload_n (pc' := 5) ja_C_isMember_4 rfl rfl ?_
                  refine q_aload_n (pc' := 6) ja_C_isMember_5 rfl rfl ?_
                  refine q_getf (pc' := 9) (v := .int (s 0 1)) ja_C_isMember_6 rfl (by decide) ⟨rfl, by decide⟩ rfl ?_
                  refine q_ic_ge (pc' := 12) ja_C_isMember_9 rfl ?_ ?_
                  · intro h20
                    refine q_iconst (pc' := 26) ja_C_isMember_25 rfl 0 (by decide) ?_
                    refine q_iret ja_C_isMember_26 rfl (by decide) ?_
                    show q_W _ _ _ _ 5 [some (.ref 0), some (.int (s (c3 + 2) a4.toNatClampNeg))] [.int 0] s
                    refine q_if_eq (pc' := 8) ja_C_partyOf_5 rfl (fun _ => ?_) (fun h => absurd ((by decide : (0 : Int32) = 0)) h)
                    refine q_iconst (pc' := 21) ja_C_partyOf_20 rfl 0 (by decide) ?_
                    refine q_iret ja_C_partyOf_21 rfl rfl ?_
                    show q_W _ _ _ _ 140 [some (.ref 0), some (.ref c1), some (.ref c2), some (.ref c3), some (.int a4), some (.int a5), some (.int (s (c3 + 1) a4.toNatClampNeg))] [.int 0, .int (s c1 0)] s
                    refine q_ic_ne (pc' := 143) ja_C_choice_140 rfl ?_ ?_
                    · intro h21
                      refine q_iconst (pc' := 148) ja_C_choice_147 rfl 2 (by decide) ?_
                      exact q_iret ja_C_choice_148 rfl rfl (k13 h2 h4 h6 h8 h10 h11 h12 h13 h14 h15 h19 h20 h21)
                    · intro h22
                      refine q_iconst (pc' := 144) ja_C_choice_143 rfl 1 (by decide) ?_
                      refine q_goto ja_C_choice_144 ?_
                      exact q_iret ja_C_choice_148 rfl rfl (k14 h2 h4 h6 h8 h10 h11 h12 h13 h14 h15 h19 h20 h22)
                  · intro h23
                    refine q_iload_n (pc' := 13) ja_C_isMember_12 rfl rfl ?_
                    refine q_aload_n (pc' := 14) ja_C_isMember_13 rfl rfl ?_
                    refine q_getf (pc' := 17) (v := .ref 1) ja_C_isMember_14 rfl (by decide) ⟨rfl, by decide⟩ rfl ?_
                    refine q_alen (pc' := 18) ja_C_isMember_17 rfl (by decide) (kd := 16) (l := 15) rfl (by decide) (v := 15) (by decide) ?_
                    refine q_ic_ge (pc' := 21) ja_C_isMember_18 rfl ?_ ?_
                    · intro h24
                      refine q_iconst (pc' := 26) ja_C_isMember_25 rfl 0 (by decide) ?_
                      refine q_iret ja_C_isMember_26 rfl (by decide) ?_
                      show q_W _ _ _ _ 5 [some (.ref 0), some (.int (s (c3 + 2) a4.toNatClampNeg))] [.int 0] s
                      refine q_if_eq (pc' := 8) ja_C_partyOf_5 rfl (fun _ => ?_) (fun h => absurd ((by decide : (0 : Int32) = 0)) h)
                      refine q_iconst (pc' := 21) ja_C_partyOf_20 rfl 0 (by decide) ?_
                      refine q_iret ja_C_partyOf_21 rfl rfl ?_
                      show q_W _ _ _ _ 140 [some (.ref 0), some (.ref c1), some (.ref c2), some (.ref c3), some (.int a4), some (.int a5), some (.int (s (c3 + 1) a4.toNatClampNeg))] [.int 0, .int (s c1 0)] s
                      refine q_ic_ne (pc' := 143) ja_C_choice_140 rfl ?_ ?_
                      · intro h25
                        refine q_iconst (pc' := 148) ja_C_choice_147 rfl 2 (by decide) ?_
                        exact q_iret ja_C_choice_148 rfl rfl (k15 h2 h4 h6 h8 h10 h11 h12 h13 h14 h15 h19 h23 h24 h25)
                      · intro h26
                        refine q_iconst (pc' := 144) ja_C_choice_143 rfl 1 (by decide) ?_
                        refine q_goto ja_C_choice_144 ?_
                        exact q_iret ja_C_choice_148 rfl rfl (k16 h2 h4 h6 h8 h10 h11 h12 h13 h14 h15 h19 h23 h24 h26)
                    · intro h27
                      refine q_iconst (pc' := 22) ja_C_isMember_21 rfl 1 (by decide) ?_
                      refine q_goto ja_C_isMember_22 ?_
                      refine q_iret ja_C_isMember_26 rfl (by decide) ?_
                      show q_W _ _ _ _ 5 [some (.ref 0), some (.int (s (c3 + 2) a4.toNatClampNeg))] [.int 1] s
                      refine q_if_eq (pc' := 8) ja_C_partyOf_5 rfl (fun h => absurd h ((by decide : ¬ (1 : Int32) = 0))) (fun _ => ?_)
                      refine q_aload_n (pc' := 9) ja_C_partyOf_8 rfl rfl ?_
                      refine q_getf (pc' := 12) (v := .ref 1) ja_C_partyOf_9 rfl (by decide) ⟨rfl, by decide⟩ rfl ?_
                      refine q_iload_n (pc' := 13) ja_C_partyOf_12 rfl rfl ?_
                      refine q_aald (pc' := 14) (v := .ref (2 + 2 * (s (c3 + 2) a4.toNatClampNeg).toNatClampNeg)) ja_C_partyOf_13 rfl (by decide) (kd := 16) (l := 15) rfl (by decide) (q_inr (l := 15) (by decide) h19 h27) (f_A1 (f_in (q_inr (l := 15) (by decide) h19 h27))) ?_
                      refine q_getf (pc' := 17) (v := .int (s (2 + 2 * (s (c3 + 2) a4.toNatClampNeg).toNatClampNeg) 0)) ja_C_partyOf_14 rfl (f_5_c (f_m1 (f_in (q_inr (l := 15) (by decide) h19 h27)))) ⟨by rw [f_5_k (f_m1 (f_in (q_inr (l := 15) (by decide) h19 h27)))], by decide⟩ (f_i (f_5_k (f_m1 (f_in (q_inr (l := 15) (by decide) h19 h27)))) rfl) ?_
                      refine q_goto ja_C_partyOf_17 ?_
                      refine q_iret ja_C_partyOf_21 rfl rfl ?_
                      show q_W _ _ _ _ 140 [some (.ref 0), some (.ref c1), some (.ref c2), some (.ref c3), some (.int a4), some (.int a5), some (.int (s (c3 + 1) a4.toNatClampNeg))] [.int (s (2 + 2 * (s (c3 + 2) a4.toNatClampNeg).toNatClampNeg) 0), .int (s c1 0)] s
                      refine q_ic_ne (pc' := 143) ja_C_choice_140 rfl ?_ ?_
                      · intro h28
                        refine q_iconst (pc' := 148) ja_C_choice_147 rfl 2 (by decide) ?_
                        exact q_iret ja_C_choice_148 rfl rfl (k17 h2 h4 h6 h8 h10 h11 h12 h13 h14 h15 h19 h23 h27 h28)
                      · intro h29
                        refine q_iconst (pc' := 144) ja_C_choice_143 rfl 1 (by decide) ?_
                        refine q_goto ja_C_choice_144 ?_
                        exact q_iret ja_C_choice_148 rfl rfl (k18 h2 h4 h6 h8 h10 h11 h12 h13 h14 h15 h19 h23 h27 h29)
              refine q_swD (pc' := 149) ja_C_choice_49 [0, 4, 5, 6] (List.forall_mem_cons.mpr ⟨fun e => h12 (by rw [e]; decide), (List.forall_mem_cons.mpr ⟨fun e => h13 (by rw [e]; decide), (List.forall_mem_cons.mpr ⟨fun e => h14 (by rw [e]; decide), (List.forall_mem_cons.mpr ⟨fun e => h15 (by rw [e]; decide), (List.forall_mem_nil _)⟩)⟩)⟩)⟩) (by decide) rfl ?_
              refine q_aload_n (pc' := 150) ja_C_choice_149 rfl rfl ?_
              refine q_aload_n (pc' := 151) ja_C_choice_150 rfl rfl ?_
              refine q_iload (pc' := 153) ja_C_choice_151 rfl rfl ?_
              refine q_iload (pc' := 155) ja_C_choice_153 rfl rfl ?_
              refine q_aload_n (pc' := 156) ja_C_choice_155 rfl rfl ?_
              refine q_getf (pc' := 159) (v := .ref (c3 + 4)) ja_C_choice_156 rfl (f_6_c hc3) ⟨by rw [f_6_k hc3], by decide⟩ (f_6_g5 hc3) ?_
              refine q_iload (pc' := 161) ja_C_choice_159 rfl rfl ?_
              refine q_iald (pc' := 162) (v := .int (s (c3 + 4) a4.toNatClampNeg)) ja_C_choice_161 rfl (f_a_c (f_6_s5 hc3)) (l := Lc3) (f_a_k (f_6_s5 hc3)) (k19 h2 h4 h6 h8 h10 h11 h12 h13 h14 h15) (f_i (f_a_k (f_6_s5 hc3)) rfl) ?_
              refine q_virt (pc' := 165) (c := c2) (as := [.ref c1, .int (s (c3 + 1) a4.toNatClampNeg), .int a5, .int (s (c3 + 4) a4.toNatClampNeg)]) (r := []) ja_C_choice_162 rfl rfl rfl (f_8_c hc2) ⟨by rw [f_8_k hc2], by decide⟩ ?_
              refine q_in (M := jm_Sections_gain) rfl (Nat.le_of_ble_eq_true rfl) (ls := [some (.ref c2), some (.ref c1), some (.int (s (c3 + 1) a4.toNatClampNeg)), some (.int a5), some (.int (s (c3 + 4) a4.toNatClampNeg)), none, none]) rfl ?_
              refine q_aload_n (pc' := 1) ja_Sections_gain_0 rfl rfl ?_
              refine q_iload_n (pc' := 2) ja_Sections_gain_1 rfl rfl ?_
              refine q_iload_n (pc' := 3) ja_Sections_gain_2 rfl rfl ?_
              refine q_virt (pc' := 6) (c := c2) (as := [.int (s (c3 + 1) a4.toNatClampNeg), .int a5]) (r := []) ja_Sections_gain_3 rfl rfl rfl (f_8_c hc2) ⟨by rw [f_8_k hc2], by decide⟩ ?_
              refine q_in (M := jm_Sections_canChange) rfl (Nat.le_of_ble_eq_true rfl) (ls := [some (.ref c2), some (.int (s (c3 + 1) a4.toNatClampNeg)), some (.int a5)]) rfl ?_
              refine q_iload_n (pc' := 1) ja_Sections_canChange_0 rfl rfl ?_
              refine q_if_lt (pc' := 4) ja_Sections_canChange_1 rfl ?_ ?_
              · intro h30
                refine q_iconst (pc' := 45) ja_Sections_canChange_44 rfl 0 (by decide) ?_
                refine q_iret ja_Sections_canChange_45 rfl (by decide) ?_
                show q_W _ _ _ _ 6 [some (.ref c2), some (.ref c1), some (.int (s (c3 + 1) a4.toNatClampNeg)), some (.int a5), some (.int (s (c3 + 4) a4.toNatClampNeg)), none, none] [.int 0] s
                refine q_if_ne (pc' := 9) ja_Sections_gain_6 rfl (fun h => absurd ((by decide : (0 : Int32) = 0)) h) (fun _ => ?_)
                refine q_iconst (pc' := 10) ja_Sections_gain_9 rfl 0 (by decide) ?_
                refine q_iret ja_Sections_gain_10 rfl rfl ?_
                show q_W _ _ _ _ 165 [some (.ref 0), some (.ref c1), some (.ref c2), some (.ref c3), some (.int a4), some (.int a5), some (.int (s (c3 + 1) a4.toNatClampNeg))] [.int 0] s
                refine q_stat (pc' := 168) (as := [.int 0]) (r := []) ja_C_choice_165 rfl (by decide) rfl rfl ?_
                refine q_in (M := jm_C_bySign) rfl (Nat.le_of_ble_eq_true rfl) (ls := [some (.int 0)]) rfl ?_
                refine q_iload_n (pc' := 1) ja_C_bySign_0 rfl rfl ?_
                refine q_if_le (pc' := 4) ja_C_bySign_1 rfl (fun _ => ?_) (fun h => absurd ((by decide : (0 : Int32) ≤ 0)) h)
                refine q_iload_n (pc' := 9) ja_C_bySign_8 rfl rfl ?_
                refine q_if_ge (pc' := 12) ja_C_bySign_9 rfl (fun _ => ?_) (fun h => absurd h ((by decide : ¬ (0 : Int32) < 0)))
                refine q_iconst (pc' := 17) ja_C_bySign_16 rfl 0 (by decide) ?_
                refine q_iret ja_C_bySign_17 rfl rfl ?_
                show q_W _ _ _ _ 168 [some (.ref 0), some (.ref c1), some (.ref c2), some (.ref c3), some (.int a4), some (.int a5), some (.int (s (c3 + 1) a4.toNatClampNeg))] [.int 0] s
                exact q_iret ja_C_choice_168 rfl rfl (k20 h2 h4 h6 h8 h10 h11 h12 h13 h14 h15 h30)
              · intro h31
                refine q_iload_n (pc' := 5) ja_Sections_canChange_4 rfl rfl ?_
                refine q_iconst (pc' := 6) ja_Sections_canChange_5 rfl 2 (by decide) ?_
                refine q_ic_ne (pc' := 9) ja_Sections_canChange_6 rfl ?_ ?_
                · intro h32
                  refine q_iload_n (pc' := 33) ja_Sections_canChange_32 rfl rfl ?_
                  refine q_aload_n (pc' := 34) ja_Sections_canChange_33 rfl rfl ?_
                  refine q_getf (pc' := 37) (v := .int (s c2 0)) ja_Sections_canChange_34 rfl (f_8_c hc2) ⟨by rw [f_8_k hc2], by decide⟩ (f_i (f_8_k hc2) rfl) ?_
                  refine q_ic_ge (pc' := 40) ja_Sections_canChange_37 rfl ?_ ?_
                  · intro h33
                    refine q_iconst (pc' := 45) ja_Sections_canChange_44 rfl 0 (by decide) ?_
                    refine q_iret ja_Sections_canChange_45 rfl (by decide) ?_
                    show q_W _ _ _ _ 6 [some (.ref c2), some (.ref c1), some (.int (s (c3 + 1) a4.toNatClampNeg)), some (.int a5), some (.int (s (c3 + 4) a4.toNatClampNeg)), none, none] [.int 0] s
                    refine q_if_ne (pc' := 9) ja_Sections_gain_6 rfl (fun h => absurd ((by decide : (0 : Int32) = 0)) h) (fun _ => ?_)
                    refine q_iconst (pc' := 10) ja_Sections_gain_9 rfl 0 (by decide) ?_
                    refine q_iret ja_Sections_gain_10 rfl rfl ?_
                    show q_W _ _ _ _ 165 [some (.ref 0), some (.ref c1), some (.ref c2), some (.ref c3), some (.int a4), some (.int a5), some (.int (s (c3 + 1) a4.toNatClampNeg))] [.int 0] s
                    refine q_stat (pc' := 168) (as := [.int 0]) (r := []) ja_C_choice_165 rfl (by decide) rfl rfl ?_
                    refine q_in (M := jm_C_bySign) rfl (Nat.le_of_ble_eq_true rfl) (ls := [some (.int 0)]) rfl ?_
                    refine q_iload_n (pc' := 1) ja_C_bySign_0 rfl rfl ?_
                    refine q_if_le (pc' := 4) ja_C_bySign_1 rfl (fun _ => ?_) (fun h => absurd ((by decide : (0 : Int32) ≤ 0)) h)
                    refine q_iload_n (pc' := 9) ja_C_bySign_8 rfl rfl ?_
                    refine q_if_ge (pc' := 12) ja_C_bySign_9 rfl (fun _ => ?_) (fun h => absurd h ((by decide : ¬ (0 : Int32) < 0)))
                    refine q_iconst (pc' := 17) ja_C_bySign_16 rfl 0 (by decide) ?_
                    refine q_iret ja_C_bySign_17 rfl rfl ?_
                    show q_W _ _ _ _ 168 [some (.ref 0), some (.ref c1), some (.ref c2), some (.ref c3), some (.int a4), some (.int a5), some (.int (s (c3 + 1) a4.toNatClampNeg))] [.int 0] s
                    exact q_iret ja_C_choice_168 rfl rfl (k21 h2 h4 h6 h8 h10 h11 h12 h13 h14 h15 h31 h32 h33)
                  · intro h34
                    refine q_iconst (pc' := 41) ja_Sections_canChange_40 rfl 1 (by decide) ?_
                    refine q_goto ja_Sections_canChange_41 ?_
                    refine q_iret ja_Sections_canChange_45 rfl (by decide) ?_
                    show q_W _ _ _ _ 6 [some (.ref c2), some (.ref c1), some (.int (s (c3 + 1) a4.toNatClampNeg)), some (.int a5), some (.int (s (c3 + 4) a4.toNatClampNeg)), none, none] [.int 1] s
                    refine q_if_ne (pc' := 9) ja_Sections_gain_6 rfl (fun _ => ?_) (fun h => absurd h ((by decide : ¬ (1 : Int32) = 0)))
                    refine q_iload_n (pc' := 12) ja_Sections_gain_11 rfl rfl ?_
                    refine q_iconst (pc' := 13) ja_Sections_gain_12 rfl 1 (by decide) ?_
                    refine q_ic_ne (pc' := 16) ja_Sections_gain_13 rfl ?_ ?_
                    · intro h35
                      refine q_aload_n (pc' := 21) ja_Sections_gain_20 rfl rfl ?_
                      refine q_iload (pc' := 23) ja_Sections_gain_21 rfl rfl ?_
                      refine q_virt (pc' := 26) (c := c1) (as := [.int (s (c3 + 4) a4.toNatClampNeg)]) (r := []) ja_Sections_gain_23 rfl rfl rfl (f_5_c hc1) ⟨by rw [f_5_k hc1], by decide⟩ ?_
                      refine q_in (M := jm_Member_liking) rfl (Nat.le_of_ble_eq_true rfl) (ls := [some (.ref c1), some (.int (s (c3 + 4) a4.toNatClampNeg))]) rfl ?_
                      refine q_iload_n (pc' := 1) ja_Member_liking_0 rfl rfl ?_
                      refine q_if_lt (pc' := 4) ja_Member_liking_1 rfl ?_ ?_
                      · intro h36
                        refine q_iconst (pc' := 23) ja_Member_liking_22 rfl 0 (by decide) ?_
                        refine q_iret ja_Member_liking_23 rfl rfl ?_
                        show q_W _ _ _ _ 26 [some (.ref c2), some (.ref c1), some (.int (s (c3 + 1) a4.toNatClampNeg)), some (.int a5), some (.int (s (c3 + 4) a4.toNatClampNeg)), none, none] [.int 0] s
                        refine q_istore (pc' := 28) (ls' := [some (.ref c2), some (.ref c1), some (.int (s (c3 + 1) a4.toNatClampNeg)), some (.int a5), some (.int (s (c3 + 4) a4.toNatClampNeg)), some (.int 0), none]) ja_Sections_gain_26 rfl ⟨Nat.le_of_ble_eq_true rfl, rfl⟩ rfl ?_
                        refine q_iload_n (pc' := 29) ja_Sections_gain_28 rfl rfl ?_
                        refine q_iconst (pc' := 30) ja_Sections_gain_29 rfl 2 (by decide) ?_
                        refine q_ic_ne (pc' := 33) ja_Sections_gain_30 rfl (fun _ => ?_) (fun h => absurd h (h32))
                        refine q_aload_n (pc' := 38) ja_Sections_gain_37 rfl rfl ?_
                        refine q_aload_n (pc' := 39) ja_Sections_gain_38 rfl rfl ?_
                        refine q_iload_n (pc' := 40) ja_Sections_gain_39 rfl rfl ?_
                        refine q_virt (pc' := 43) (c := c2) (as := [.int a5]) (r := [.ref c1]) ja_Sections_gain_40 rfl rfl rfl (f_8_c hc2) ⟨by rw [f_8_k hc2], by decide⟩ ?_
                        refine q_in (M := jm_Sections_wordAt) rfl (Nat.le_of_ble_eq_true rfl) (ls := [some (.ref c2), some (.int a5)]) rfl ?_
                        refine q_iload_n (pc' := 1) ja_Sections_wordAt_0 rfl rfl ?_
                        refine q_if_lt (pc' := 4) ja_Sections_wordAt_1 rfl (fun h => absurd h (h31)) (fun _ => ?_)
                        refine q_iload_n (pc' := 5) ja_Sections_wordAt_4 rfl rfl ?_
                        refine q_aload_n (pc' := 6) ja_Sections_wordAt_5 rfl rfl ?_
                        refine q_getf (pc' := 9) (v := .int (s c2 0)) ja_Sections_wordAt_6 rfl (f_8_c hc2) ⟨by rw [f_8_k hc2], by decide⟩ (f_i (f_8_k hc2) rfl) ?_
                        refine q_ic_ge (pc' := 12) ja_Sections_wordAt_9 rfl (fun h => absurd (h34) h) (fun _ => ?_)
                        refine q_iload_n (pc' := 13) ja_Sections_wordAt_12 rfl rfl ?_
                        refine q_aload_n (pc' := 14) ja_Sections_wordAt_13 rfl rfl ?_
                        refine q_getf (pc' := 17) (v := .ref (c2 + 1)) ja_Sections_wordAt_14 rfl (f_8_c hc2) ⟨by rw [f_8_k hc2], by decide⟩ (f_8_g1 hc2) ?_
                        refine q_alen (pc' := 18) ja_Sections_wordAt_17 rfl (f_a_c (f_8_s1 hc2)) (kd := 13) (l := 10) (f_a_k (f_8_s1 hc2)) (by decide) (v := 10) (by decide) ?_
                        refine q_ic_ge (pc' := 21) ja_Sections_wordAt_18 rfl ?_ ?_
                        · intro h37
                          refine q_iconst (pc' := 31) ja_Sections_wordAt_30 rfl (-1) (by decide) ?_
                          refine q_iret ja_Sections_wordAt_31 rfl rfl ?_
                          show q_W _ _ _ _ 43 [some (.ref c2), some (.ref c1), some (.int (s (c3 + 1) a4.toNatClampNeg)), some (.int a5), some (.int (s (c3 + 4) a4.toNatClampNeg)), some (.int 0), none] [.int (-1), .ref c1] s
                          refine q_virt (pc' := 46) (c := c1) (as := [.int (-1)]) (r := []) ja_Sections_gain_43 rfl rfl rfl (f_5_c hc1) ⟨by rw [f_5_k hc1], by decide⟩ ?_
                          refine q_in (M := jm_Member_liking) rfl (Nat.le_of_ble_eq_true rfl) (ls := [some (.ref c1), some (.int (-1))]) rfl ?_
                          refine q_iload_n (pc' := 1) ja_Member_liking_0 rfl rfl ?_
                          refine q_if_lt (pc' := 4) ja_Member_liking_1 rfl (fun _ => ?_) (fun h => absurd ((by decide : (-1 : Int32) < 0)) h)
                          refine q_iconst (pc' := 23) ja_Member_liking_22 rfl 0 (by decide) ?_
                          refine q_iret ja_Member_liking_23 rfl rfl ?_
                          show q_W _ _ _ _ 46 [some (.ref c2), some (.ref c1), some (.int (s (c3 + 1) a4.toNatClampNeg)), some (.int a5), some (.int (s (c3 + 4) a4.toNatClampNeg)), some (.int 0), none] [.int 0] s
                          refine q_istore (pc' := 48) (ls' := [some (.ref c2), some (.ref c1), some (.int (s (c3 + 1) a4.toNatClampNeg)), some (.int a5), some (.int (s (c3 + 4) a4.toNatClampNeg)), some (.int 0), some (.int 0)]) ja_Sections_gain_46 rfl ⟨Nat.le_of_ble_eq_true rfl, rfl⟩ rfl ?_
                          refine q_iload (pc' := 50) ja_Sections_gain_48 rfl rfl ?_
                          refine q_iload (pc' := 52) ja_Sections_gain_50 rfl rfl ?_
                          refine q_isub (pc' := 53) ja_Sections_gain_52 rfl ?_
                          rw [show ((0 - 0) : Int32) = 0 from by decide]
                          refine q_iret ja_Sections_gain_53 rfl rfl ?_
                          show q_W _ _ _ _ 165 [some (.ref 0), some (.ref c1), some (.ref c2), some (.ref c3), some (.int a4), some (.int a5), some (.int (s (c3 + 1) a4.toNatClampNeg))] [.int 0] s
                          refine q_stat (pc' := 168) (as := [.int 0]) (r := []) ja_C_choice_165 rfl (by decide) rfl rfl ?_
                          refine q_in (M := jm_C_bySign) rfl (Nat.le_of_ble_eq_true rfl) (ls := [some (.int 0)]) rfl ?_
                          refine q_iload_n (pc' := 1) ja_C_bySign_0 rfl rfl ?_
                          refine q_if_le (pc' := 4) ja_C_bySign_1 rfl (fun _ => ?_) (fun h => absurd ((by decide : (0 : Int32) ≤ 0)) h)
                          refine q_iload_n (pc' := 9) ja_C_bySign_8 rfl rfl ?_
                          refine q_if_ge (pc' := 12) ja_C_bySign_9 rfl (fun _ => ?_) (fun h => absurd h ((by decide : ¬ (0 : Int32) < 0)))
                          refine q_iconst (pc' := 17) ja_C_bySign_16 rfl 0 (by decide) ?_
                          refine q_iret ja_C_bySign_17 rfl rfl ?_
                          show q_W _ _ _ _ 168 [some (.ref 0), some (.ref c1), some (.ref c2), some (.ref c3), some (.int a4), some (.int a5), some (.int (s (c3 + 1) a4.toNatClampNeg))] [.int 0] s
                          exact q_iret ja_C_choice_168 rfl rfl (k22 h2 h4 h6 h8 h10 h11 h12 h13 h14 h15 h31 h32 h34 h35 h36 h37)
                        · intro h38
                          refine q_aload_n (pc' := 22) ja_Sections_wordAt_21 rfl rfl ?_
                          refine q_getf (pc' := 25) (v := .ref (c2 + 1)) ja_Sections_wordAt_22 rfl (f_8_c hc2) ⟨by rw [f_8_k hc2], by decide⟩ (f_8_g1 hc2) ?_
                          refine q_iload_n (pc' := 26) ja_Sections_wordAt_25 rfl rfl ?_
                          refine q_iald (pc' := 27) (v := .int (s (c2 + 1) a5.toNatClampNeg)) ja_Sections_wordAt_26 rfl (f_a_c (f_8_s1 hc2)) (l := 10) (f_a_k (f_8_s1 hc2)) (q_inr (l := 10) (by decide) h31 h38) (f_i (f_a_k (f_8_s1 hc2)) rfl) ?_
                          refine q_goto ja_Sections_wordAt_27 ?_
                          refine q_iret ja_Sections_wordAt_31 rfl rfl ?_
                          show q_W _ _ _ _ 43 [some (.ref c2), some (.ref c1), some (.int (s (c3 + 1) a4.toNatClampNeg)), some (.int a5), some (.int (s (c3 + 4) a4.toNatClampNeg)), some (.int 0), none] [.int (s (c2 + 1) a5.toNatClampNeg), .ref c1] s
                          refine q_virt (pc' := 46) (c := c1) (as := [.int (s (c2 + 1) a5.toNatClampNeg)]) (r := []) ja_Sections_gain_43 rfl rfl rfl (f_5_c hc1) ⟨by rw [f_5_k hc1], by decide⟩ ?_
                          refine q_in (M := jm_Member_liking) rfl (Nat.le_of_ble_eq_true rfl) (ls := [some (.ref c1), some (.int (s (c2 + 1) a5.toNatClampNeg))]) rfl ?_
                          refine q_iload_n (pc' := 1) ja_Member_liking_0 rfl rfl ?_
                          refine q_if_lt (pc' := 4) ja_Member_liking_1 rfl ?_ ?_
                          · intro h39
                            refine q_iconst (pc' := 23) ja_Member_liking_22 rfl 0 (by decide) ?_
                            refine q_iret ja_Member_liking_23 rfl rfl ?_
                            show q_W _ _ _ _ 46 [some (.ref c2), some (.ref c1), some (.int (s (c3 + 1) a4.toNatClampNeg)), some (.int a5), some (.int (s (c3 + 4) a4.toNatClampNeg)), some (.int 0), none] [.int 0] s
                            refine q_istore (pc' := 48) (ls' := [some (.ref c2), some (.ref c1), some (.int (s (c3 + 1) a4.toNatClampNeg)), some (.int a5), some (.int (s (c3 + 4) a4.toNatClampNeg)), some (.int 0), some (.int 0)]) ja_Sections_gain_46 rfl ⟨Nat.le_of_ble_eq_true rfl, rfl⟩ rfl ?_
                            refine q_iload (pc' := 50) ja_Sections_gain_48 rfl rfl ?_
                            refine q_iload (pc' := 52) ja_Sections_gain_50 rfl rfl ?_
                            refine q_isub (pc' := 53) ja_Sections_gain_52 rfl ?_
                            rw [show ((0 - 0) : Int32) = 0 from by decide]
                            refine q_iret ja_Sections_gain_53 rfl rfl ?_
                            show q_W _ _ _ _ 165 [some (.ref 0), some (.ref c1), some (.ref c2), some (.ref c3), some (.int a4), some (.int a5), some (.int (s (c3 + 1) a4.toNatClampNeg))] [.int 0] s
                            refine q_stat (pc' := 168) (as := [.int 0]) (r := []) ja_C_choice_165 rfl (by decide) rfl rfl ?_
                            refine q_in (M := jm_C_bySign) rfl (Nat.le_of_ble_eq_true rfl) (ls := [some (.int 0)]) rfl ?_
                            refine q_iload_n (pc' := 1) ja_C_bySign_0 rfl rfl ?_
                            refine q_if_le (pc' := 4) ja_C_bySign_1 rfl (fun _ => ?_) (fun h => absurd ((by decide : (0 : Int32) ≤ 0)) h)
                            refine q_iload_n (pc' := 9) ja_C_bySign_8 rfl rfl ?_
                            refine q_if_ge (pc' := 12) ja_C_bySign_9 rfl (fun _ => ?_) (fun h => absurd h ((by decide : ¬ (0 : Int32) < 0)))
                            refine q_iconst (pc' := 17) ja_C_bySign_16 rfl 0 (by decide) ?_
                            refine q_iret ja_C_bySign_17 rfl rfl ?_
                            show q_W _ _ _ _ 168 [some (.ref 0), some (.ref c1), some (.ref c2), some (.ref c3), some (.int a4), some (.int a5), some (.int (s (c3 + 1) a4.toNatClampNeg))] [.int 0] s
                            exact q_iret ja_C_choice_168 rfl rfl (k23 h2 h4 h6 h8 h10 h11 h12 h13 h14 h15 h31 h32 h34 h35 h36 h38 h39)
                          · intro h40
                            refine q_iload_n (pc' := 5) ja_Member_liking_4 rfl rfl ?_
                            refine q_aload_n (pc' := 6) ja_Member_liking_5 rfl rfl ?_
                            refine q_getf (pc' := 9) (v := .ref (c1 + 1)) ja_Member_liking_6 rfl (f_5_c hc1) ⟨by rw [f_5_k hc1], by decide⟩ (f_5_g4 hc1) ?_
                            refine q_alen (pc' := 10) ja_Member_liking_9 rfl (f_a_c (f_5_s4 hc1)) (kd := 13) (l := 61) (f_a_k (f_5_s4 hc1)) (by decide) (v := 61) (by decide) ?_
                            refine q_ic_ge (pc' := 13) ja_Member_liking_10 rfl ?_ ?_
                            · intro h41
                              refine q_iconst (pc' := 23) ja_Member_liking_22 rfl 0 (by decide) ?_
                              refine q_iret ja_Member_liking_23 rfl rfl ?_
                              show q_W _ _ _ _ 46 [some (.ref c2), some (.ref c1), some (.int (s (c3 + 1) a4.toNatClampNeg)), some (.int a5), some (.int (s (c3 + 4) a4.toNatClampNeg)), some (.int 0), none] [.int 0] s
                              refine q_istore (pc' := 48) (ls' := [some (.ref c2), some (.ref c1), some (.int (s (c3 + 1) a4.toNatClampNeg)), some (.int a5), some (.int (s (c3 + 4) a4.toNatClampNeg)), some (.int 0), some (.int 0)]) ja_Sections_gain_46 rfl ⟨Nat.le_of_ble_eq_true rfl, rfl⟩ rfl ?_
                              refine q_iload (pc' := 50) ja_Sections_gain_48 rfl rfl ?_
                              refine q_iload (pc' := 52) ja_Sections_gain_50 rfl rfl ?_
                              refine q_isub (pc' := 53) ja_Sections_gain_52 rfl ?_
                              rw [show ((0 - 0) : Int32) = 0 from by decide]
                              refine q_iret ja_Sections_gain_53 rfl rfl ?_
                              show q_W _ _ _ _ 165 [some (.ref 0), some (.ref c1), some (.ref c2), some (.ref c3), some (.int a4), some (.int a5), some (.int (s (c3 + 1) a4.toNatClampNeg))] [.int 0] s
                              refine q_stat (pc' := 168) (as := [.int 0]) (r := []) ja_C_choice_165 rfl (by decide) rfl rfl ?_
                              refine q_in (M := jm_C_bySign) rfl (Nat.le_of_ble_eq_true rfl) (ls := [some (.int 0)]) rfl ?_
                              refine q_iload_n (pc' := 1) ja_C_bySign_0 rfl rfl ?_
                              refine q_if_le (pc' := 4) ja_C_bySign_1 rfl (fun _ => ?_) (fun h => absurd ((by decide : (0 : Int32) ≤ 0)) h)
                              refine q_iload_n (pc' := 9) ja_C_bySign_8 rfl rfl ?_
                              refine q_if_ge (pc' := 12) ja_C_bySign_9 rfl (fun _ => ?_) (fun h => absurd h ((by decide : ¬ (0 : Int32) < 0)))
                              refine q_iconst (pc' := 17) ja_C_bySign_16 rfl 0 (by decide) ?_
                              refine q_iret ja_C_bySign_17 rfl rfl ?_
                              show q_W _ _ _ _ 168 [some (.ref 0), some (.ref c1), some (.ref c2), some (.ref c3), some (.int a4), some (.int a5), some (.int (s (c3 + 1) a4.toNatClampNeg))] [.int 0] s
                              exact q_iret ja_C_choice_168 rfl rfl (k24 h2 h4 h6 h8 h10 h11 h12 h13 h14 h15 h31 h32 h34 h35 h36 h38 h40 h41)
                            · intro h42
                              refine q_aload_n (pc' := 14) ja_Member_liking_13 rfl rfl ?_
                              refine q_getf (pc' := 17) (v := .ref (c1 + 1)) ja_Member_liking_14 rfl (f_5_c hc1) ⟨by rw [f_5_k hc1], by decide⟩ (f_5_g4 hc1) ?_
                              refine q_iload_n (pc' := 18) ja_Member_liking_17 rfl rfl ?_
                              refine q_iald (pc' := 19) (v := .int (s (c1 + 1) (s (c2 + 1) a5.toNatClampNeg).toNatClampNeg)) ja_Member_liking_18 rfl (f_a_c (f_5_s4 hc1)) (l := 61) (f_a_k (f_5_s4 hc1)) (q_inr (l := 61) (by decide) h40 h42) (f_i (f_a_k (f_5_s4 hc1)) rfl) ?_
                              refine q_goto ja_Member_liking_19 ?_
                              refine q_iret ja_Member_liking_23 rfl rfl ?_
                              show q_W _ _ _ _ 46 [some (.ref c2), some (.ref c1), some (.int (s (c3 + 1) a4.toNatClampNeg)), some (.int a5), some (.int (s (c3 + 4) a4.toNatClampNeg)), some (.int 0), none] [.int (s (c1 + 1) (s (c2 + 1) a5.toNatClampNeg).toNatClampNeg)] s
                              refine q_istore (pc' := 48) (ls' := [some (.ref c2), some (.ref c1), some (.int (s (c3 + 1) a4.toNatClampNeg)), some (.int a5), some (.int (s (c3 + 4) a4.toNatClampNeg)), some (.int 0), some (.int (s (c1 + 1) (s (c2 + 1) a5.toNatClampNeg).toNatClampNeg))]) ja_Sections_gain_46 rfl ⟨Nat.le_of_ble_eq_true rfl, rfl⟩ rfl ?_
                              refine q_iload (pc' := 50) ja_Sections_gain_48 rfl rfl ?_
                              refine q_iload (pc' := 52) ja_Sections_gain_50 rfl rfl ?_
                              refine q_isub (pc' := 53) ja_Sections_gain_52 rfl ?_
                              refine q_iret ja_Sections_gain_53 rfl rfl ?_
                              show q_W _ _ _ _ 165 [some (.ref 0), some (.ref c1), some (.ref c2), some (.ref c3), some (.int a4), some (.int a5), some (.int (s (c3 + 1) a4.toNatClampNeg))] [.int (0 - (s (c1 + 1) (s (c2 + 1) a5.toNatClampNeg).toNatClampNeg))] s
                              refine q_stat (pc' := 168) (as := [.int (0 - (s (c1 + 1) (s (c2 + 1) a5.toNatClampNeg).toNatClampNeg))]) (r := []) ja_C_choice_165 rfl (by decide) rfl rfl ?_
                              refine q_in (M := jm_C_bySign) rfl (Nat.le_of_ble_eq_true rfl) (ls := [some (.int (0 - (s (c1 + 1) (s (c2 + 1) a5.toNatClampNeg).toNatClampNeg)))]) rfl ?_
                              refine q_iload_n (pc' := 1) ja_C_bySign_0 rfl rfl ?_
                              refine q_if_le (pc' := 4) ja_C_bySign_1 rfl ?_ ?_
                              · intro h43
                                refine q_iload_n (pc' := 9) ja_C_bySign_8 rfl rfl ?_
                                refine q_if_ge (pc' := 12) ja_C_bySign_9 rfl ?_ ?_
                                · intro h44
                                  refine q_iconst (pc' := 17) ja_C_bySign_16 rfl 0 (by decide) ?_
                                  refine q_iret ja_C_bySign_17 rfl rfl ?_
                                  show q_W _ _ _ _ 168 [some (.ref 0), some (.ref c1), some (.ref c2), some (.ref c3), some (.int a4), some (.int a5), some (.int (s (c3 + 1) a4.toNatClampNeg))] [.int 0] s
                                  exact q_iret ja_C_choice_168 rfl rfl (k25 h2 h4 h6 h8 h10 h11 h12 h13 h14 h15 h31 h32 h34 h35 h36 h38 h40 h42 h43 h44)
                                · intro h45
                                  refine q_iconst (pc' := 13) ja_C_bySign_12 rfl 2 (by decide) ?_
                                  refine q_goto ja_C_bySign_13 ?_
                                  refine q_iret ja_C_bySign_17 rfl rfl ?_
                                  show q_W _ _ _ _ 168 [some (.ref 0), some (.ref c1), some (.ref c2), some (.ref c3), some (.int a4), some (.int a5), some (.int (s (c3 + 1) a4.toNatClampNeg))] [.int 2] s
                                  exact q_iret ja_C_choice_168 rfl rfl (k26 h2 h4 h6 h8 h10 h11 h12 h13 h14 h15 h31 h32 h34 h35 h36 h38 h40 h42 h43 h45)
                              · intro h46
                                refine q_iconst (pc' := 5) ja_C_bySign_4 rfl 1 (by decide) ?_
                                refine q_goto ja_C_bySign_5 ?_
                                refine q_iret ja_C_bySign_17 rfl rfl ?_
                                show q_W _ _ _ _ 168 [some (.ref 0), some (.ref c1), some (.ref c2), some (.ref c3), some (.int a4), some (.int a5), some (.int (s (c3 + 1) a4.toNatClampNeg))] [.int 1] s
                                exact q_iret ja_C_choice_168 rfl rfl (k27 h2 h4 h6 h8 h10 h11 h12 h13 h14 h15 h31 h32 h34 h35 h36 h38 h40 h42 h46)
                      · intro h47
                        refine q_iload_n (pc' := 5) ja_Member_liking_4 rfl rfl ?_
                        refine q_aload_n (pc' := 6) ja_Member_liking_5 rfl rfl ?_
                        refine q_getf (pc' := 9) (v := .ref (c1 + 1)) ja_Member_liking_6 rfl (f_5_c hc1) ⟨by rw [f_5_k hc1], by decide⟩ (f_5_g4 hc1) ?_
                        refine q_alen (pc' := 10) ja_Member_liking_9 rfl (f_a_c (f_5_s4 hc1)) (kd := 13) (l := 61) (f_a_k (f_5_s4 hc1)) (by decide) (v := 61) (by decide) ?_
                        refine q_ic_ge (pc' := 13) ja_Member_liking_10 rfl ?_ ?_
                        · intro h48
                          refine q_iconst (pc' := 23) ja_Member_liking_22 rfl 0 (by decide) ?_
                          refine q_iret ja_Member_liking_23 rfl rfl ?_
                          show q_W _ _ _ _ 26 [some (.ref c2), some (.ref c1), some (.int (s (c3 + 1) a4.toNatClampNeg)), some (.int a5), some (.int (s (c3 + 4) a4.toNatClampNeg)), none, none] [.int 0] s
                          refine q_istore (pc' := 28) (ls' := [some (.ref c2), some (.ref c1), some (.int (s (c3 + 1) a4.toNatClampNeg)), some (.int a5), some (.int (s (c3 + 4) a4.toNatClampNeg)), some (.int 0), none]) ja_Sections_gain_26 rfl ⟨Nat.le_of_ble_eq_true rfl, rfl⟩ rfl ?_
                          refine q_iload_n (pc' := 29) ja_Sections_gain_28 rfl rfl ?_
                          refine q_iconst (pc' := 30) ja_Sections_gain_29 rfl 2 (by decide) ?_
                          refine q_ic_ne (pc' := 33) ja_Sections_gain_30 rfl (fun _ => ?_) (fun h => absurd h (h32))
                          refine q_aload_n (pc' := 38) ja_Sections_gain_37 rfl rfl ?_
                          refine q_aload_n (pc' := 39) ja_Sections_gain_38 rfl rfl ?_
                          refine q_iload_n (pc' := 40) ja_Sections_gain_39 rfl rfl ?_
                          refine q_virt (pc' := 43) (c := c2) (as := [.int a5]) (r := [.ref c1]) ja_Sections_gain_40 rfl rfl rfl (f_8_c hc2) ⟨by rw [f_8_k hc2], by decide⟩ ?_
                          refine q_in (M := jm_Sections_wordAt) rfl (Nat.le_of_ble_eq_true rfl) (ls := [some (.ref c2), some (.int a5)]) rfl ?_
                          refine q_iload_n (pc' := 1) ja_Sections_wordAt_0 rfl rfl ?_
                          refine q_if_lt (pc' := 4) ja_Sections_wordAt_1 rfl (fun h => absurd h (h31)) (fun _ => ?_)
                          refine q_iload_n (pc' := 5) ja_Sections_wordAt_4 rfl rfl ?_
                          refine q_aload_n (pc' := 6) ja_Sections_wordAt_5 rfl rfl ?_
                          refine q_getf (pc' := 9) (v := .int (s c2 0)) ja_Sections_wordAt_6 rfl (f_8_c hc2) ⟨by rw [f_8_k hc2], by decide⟩ (f_i (f_8_k hc2) rfl) ?_
                          refine q_ic_ge (pc' := 12) ja_Sections_wordAt_9 rfl (fun h => absurd (h34) h) (fun _ => ?_)
                          refine q_iload_n (pc' := 13) ja_Sections_wordAt_12 rfl rfl ?_
                          refine q_aload_n (pc' := 14) ja_Sections_wordAt_13 rfl rfl ?_
                          refine q_getf (pc' := 17) (v := .ref (c2 + 1)) ja_Sections_wordAt_14 rfl (f_8_c hc2) ⟨by rw [f_8_k hc2], by decide⟩ (f_8_g1 hc2) ?_
                          refine q_alen (pc' := 18) ja_Sections_wordAt_17 rfl (f_a_c (f_8_s1 hc2)) (kd := 13) (l := 10) (f_a_k (f_8_s1 hc2)) (by decide) (v := 10) (by decide) ?_
                          refine q_ic_ge (pc' := 21) ja_Sections_wordAt_18 rfl ?_ ?_
                          · intro h49
                            refine q_iconst (pc' := 31) ja_Sections_wordAt_30 rfl (-1) (by decide) ?_
                            refine q_iret ja_Sections_wordAt_31 rfl rfl ?_
                            show q_W _ _ _ _ 43 [some (.ref c2), some (.ref c1), some (.int (s (c3 + 1) a4.toNatClampNeg)), some (.int a5), some (.int (s (c3 + 4) a4.toNatClampNeg)), some (.int 0), none] [.int (-1), .ref c1] s
                            refine q_virt (pc' := 46) (c := c1) (as := [.int (-1)]) (r := []) ja_Sections_gain_43 rfl rfl rfl (f_5_c hc1) ⟨by rw [f_5_k hc1], by decide⟩ ?_
                            refine q_in (M := jm_Member_liking) rfl (Nat.le_of_ble_eq_true rfl) (ls := [some (.ref c1), some (.int (-1))]) rfl ?_
                            refine q_iload_n (pc' := 1) ja_Member_liking_0 rfl rfl ?_
                            refine q_if_lt (pc' := 4) ja_Member_liking_1 rfl (fun _ => ?_) (fun h => absurd ((by decide : (-1 : Int32) < 0)) h)
                            refine q_iconst (pc' := 23) ja_Member_liking_22 rfl 0 (by decide) ?_
                            refine q_iret ja_Member_liking_23 rfl rfl ?_
                            show q_W _ _ _ _ 46 [some (.ref c2), some (.ref c1), some (.int (s (c3 + 1) a4.toNatClampNeg)), some (.int a5), some (.int (s (c3 + 4) a4.toNatClampNeg)), some (.int 0), none] [.int 0] s
                            refine q_istore (pc' := 48) (ls' := [some (.ref c2), some (.ref c1), some (.int (s (c3 + 1) a4.toNatClampNeg)), some (.int a5), some (.int (s (c3 + 4) a4.toNatClampNeg)), some (.int 0), some (.int 0)]) ja_Sections_gain_46 rfl ⟨Nat.le_of_ble_eq_true rfl, rfl⟩ rfl ?_
                            refine q_iload (pc' := 50) ja_Sections_gain_48 rfl rfl ?_
                            refine q_iload (pc' := 52) ja_Sections_gain_50 rfl rfl ?_
                            refine q_isub (pc' := 53) ja_Sections_gain_52 rfl ?_
                            rw [show ((0 - 0) : Int32) = 0 from by decide]
                            refine q_iret ja_Sections_gain_53 rfl rfl ?_
                            show q_W _ _ _ _ 165 [some (.ref 0), some (.ref c1), some (.ref c2), some (.ref c3), some (.int a4), some (.int a5), some (.int (s (c3 + 1) a4.toNatClampNeg))] [.int 0] s
                            refine q_stat (pc' := 168) (as := [.int 0]) (r := []) ja_C_choice_165 rfl (by decide) rfl rfl ?_
                            refine q_in (M := jm_C_bySign) rfl (Nat.le_of_ble_eq_true rfl) (ls := [some (.int 0)]) rfl ?_
                            refine q_iload_n (pc' := 1) ja_C_bySign_0 rfl rfl ?_
                            refine q_if_le (pc' := 4) ja_C_bySign_1 rfl (fun _ => ?_) (fun h => absurd ((by decide : (0 : Int32) ≤ 0)) h)
                            refine q_iload_n (pc' := 9) ja_C_bySign_8 rfl rfl ?_
                            refine q_if_ge (pc' := 12) ja_C_bySign_9 rfl (fun _ => ?_) (fun h => absurd h ((by decide : ¬ (0 : Int32) < 0)))
                            refine q_iconst (pc' := 17) ja_C_bySign_16 rfl 0 (by decide) ?_
                            refine q_iret ja_C_bySign_17 rfl rfl ?_
                            show q_W _ _ _ _ 168 [some (.ref 0), some (.ref c1), some (.ref c2), some (.ref c3), some (.int a4), some (.int a5), some (.int (s (c3 + 1) a4.toNatClampNeg))] [.int 0] s
                            exact q_iret ja_C_choice_168 rfl rfl (k28 h2 h4 h6 h8 h10 h11 h12 h13 h14 h15 h31 h32 h34 h35 h47 h48 h49)
                          · intro h50
                            refine q_aload_n (pc' := 22) ja_Sections_wordAt_21 rfl rfl ?_
                            refine q_getf (pc' := 25) (v := .ref (c2 + 1)) ja_Sections_wordAt_22 rfl (f_8_c hc2) ⟨by rw [f_8_k hc2], by decide⟩ (f_8_g1 hc2) ?_
                            refine q_iload_n (pc' := 26) ja_Sections_wordAt_25 rfl rfl ?_
                            refine q_iald (pc' := 27) (v := .int (s (c2 + 1) a5.toNatClampNeg)) ja_Sections_wordAt_26 rfl (f_a_c (f_8_s1 hc2)) (l := 10) (f_a_k (f_8_s1 hc2)) (q_inr (l := 10) (by decide) h31 h50) (f_i (f_a_k (f_8_s1 hc2)) rfl) ?_
                            refine q_goto ja_Sections_wordAt_27 ?_
                            refine q_iret ja_Sections_wordAt_31 rfl rfl ?_
                            show q_W _ _ _ _ 43 [some (.ref c2), some (.ref c1), some (.int (s (c3 + 1) a4.toNatClampNeg)), some (.int a5), some (.int (s (c3 + 4) a4.toNatClampNeg)), some (.int 0), none] [.int (s (c2 + 1) a5.toNatClampNeg), .ref c1] s
                            refine q_virt (pc' := 46) (c := c1) (as := [.int (s (c2 + 1) a5.toNatClampNeg)]) (r := []) ja_Sections_gain_43 rfl rfl rfl (f_5_c hc1) ⟨by rw [f_5_k hc1], by decide⟩ ?_
                            refine q_in (M := jm_Member_liking) rfl (Nat.le_of_ble_eq_true rfl) (ls := [some (.ref c1), some (.int (s (c2 + 1) a5.toNatClampNeg))]) rfl ?_
                            refine q_iload_n (pc' := 1) ja_Member_liking_0 rfl rfl ?_
                            refine q_if_lt (pc' := 4) ja_Member_liking_1 rfl ?_ ?_
                            · intro h51
                              refine q_iconst (pc' := 23) ja_Member_liking_22 rfl 0 (by decide) ?_
                              refine q_iret ja_Member_liking_23 rfl rfl ?_
                              show q_W _ _ _ _ 46 [some (.ref c2), some (.ref c1), some (.int (s (c3 + 1) a4.toNatClampNeg)), some (.int a5), some (.int (s (c3 + 4) a4.toNatClampNeg)), some (.int 0), none] [.int 0] s
                              refine q_istore (pc' := 48) (ls' := [some (.ref c2), some (.ref c1), some (.int (s (c3 + 1) a4.toNatClampNeg)), some (.int a5), some (.int (s (c3 + 4) a4.toNatClampNeg)), some (.int 0), some (.int 0)]) ja_Sections_gain_46 rfl ⟨Nat.le_of_ble_eq_true rfl, rfl⟩ rfl ?_
                              refine q_iload (pc' := 50) ja_Sections_gain_48 rfl rfl ?_
                              refine q_iload (pc' := 52) ja_Sections_gain_50 rfl rfl ?_
                              refine q_isub (pc' := 53) ja_Sections_gain_52 rfl ?_
                              rw [show ((0 - 0) : Int32) = 0 from by decide]
                              refine q_iret ja_Sections_gain_53 rfl rfl ?_
                              show q_W _ _ _ _ 165 [some (.ref 0), some (.ref c1), some (.ref c2), some (.ref c3), some (.int a4), some (.int a5), some (.int (s (c3 + 1) a4.toNatClampNeg))] [.int 0] s
                              refine q_stat (pc' := 168) (as := [.int 0]) (r := []) ja_C_choice_165 rfl (by decide) rfl rfl ?_
                              refine q_in (M := jm_C_bySign) rfl (Nat.le_of_ble_eq_true rfl) (ls := [some (.int 0)]) rfl ?_
                              refine q_iload_n (pc' := 1) ja_C_bySign_0 rfl rfl ?_
                              refine q_if_le (pc' := 4) ja_C_bySign_1 rfl (fun _ => ?_) (fun h => absurd ((by decide : (0 : Int32) ≤ 0)) h)
                              refine q_iload_n (pc' := 9) ja_C_bySign_8 rfl rfl ?_
                              refine q_if_ge (pc' := 12) ja_C_bySign_9 rfl (fun _ => ?_) (fun h => absurd h ((by decide : ¬ (0 : Int32) < 0)))
                              refine q_iconst (pc' := 17) ja_C_bySign_16 rfl 0 (by decide) ?_
                              refine q_iret ja_C_bySign_17 rfl rfl ?_
                              show q_W _ _ _ _ 168 [some (.ref 0), some (.ref c1), some (.ref c2), some (.ref c3), some (.int a4), some (.int a5), some (.int (s (c3 + 1) a4.toNatClampNeg))] [.int 0] s
                              exact q_iret ja_C_choice_168 rfl rfl (k29 h2 h4 h6 h8 h10 h11 h12 h13 h14 h15 h31 h32 h34 h35 h47 h48 h50 h51)
                            · intro h52
                              refine q_iload_n (pc' := 5) ja_Member_liking_4 rfl rfl ?_
                              refine q_aload_n (pc' := 6) ja_Member_liking_5 rfl rfl ?_
                              refine q_getf (pc' := 9) (v := .ref (c1 + 1)) ja_Member_liking_6 rfl (f_5_c hc1) ⟨by rw [f_5_k hc1], by decide⟩ (f_5_g4 hc1) ?_
                              refine q_alen (pc' := 10) ja_Member_liking_9 rfl (f_a_c (f_5_s4 hc1)) (kd := 13) (l := 61) (f_a_k (f_5_s4 hc1)) (by decide) (v := 61) (by decide) ?_
                              refine q_ic_ge (pc' := 13) ja_Member_liking_10 rfl ?_ ?_
                              · intro h53
                                refine q_iconst (pc' := 23) ja_Member_liking_22 rfl 0 (by decide) ?_
                                refine q_iret ja_Member_liking_23 rfl rfl ?_
                                show q_W _ _ _ _ 46 [some (.ref c2), some (.ref c1), some (.int (s (c3 + 1) a4.toNatClampNeg)), some (.int a5), some (.int (s (c3 + 4) a4.toNatClampNeg)), some (.int 0), none] [.int 0] s
                                refine q_istore (pc' := 48) (ls' := [some (.ref c2), some (.ref c1), some (.int (s (c3 + 1) a4.toNatClampNeg)), some (.int a5), some (.int (s (c3 + 4) a4.toNatClampNeg)), some (.int 0), some (.int 0)]) ja_Sections_gain_46 rfl ⟨Nat.le_of_ble_eq_true rfl, rfl⟩ rfl ?_
                                refine q_iload (pc' := 50) ja_Sections_gain_48 rfl rfl ?_
                                refine q_iload (pc' := 52) ja_Sections_gain_50 rfl rfl ?_
                                refine q_isub (pc' := 53) ja_Sections_gain_52 rfl ?_
                                rw [show ((0 - 0) : Int32) = 0 from by decide]
                                refine q_iret ja_Sections_gain_53 rfl rfl ?_
                                show q_W _ _ _ _ 165 [some (.ref 0), some (.ref c1), some (.ref c2), some (.ref c3), some (.int a4), some (.int a5), some (.int (s (c3 + 1) a4.toNatClampNeg))] [.int 0] s
                                refine q_stat (pc' := 168) (as := [.int 0]) (r := []) ja_C_choice_165 rfl (by decide) rfl rfl ?_
                                refine q_in (M := jm_C_bySign) rfl (Nat.le_of_ble_eq_true rfl) (ls := [some (.int 0)]) rfl ?_
                                refine q_iload_n (pc' := 1) ja_C_bySign_0 rfl rfl ?_
                                refine q_if_le (pc' := 4) ja_C_bySign_1 rfl (fun _ => ?_) (fun h => absurd ((by decide : (0 : Int32) ≤ 0)) h)
                                refine q_iload_n (pc' := 9) ja_C_bySign_8 rfl rfl ?_
                                refine q_if_ge (pc' := 12) ja_C_bySign_9 rfl (fun _ => ?_) (fun h => absurd h ((by decide : ¬ (0 : Int32) < 0)))
                                refine q_iconst (pc' := 17) ja_C_bySign_16 rfl 0 (by decide) ?_
                                refine q_iret ja_C_bySign_17 rfl rfl ?_
                                show q_W _ _ _ _ 168 [some (.ref 0), some (.ref c1), some (.ref c2), some (.ref c3), some (.int a4), some (.int a5), some (.int (s (c3 + 1) a4.toNatClampNeg))] [.int 0] s
                                exact q_iret ja_C_choice_168 rfl rfl (k30 h2 h4 h6 h8 h10 h11 h12 h13 h14 h15 h31 h32 h34 h35 h47 h48 h50 h52 h53)
                              · intro h54
                                refine q_aload_n (pc' := 14) ja_Member_liking_13 rfl rfl ?_
                                refine q_getf (pc' := 17) (v := .ref (c1 + 1)) ja_Member_liking_14 rfl (f_5_c hc1) ⟨by rw [f_5_k hc1], by decide⟩ (f_5_g4 hc1) ?_
                                refine q_iload_n (pc' := 18) ja_Member_liking_17 rfl rfl ?_
                                refine q_iald (pc' := 19) (v := .int (s (c1 + 1) (s (c2 + 1) a5.toNatClampNeg).toNatClampNeg)) ja_Member_liking_18 rfl (f_a_c (f_5_s4 hc1)) (l := 61) (f_a_k (f_5_s4 hc1)) (q_inr (l := 61) (by decide) h52 h54) (f_i (f_a_k (f_5_s4 hc1)) rfl) ?_
                                refine q_goto ja_Member_liking_19 ?_
                                refine q_iret ja_Member_liking_23 rfl rfl ?_
                                show q_W _ _ _ _ 46 [some (.ref c2), some (.ref c1), some (.int (s (c3 + 1) a4.toNatClampNeg)), some (.int a5), some (.int (s (c3 + 4) a4.toNatClampNeg)), some (.int 0), none] [.int (s (c1 + 1) (s (c2 + 1) a5.toNatClampNeg).toNatClampNeg)] s
                                refine q_istore (pc' := 48) (ls' := [some (.ref c2), some (.ref c1), some (.int (s (c3 + 1) a4.toNatClampNeg)), some (.int a5), some (.int (s (c3 + 4) a4.toNatClampNeg)), some (.int 0), some (.int (s (c1 + 1) (s (c2 + 1) a5.toNatClampNeg).toNatClampNeg))]) ja_Sections_gain_46 rfl ⟨Nat.le_of_ble_eq_true rfl, rfl⟩ rfl ?_
                                refine q_iload (pc' := 50) ja_Sections_gain_48 rfl rfl ?_
                                refine q_iload (pc' := 52) ja_Sections_gain_50 rfl rfl ?_
                                refine q_isub (pc' := 53) ja_Sections_gain_52 rfl ?_
                                refine q_iret ja_Sections_gain_53 rfl rfl ?_
                                show q_W _ _ _ _ 165 [some (.ref 0), some (.ref c1), some (.ref c2), some (.ref c3), some (.int a4), some (.int a5), some (.int (s (c3 + 1) a4.toNatClampNeg))] [.int (0 - (s (c1 + 1) (s (c2 + 1) a5.toNatClampNeg).toNatClampNeg))] s
                                refine q_stat (pc' := 168) (as := [.int (0 - (s (c1 + 1) (s (c2 + 1) a5.toNatClampNeg).toNatClampNeg))]) (r := []) ja_C_choice_165 rfl (by decide) rfl rfl ?_
                                refine q_in (M := jm_C_bySign) rfl (Nat.le_of_ble_eq_true rfl) (ls := [some (.int (0 - (s (c1 + 1) (s (c2 + 1) a5.toNatClampNeg).toNatClampNeg)))]) rfl ?_
                                refine q_iload_n (pc' := 1) ja_C_bySign_0 rfl rfl ?_
                                refine q_if_le (pc' := 4) ja_C_bySign_1 rfl ?_ ?_
                                · intro h55
                                  refine q_iload_n (pc' := 9) ja_C_bySign_8 rfl rfl ?_
                                  refine q_if_ge (pc' := 12) ja_C_bySign_9 rfl ?_ ?_
                                  · intro h56
                                    refine q_iconst (pc' := 17) ja_C_bySign_16 rfl 0 (by decide) ?_
                                    refine q_iret ja_C_bySign_17 rfl rfl ?_
                                    show q_W _ _ _ _ 168 [some (.ref 0), some (.ref c1), some (.ref c2), some (.ref c3), some (.int a4), some (.int a5), some (.int (s (c3 + 1) a4.toNatClampNeg))] [.int 0] s
                                    exact q_iret ja_C_choice_168 rfl rfl (k31 h2 h4 h6 h8 h10 h11 h12 h13 h14 h15 h31 h32 h34 h35 h47 h48 h50 h52 h54 h55 h56)
                                  · intro h57
                                    refine q_iconst (pc' := 13) ja_C_bySign_12 rfl 2 (by decide) ?_
                                    refine q_goto ja_C_bySign_13 ?_
                                    refine q_iret ja_C_bySign_17 rfl rfl ?_
                                    show q_W _ _ _ _ 168 [some (.ref 0), some (.ref c1), some (.ref c2), some (.ref c3), some (.int a4), some (.int a5), some (.int (s (c3 + 1) a4.toNatClampNeg))] [.int 2] s
                                    exact q_iret ja_C_choice_168 rfl rfl (k32 h2 h4 h6 h8 h10 h11 h12 h13 h14 h15 h31 h32 h34 h35 h47 h48 h50 h52 h54 h55 h57)
                                · intro h58
                                  refine q_iconst (pc' := 5) ja_C_bySign_4 rfl 1 (by decide) ?_
                                  refine q_goto ja_C_bySign_5 ?_
                                  refine q_iret ja_C_bySign_17 rfl rfl ?_
                                  show q_W _ _ _ _ 168 [some (.ref 0), some (.ref c1), some (.ref c2), some (.ref c3), some (.int a4), some (.int a5), some (.int (s (c3 + 1) a4.toNatClampNeg))] [.int 1] s
                                  exact q_iret ja_C_choice_168 rfl rfl (k33 h2 h4 h6 h8 h10 h11 h12 h13 h14 h15 h31 h32 h34 h35 h47 h48 h50 h52 h54 h58)
                        · intro h59
                          refine q_aload_n (pc' := 14) ja_Member_liking_13 rfl rfl ?_
                          refine q_getf (pc' := 17) (v := .ref (c1 + 1)) ja_Member_liking_14 rfl (f_5_c hc1) ⟨by rw [f_5_k hc1], by decide⟩ (f_5_g4 hc1) ?_
                          refine q_iload_n (pc' := 18) ja_Member_liking_17 rfl rfl ?_
                          refine q_iald (pc' := 19) (v := .int (s (c1 + 1) (s (c3 + 4) a4.toNatClampNeg).toNatClampNeg)) ja_Member_liking_18 rfl (f_a_c (f_5_s4 hc1)) (l := 61) (f_a_k (f_5_s4 hc1)) (q_inr (l := 61) (by decide) h47 h59) (f_i (f_a_k (f_5_s4 hc1)) rfl) ?_
                          refine q_goto ja_Member_liking_19 ?_
                          refine q_iret ja_Member_liking_23 rfl rfl ?_
                          show q_W _ _ _ _ 26 [some (.ref c2), some (.ref c1), some (.int (s (c3 + 1) a4.toNatClampNeg)), some (.int a5), some (.int (s (c3 + 4) a4.toNatClampNeg)), none, none] [.int (s (c1 + 1) (s (c3 + 4) a4.toNatClampNeg).toNatClampNeg)] s
                          refine q_istore (pc' := 28) (ls' := [some (.ref c2), some (.ref c1), some (.int (s (c3 + 1) a4.toNatClampNeg)), some (.int a5), some (.int (s (c3 + 4) a4.toNatClampNeg)), some (.int (s (c1 + 1) (s (c3 + 4) a4.toNatClampNeg).toNatClampNeg)), none]) ja_Sections_gain_26 rfl ⟨Nat.le_of_ble_eq_true rfl, rfl⟩ rfl ?_
                          refine q_iload_n (pc' := 29) ja_Sections_gain_28 rfl rfl ?_
                          refine q_iconst (pc' := 30) ja_Sections_gain_29 rfl 2 (by decide) ?_
                          refine q_ic_ne (pc' := 33) ja_Sections_gain_30 rfl (fun _ => ?_) (fun h => absurd h (h32))
                          refine q_aload_n (pc' := 38) ja_Sections_gain_37 rfl rfl ?_
                          refine q_aload_n (pc' := 39) ja_Sections_gain_38 rfl rfl ?_
                          refine q_iload_n (pc' := 40) ja_Sections_gain_39 rfl rfl ?_
                          refine q_virt (pc' := 43) (c := c2) (as := [.int a5]) (r := [.ref c1]) ja_Sections_gain_40 rfl rfl rfl (f_8_c hc2) ⟨by rw [f_8_k hc2], by decide⟩ ?_
                          refine q_in (M := jm_Sections_wordAt) rfl (Nat.le_of_ble_eq_true rfl) (ls := [some (.ref c2), some (.int a5)]) rfl ?_
                          refine q_iload_n (pc' := 1) ja_Sections_wordAt_0 rfl rfl ?_
                          refine q_if_lt (pc' := 4) ja_Sections_wordAt_1 rfl (fun h => absurd h (h31)) (fun _ => ?_)
                          refine q_iload_n (pc' := 5) ja_Sections_wordAt_4 rfl rfl ?_
                          refine q_aload_n (pc' := 6) ja_Sections_wordAt_5 rfl rfl ?_
                          refine q_getf (pc' := 9) (v := .int (s c2 0)) ja_Sections_wordAt_6 rfl (f_8_c hc2) ⟨by rw [f_8_k hc2], by decide⟩ (f_i (f_8_k hc2) rfl) ?_
                          refine q_ic_ge (pc' := 12) ja_Sections_wordAt_9 rfl (fun h => absurd (h34) h) (fun _ => ?_)
                          refine q_iload_n (pc' := 13) ja_Sections_wordAt_12 rfl rfl ?_
                          refine q_aload_n (pc' := 14) ja_Sections_wordAt_13 rfl rfl ?_
                          refine q_getf (pc' := 17) (v := .ref (c2 + 1)) ja_Sections_wordAt_14 rfl (f_8_c hc2) ⟨by rw [f_8_k hc2], by decide⟩ (f_8_g1 hc2) ?_
                          refine q_alen (pc' := 18) ja_Sections_wordAt_17 rfl (f_a_c (f_8_s1 hc2)) (kd := 13) (l := 10) (f_a_k (f_8_s1 hc2)) (by decide) (v := 10) (by decide) ?_
                          refine q_ic_ge (pc' := 21) ja_Sections_wordAt_18 rfl ?_ ?_
                          · intro h60
                            refine q_iconst (pc' := 31) ja_Sections_wordAt_30 rfl (-1) (by decide) ?_
                            refine q_iret ja_Sections_wordAt_31 rfl rfl ?_
                            show q_W _ _ _ _ 43 [some (.ref c2), some (.ref c1), some (.int (s (c3 + 1) a4.toNatClampNeg)), some (.int a5), some (.int (s (c3 + 4) a4.toNatClampNeg)), some (.int (s (c1 + 1) (s (c3 + 4) a4.toNatClampNeg).toNatClampNeg)), none] [.int (-1), .ref c1] s
                            refine q_virt (pc' := 46) (c := c1) (as := [.int (-1)]) (r := []) ja_Sections_gain_43 rfl rfl rfl (f_5_c hc1) ⟨by rw [f_5_k hc1], by decide⟩ ?_
                            refine q_in (M := jm_Member_liking) rfl (Nat.le_of_ble_eq_true rfl) (ls := [some (.ref c1), some (.int (-1))]) rfl ?_
                            refine q_iload_n (pc' := 1) ja_Member_liking_0 rfl rfl ?_
                            refine q_if_lt (pc' := 4) ja_Member_liking_1 rfl (fun _ => ?_) (fun h => absurd ((by decide : (-1 : Int32) < 0)) h)
                            refine q_iconst (pc' := 23) ja_Member_liking_22 rfl 0 (by decide) ?_
                            refine q_iret ja_Member_liking_23 rfl rfl ?_
                            show q_W _ _ _ _ 46 [some (.ref c2), some (.ref c1), some (.int (s (c3 + 1) a4.toNatClampNeg)), some (.int a5), some (.int (s (c3 + 4) a4.toNatClampNeg)), some (.int (s (c1 + 1) (s (c3 + 4) a4.toNatClampNeg).toNatClampNeg)), none] [.int 0] s
                            refine q_istore (pc' := 48) (ls' := [some (.ref c2), some (.ref c1), some (.int (s (c3 + 1) a4.toNatClampNeg)), some (.int a5), some (.int (s (c3 + 4) a4.toNatClampNeg)), some (.int (s (c1 + 1) (s (c3 + 4) a4.toNatClampNeg).toNatClampNeg)), some (.int 0)]) ja_Sections_gain_46 rfl ⟨Nat.le_of_ble_eq_true rfl, rfl⟩ rfl ?_
                            refine q_iload (pc' := 50) ja_Sections_gain_48 rfl rfl ?_
                            refine q_iload (pc' := 52) ja_Sections_gain_50 rfl rfl ?_
                            refine q_isub (pc' := 53) ja_Sections_gain_52 rfl ?_
                            refine q_iret ja_Sections_gain_53 rfl rfl ?_
                            show q_W _ _ _ _ 165 [some (.ref 0), some (.ref c1), some (.ref c2), some (.ref c3), some (.int a4), some (.int a5), some (.int (s (c3 + 1) a4.toNatClampNeg))] [.int ((s (c1 + 1) (s (c3 + 4) a4.toNatClampNeg).toNatClampNeg) - 0)] s
                            refine q_stat (pc' := 168) (as := [.int ((s (c1 + 1) (s (c3 + 4) a4.toNatClampNeg).toNatClampNeg) - 0)]) (r := []) ja_C_choice_165 rfl (by decide) rfl rfl ?_
                            refine q_in (M := jm_C_bySign) rfl (Nat.le_of_ble_eq_true rfl) (ls := [some (.int ((s (c1 + 1) (s (c3 + 4) a4.toNatClampNeg).toNatClampNeg) - 0))]) rfl ?_
                            refine q_iload_n (pc' := 1) ja_C_bySign_0 rfl rfl ?_
                            refine q_if_le (pc' := 4) ja_C_bySign_1 rfl ?_ ?_
                            · intro h61
                              refine q_iload_n (pc' := 9) ja_C_bySign_8 rfl rfl ?_
                              refine q_if_ge (pc' := 12) ja_C_bySign_9 rfl ?_ ?_
                              · intro h62
                                refine q_iconst (pc' := 17) ja_C_bySign_16 rfl 0 (by decide) ?_
                                refine q_iret ja_C_bySign_17 rfl rfl ?_
                                show q_W _ _ _ _ 168 [some (.ref 0), some (.ref c1), some (.ref c2), some (.ref c3), some (.int a4), some (.int a5), some (.int (s (c3 + 1) a4.toNatClampNeg))] [.int 0] s
                                exact q_iret ja_C_choice_168 rfl rfl (k34 h2 h4 h6 h8 h10 h11 h12 h13 h14 h15 h31 h32 h34 h35 h47 h59 h60 h61 h62)
                              · intro h63
                                refine q_iconst (pc' := 13) ja_C_bySign_12 rfl 2 (by decide) ?_
                                refine q_goto ja_C_bySign_13 ?_
                                refine q_iret ja_C_bySign_17 rfl rfl ?_
                                show q_W _ _ _ _ 168 [some (.ref 0), some (.ref c1), some (.ref c2), some (.ref c3), some (.int a4), some (.int a5), some (.int (s (c3 + 1) a4.toNatClampNeg))] [.int 2] s
                                exact q_iret ja_C_choice_168 rfl rfl (k35 h2 h4 h6 h8 h10 h11 h12 h13 h14 h15 h31 h32 h34 h35 h47 h59 h60 h61 h63)
                            · intro h64
                              refine q_iconst (pc' := 5) ja_C_bySign_4 rfl 1 (by decide) ?_
                              refine q_goto ja_C_bySign_5 ?_
                              refine q_iret ja_C_bySign_17 rfl rfl ?_
                              show q_W _ _ _ _ 168 [some (.ref 0), some (.ref c1), some (.ref c2), some (.ref c3), some (.int a4), some (.int a5), some (.int (s (c3 + 1) a4.toNatClampNeg))] [.int 1] s
                              exact q_iret ja_C_choice_168 rfl rfl (k36 h2 h4 h6 h8 h10 h11 h12 h13 h14 h15 h31 h32 h34 h35 h47 h59 h60 h64)
                          · intro h65
                            refine q_aload_n (pc' := 22) ja_Sections_wordAt_21 rfl rfl ?_
                            refine q_getf (pc' := 25) (v := .ref (c2 + 1)) ja_Sections_wordAt_22 rfl (f_8_c hc2) ⟨by rw [f_8_k hc2], by decide⟩ (f_8_g1 hc2) ?_
                            refine q_iload_n (pc' := 26) ja_Sections_wordAt_25 rfl rfl ?_
                            refine q_iald (pc' := 27) (v := .int (s (c2 + 1) a5.toNatClampNeg)) ja_Sections_wordAt_26 rfl (f_a_c (f_8_s1 hc2)) (l := 10) (f_a_k (f_8_s1 hc2)) (q_inr (l := 10) (by decide) h31 h65) (f_i (f_a_k (f_8_s1 hc2)) rfl) ?_
                            refine q_goto ja_Sections_wordAt_27 ?_
                            refine q_iret ja_Sections_wordAt_31 rfl rfl ?_
                            show q_W _ _ _ _ 43 [some (.ref c2), some (.ref c1), some (.int (s (c3 + 1) a4.toNatClampNeg)), some (.int a5), some (.int (s (c3 + 4) a4.toNatClampNeg)), some (.int (s (c1 + 1) (s (c3 + 4) a4.toNatClampNeg).toNatClampNeg)), none] [.int (s (c2 + 1) a5.toNatClampNeg), .ref c1] s
                            refine q_virt (pc' := 46) (c := c1) (as := [.int (s (c2 + 1) a5.toNatClampNeg)]) (r := []) ja_Sections_gain_43 rfl rfl rfl (f_5_c hc1) ⟨by rw [f_5_k hc1], by decide⟩ ?_
                            refine q_in (M := jm_Member_liking) rfl (Nat.le_of_ble_eq_true rfl) (ls := [some (.ref c1), some (.int (s (c2 + 1) a5.toNatClampNeg))]) rfl ?_
                            refine q_iload_n (pc' := 1) ja_Member_liking_0 rfl rfl ?_
                            refine q_if_lt (pc' := 4) ja_Member_liking_1 rfl ?_ ?_
                            · intro h66
                              refine q_iconst (pc' := 23) ja_Member_liking_22 rfl 0 (by decide) ?_
                              refine q_iret ja_Member_liking_23 rfl rfl ?_
                              show q_W _ _ _ _ 46 [some (.ref c2), some (.ref c1), some (.int (s (c3 + 1) a4.toNatClampNeg)), some (.int a5), some (.int (s (c3 + 4) a4.toNatClampNeg)), some (.int (s (c1 + 1) (s (c3 + 4) a4.toNatClampNeg).toNatClampNeg)), none] [.int 0] s
                              refine q_istore (pc' := 48) (ls' := [some (.ref c2), some (.ref c1), some (.int (s (c3 + 1) a4.toNatClampNeg)), some (.int a5), some (.int (s (c3 + 4) a4.toNatClampNeg)), some (.int (s (c1 + 1) (s (c3 + 4) a4.toNatClampNeg).toNatClampNeg)), some (.int 0)]) ja_Sections_gain_46 rfl ⟨Nat.le_of_ble_eq_true rfl, rfl⟩ rfl ?_
                              refine q_iload (pc' := 50) ja_Sections_gain_48 rfl rfl ?_
                              refine q_iload (pc' := 52) ja_Sections_gain_50 rfl rfl ?_
                              refine q_isub (pc' := 53) ja_Sections_gain_52 rfl ?_
                              refine q_iret ja_Sections_gain_53 rfl rfl ?_
                              show q_W _ _ _ _ 165 [some (.ref 0), some (.ref c1), some (.ref c2), some (.ref c3), some (.int a4), some (.int a5), some (.int (s (c3 + 1) a4.toNatClampNeg))] [.int ((s (c1 + 1) (s (c3 + 4) a4.toNatClampNeg).toNatClampNeg) - 0)] s
                              refine q_stat (pc' := 168) (as := [.int ((s (c1 + 1) (s (c3 + 4) a4.toNatClampNeg).toNatClampNeg) - 0)]) (r := []) ja_C_choice_165 rfl (by decide) rfl rfl ?_
                              refine q_in (M := jm_C_bySign) rfl (Nat.le_of_ble_eq_true rfl) (ls := [some (.int ((s (c1 + 1) (s (c3 + 4) a4.toNatClampNeg).toNatClampNeg) - 0))]) rfl ?_
                              refine q_iload_n (pc' := 1) ja_C_bySign_0 rfl rfl ?_
                              refine q_if_le (pc' := 4) ja_C_bySign_1 rfl ?_ ?_
                              · intro h67
                                refine q_iload_n (pc' := 9) ja_C_bySign_8 rfl rfl ?_
                                refine q_if_ge (pc' := 12) ja_C_bySign_9 rfl ?_ ?_
                                · intro h68
                                  refine q_iconst (pc' := 17) ja_C_bySign_16 rfl 0 (by decide) ?_
                                  refine q_iret ja_C_bySign_17 rfl rfl ?_
                                  show q_W _ _ _ _ 168 [some (.ref 0), some (.ref c1), some (.ref c2), some (.ref c3), some (.int a4), some (.int a5), some (.int (s (c3 + 1) a4.toNatClampNeg))] [.int 0] s
                                  exact q_iret ja_C_choice_168 rfl rfl (k37 h2 h4 h6 h8 h10 h11 h12 h13 h14 h15 h31 h32 h34 h35 h47 h59 h65 h66 h67 h68)
                                · intro h69
                                  refine q_iconst (pc' := 13) ja_C_bySign_12 rfl 2 (by decide) ?_
                                  refine q_goto ja_C_bySign_13 ?_
                                  refine q_iret ja_C_bySign_17 rfl rfl ?_
                                  show q_W _ _ _ _ 168 [some (.ref 0), some (.ref c1), some (.ref c2), some (.ref c3), some (.int a4), some (.int a5), some (.int (s (c3 + 1) a4.toNatClampNeg))] [.int 2] s
                                  exact q_iret ja_C_choice_168 rfl rfl (k38 h2 h4 h6 h8 h10 h11 h12 h13 h14 h15 h31 h32 h34 h35 h47 h59 h65 h66 h67 h69)
                              · intro h70
                                refine q_iconst (pc' := 5) ja_C_bySign_4 rfl 1 (by decide) ?_
                                refine q_goto ja_C_bySign_5 ?_
                                refine q_iret ja_C_bySign_17 rfl rfl ?_
                                show q_W _ _ _ _ 168 [some (.ref 0), some (.ref c1), some (.ref c2), some (.ref c3), some (.int a4), some (.int a5), some (.int (s (c3 + 1) a4.toNatClampNeg))] [.int 1] s
                                exact q_iret ja_C_choice_168 rfl rfl (k39 h2 h4 h6 h8 h10 h11 h12 h13 h14 h15 h31 h32 h34 h35 h47 h59 h65 h66 h70)
                            · intro h71
                              refine q_iload_n (pc' := 5) ja_Member_liking_4 rfl rfl ?_
                              refine q_aload_n (pc' := 6) ja_Member_liking_5 rfl rfl ?_
                              refine q_getf (pc' := 9) (v := .ref (c1 + 1)) ja_Member_liking_6 rfl (f_5_c hc1) ⟨by rw [f_5_k hc1], by decide⟩ (f_5_g4 hc1) ?_
                              refine q_alen (pc' := 10) ja_Member_liking_9 rfl (f_a_c (f_5_s4 hc1)) (kd := 13) (l := 61) (f_a_k (f_5_s4 hc1)) (by decide) (v := 61) (by decide) ?_
                              refine q_ic_ge (pc' := 13) ja_Member_liking_10 rfl ?_ ?_
                              · intro h72
                                refine q_iconst (pc' := 23) ja_Member_liking_22 rfl 0 (by decide) ?_
                                refine q_iret ja_Member_liking_23 rfl rfl ?_
                                show q_W _ _ _ _ 46 [some (.ref c2), some (.ref c1), some (.int (s (c3 + 1) a4.toNatClampNeg)), some (.int a5), some (.int (s (c3 + 4) a4.toNatClampNeg)), some (.int (s (c1 + 1) (s (c3 + 4) a4.toNatClampNeg).toNatClampNeg)), none] [.int 0] s
                                refine q_istore (pc' := 48) (ls' := [some (.ref c2), some (.ref c1), some (.int (s (c3 + 1) a4.toNatClampNeg)), some (.int a5), some (.int (s (c3 + 4) a4.toNatClampNeg)), some (.int (s (c1 + 1) (s (c3 + 4) a4.toNatClampNeg).toNatClampNeg)), some (.int 0)]) ja_Sections_gain_46 rfl ⟨Nat.le_of_ble_eq_true rfl, rfl⟩ rfl ?_
                                refine q_iload (pc' := 50) ja_Sections_gain_48 rfl rfl ?_
                                refine q_iload (pc' := 52) ja_Sections_gain_50 rfl rfl ?_
                                refine q_isub (pc' := 53) ja_Sections_gain_52 rfl ?_
                                refine q_iret ja_Sections_gain_53 rfl rfl ?_
                                show q_W _ _ _ _ 165 [some (.ref 0), some (.ref c1), some (.ref c2), some (.ref c3), some (.int a4), some (.int a5), some (.int (s (c3 + 1) a4.toNatClampNeg))] [.int ((s (c1 + 1) (s (c3 + 4) a4.toNatClampNeg).toNatClampNeg) - 0)] s
                                refine q_stat (pc' := 168) (as := [.int ((s (c1 + 1) (s (c3 + 4) a4.toNatClampNeg).toNatClampNeg) - 0)]) (r := []) ja_C_choice_165 rfl (by decide) rfl rfl ?_
                                refine q_in (M := jm_C_bySign) rfl (Nat.le_of_ble_eq_true rfl) (ls := [some (.int ((s (c1 + 1) (s (c3 + 4) a4.toNatClampNeg).toNatClampNeg) - 0))]) rfl ?_
                                refine q_iload_n (pc' := 1) ja_C_bySign_0 rfl rfl ?_
                                refine q_if_le (pc' := 4) ja_C_bySign_1 rfl ?_ ?_
                                · intro h73
                                  refine q_iload_n (pc' := 9) ja_C_bySign_8 rfl rfl ?_
                                  refine q_if_ge (pc' := 12) ja_C_bySign_9 rfl ?_ ?_
                                  · intro h74
                                    refine q_iconst (pc' := 17) ja_C_bySign_16 rfl 0 (by decide) ?_
                                    refine q_iret ja_C_bySign_17 rfl rfl ?_
                                    show q_W _ _ _ _ 168 [some (.ref 0), some (.ref c1), some (.ref c2), some (.ref c3), some (.int a4), some (.int a5), some (.int (s (c3 + 1) a4.toNatClampNeg))] [.int 0] s
                                    exact q_iret ja_C_choice_168 rfl rfl (k40 h2 h4 h6 h8 h10 h11 h12 h13 h14 h15 h31 h32 h34 h35 h47 h59 h65 h71 h72 h73 h74)
                                  · intro h75
                                    refine q_iconst (pc' := 13) ja_C_bySign_12 rfl 2 (by decide) ?_
                                    refine q_goto ja_C_bySign_13 ?_
                                    refine q_iret ja_C_bySign_17 rfl rfl ?_
                                    show q_W _ _ _ _ 168 [some (.ref 0), some (.ref c1), some (.ref c2), some (.ref c3), some (.int a4), some (.int a5), some (.int (s (c3 + 1) a4.toNatClampNeg))] [.int 2] s
                                    exact q_iret ja_C_choice_168 rfl rfl (k41 h2 h4 h6 h8 h10 h11 h12 h13 h14 h15 h31 h32 h34 h35 h47 h59 h65 h71 h72 h73 h75)
                                · intro h76
                                  refine q_iconst (pc' := 5) ja_C_bySign_4 rfl 1 (by decide) ?_
                                  refine q_goto ja_C_bySign_5 ?_
                                  refine q_iret ja_C_bySign_17 rfl rfl ?_
                                  show q_W _ _ _ _ 168 [some (.ref 0), some (.ref c1), some (.ref c2), some (.ref c3), some (.int a4), some (.int a5), some (.int (s (c3 + 1) a4.toNatClampNeg))] [.int 1] s
                                  exact q_iret ja_C_choice_168 rfl rfl (k42 h2 h4 h6 h8 h10 h11 h12 h13 h14 h15 h31 h32 h34 h35 h47 h59 h65 h71 h72 h76)
                              · intro h77
                                refine q_aload_n (pc' := 14) ja_Member_liking_13 rfl rfl ?_
                                refine q_getf (pc' := 17) (v := .ref (c1 + 1)) ja_Member_liking_14 rfl (f_5_c hc1) ⟨by rw [f_5_k hc1], by decide⟩ (f_5_g4 hc1) ?_
                                refine q_iload_n (pc' := 18) ja_Member_liking_17 rfl rfl ?_
                                refine q_iald (pc' := 19) (v := .int (s (c1 + 1) (s (c2 + 1) a5.toNatClampNeg).toNatClampNeg)) ja_Member_liking_18 rfl (f_a_c (f_5_s4 hc1)) (l := 61) (f_a_k (f_5_s4 hc1)) (q_inr (l := 61) (by decide) h71 h77) (f_i (f_a_k (f_5_s4 hc1)) rfl) ?_
                                refine q_goto ja_Member_liking_19 ?_
                                refine q_iret ja_Member_liking_23 rfl rfl ?_
                                show q_W _ _ _ _ 46 [some (.ref c2), some (.ref c1), some (.int (s (c3 + 1) a4.toNatClampNeg)), some (.int a5), some (.int (s (c3 + 4) a4.toNatClampNeg)), some (.int (s (c1 + 1) (s (c3 + 4) a4.toNatClampNeg).toNatClampNeg)), none] [.int (s (c1 + 1) (s (c2 + 1) a5.toNatClampNeg).toNatClampNeg)] s
                                refine q_istore (pc' := 48) (ls' := [some (.ref c2), some (.ref c1), some (.int (s (c3 + 1) a4.toNatClampNeg)), some (.int a5), some (.int (s (c3 + 4) a4.toNatClampNeg)), some (.int (s (c1 + 1) (s (c3 + 4) a4.toNatClampNeg).toNatClampNeg)), some (.int (s (c1 + 1) (s (c2 + 1) a5.toNatClampNeg).toNatClampNeg))]) ja_Sections_gain_46 rfl ⟨Nat.le_of_ble_eq_true rfl, rfl⟩ rfl ?_
                                refine q_iload (pc' := 50) ja_Sections_gain_48 rfl rfl ?_
                                refine q_iload (pc' := 52) ja_Sections_gain_50 rfl rfl ?_
                                refine q_isub (pc' := 53) ja_Sections_gain_52 rfl ?_
                                refine q_iret ja_Sections_gain_53 rfl rfl ?_
                                show q_W _ _ _ _ 165 [some (.ref 0), some (.ref c1), some (.ref c2), some (.ref c3), some (.int a4), some (.int a5), some (.int (s (c3 + 1) a4.toNatClampNeg))] [.int ((s (c1 + 1) (s (c3 + 4) a4.toNatClampNeg).toNatClampNeg) - (s (c1 + 1) (s (c2 + 1) a5.toNatClampNeg).toNatClampNeg))] s
                                refine q_stat (pc' := 168) (as := [.int ((s (c1 + 1) (s (c3 + 4) a4.toNatClampNeg).toNatClampNeg) - (s (c1 + 1) (s (c2 + 1) a5.toNatClampNeg).toNatClampNeg))]) (r := []) ja_C_choice_165 rfl (by decide) rfl rfl ?_
                                refine q_in (M := jm_C_bySign) rfl (Nat.le_of_ble_eq_true rfl) (ls := [some (.int ((s (c1 + 1) (s (c3 + 4) a4.toNatClampNeg).toNatClampNeg) - (s (c1 + 1) (s (c2 + 1) a5.toNatClampNeg).toNatClampNeg)))]) rfl ?_
                                refine q_iload_n (pc' := 1) ja_C_bySign_0 rfl rfl ?_
                                refine q_if_le (pc' := 4) ja_C_bySign_1 rfl ?_ ?_
                                · intro h78
                                  refine q_iload_n (pc' := 9) ja_C_bySign_8 rfl rfl ?_
                                  refine q_if_ge (pc' := 12) ja_C_bySign_9 rfl ?_ ?_
                                  · intro h79
                                    refine q_iconst (pc' := 17) ja_C_bySign_16 rfl 0 (by decide) ?_
                                    refine q_iret ja_C_bySign_17 rfl rfl ?_
                                    show q_W _ _ _ _ 168 [some (.ref 0), some (.ref c1), some (.ref c2), some (.ref c3), some (.int a4), some (.int a5), some (.int (s (c3 + 1) a4.toNatClampNeg))] [.int 0] s
                                    exact q_iret ja_C_choice_168 rfl rfl (k43 h2 h4 h6 h8 h10 h11 h12 h13 h14 h15 h31 h32 h34 h35 h47 h59 h65 h71 h77 h78 h79)
                                  · intro h80
                                    refine q_iconst (pc' := 13) ja_C_bySign_12 rfl 2 (by decide) ?_
                                    refine q_goto ja_C_bySign_13 ?_
                                    refine q_iret ja_C_bySign_17 rfl rfl ?_
                                    show q_W _ _ _ _ 168 [some (.ref 0), some (.ref c1), some (.ref c2), some (.ref c3), some (.int a4), some (.int a5), some (.int (s (c3 + 1) a4.toNatClampNeg))] [.int 2] s
                                    exact q_iret ja_C_choice_168 rfl rfl (k44 h2 h4 h6 h8 h10 h11 h12 h13 h14 h15 h31 h32 h34 h35 h47 h59 h65 h71 h77 h78 h80)
                                · intro h81
                                  refine q_iconst (pc' := 5) ja_C_bySign_4 rfl 1 (by decide) ?_
                                  refine q_goto ja_C_bySign_5 ?_
                                  refine q_iret ja_C_bySign_17 rfl rfl ?_
                                  show q_W _ _ _ _ 168 [some (.ref 0), some (.ref c1), some (.ref c2), some (.ref c3), some (.int a4), some (.int a5), some (.int (s (c3 + 1) a4.toNatClampNeg))] [.int 1] s
                                  exact q_iret ja_C_choice_168 rfl rfl (k45 h2 h4 h6 h8 h10 h11 h12 h13 h14 h15 h31 h32 h34 h35 h47 h59 h65 h71 h77 h81)
                    · intro h82
                      refine q_iconst (pc' := 17) ja_Sections_gain_16 rfl 0 (by decide) ?_
                      refine q_goto ja_Sections_gain_17 ?_
                      refine q_istore (pc' := 28) (ls' := [some (.ref c2), some (.ref c1), some (.int (s (c3 + 1) a4.toNatClampNeg)), some (.int a5), some (.int (s (c3 + 4) a4.toNatClampNeg)), some (.int 0), none]) ja_Sections_gain_26 rfl ⟨Nat.le_of_ble_eq_true rfl, rfl⟩ rfl ?_
                      refine q_iload_n (pc' := 29) ja_Sections_gain_28 rfl rfl ?_
                      refine q_iconst (pc' := 30) ja_Sections_gain_29 rfl 2 (by decide) ?_
                      refine q_ic_ne (pc' := 33) ja_Sections_gain_30 rfl (fun _ => ?_) (fun h => absurd h (h32))
                      refine q_aload_n (pc' := 38) ja_Sections_gain_37 rfl rfl ?_
                      refine q_aload_n (pc' := 39) ja_Sections_gain_38 rfl rfl ?_
                      refine q_iload_n (pc' := 40) ja_Sections_gain_39 rfl rfl ?_
                      refine q_virt (pc' := 43) (c := c2) (as := [.int a5]) (r := [.ref c1]) ja_Sections_gain_40 rfl rfl rfl (f_8_c hc2) ⟨by rw [f_8_k hc2], by decide⟩ ?_
                      refine q_in (M := jm_Sections_wordAt) rfl (Nat.le_of_ble_eq_true rfl) (ls := [some (.ref c2), some (.int a5)]) rfl ?_
                      refine q_iload_n (pc' := 1) ja_Sections_wordAt_0 rfl rfl ?_
                      refine q_if_lt (pc' := 4) ja_Sections_wordAt_1 rfl (fun h => absurd h (h31)) (fun _ => ?_)
                      refine q_iload_n (pc' := 5) ja_Sections_wordAt_4 rfl rfl ?_
                      refine q_aload_n (pc' := 6) ja_Sections_wordAt_5 rfl rfl ?_
                      refine q_getf (pc' := 9) (v := .int (s c2 0)) ja_Sections_wordAt_6 rfl (f_8_c hc2) ⟨by rw [f_8_k hc2], by decide⟩ (f_i (f_8_k hc2) rfl) ?_
                      refine q_ic_ge (pc' := 12) ja_Sections_wordAt_9 rfl (fun h => absurd (h34) h) (fun _ => ?_)
                      refine q_iload_n (pc' := 13) ja_Sections_wordAt_12 rfl rfl ?_
                      refine q_aload_n (pc' := 14) ja_Sections_wordAt_13 rfl rfl ?_
                      refine q_getf (pc' := 17) (v := .ref (c2 + 1)) ja_Sections_wordAt_14 rfl (f_8_c hc2) ⟨by rw [f_8_k hc2], by decide⟩ (f_8_g1 hc2) ?_
                      refine q_alen (pc' := 18) ja_Sections_wordAt_17 rfl (f_a_c (f_8_s1 hc2)) (kd := 13) (l := 10) (f_a_k (f_8_s1 hc2)) (by decide) (v := 10) (by decide) ?_
                      refine q_ic_ge (pc' := 21) ja_Sections_wordAt_18 rfl ?_ ?_
                      · intro h83
                        refine q_iconst (pc' := 31) ja_Sections_wordAt_30 rfl (-1) (by decide) ?_
                        refine q_iret ja_Sections_wordAt_31 rfl rfl ?_
                        show q_W _ _ _ _ 43 [some (.ref c2), some (.ref c1), some (.int (s (c3 + 1) a4.toNatClampNeg)), some (.int a5), some (.int (s (c3 + 4) a4.toNatClampNeg)), some (.int 0), none] [.int (-1), .ref c1] s
                        refine q_virt (pc' := 46) (c := c1) (as := [.int (-1)]) (r := []) ja_Sections_gain_43 rfl rfl rfl (f_5_c hc1) ⟨by rw [f_5_k hc1], by decide⟩ ?_
                        refine q_in (M := jm_Member_liking) rfl (Nat.le_of_ble_eq_true rfl) (ls := [some (.ref c1), some (.int (-1))]) rfl ?_
                        refine q_iload_n (pc' := 1) ja_Member_liking_0 rfl rfl ?_
                        refine q_if_lt (pc' := 4) ja_Member_liking_1 rfl (fun _ => ?_) (fun h => absurd ((by decide : (-1 : Int32) < 0)) h)
                        refine q_iconst (pc' := 23) ja_Member_liking_22 rfl 0 (by decide) ?_
                        refine q_iret ja_Member_liking_23 rfl rfl ?_
                        show q_W _ _ _ _ 46 [some (.ref c2), some (.ref c1), some (.int (s (c3 + 1) a4.toNatClampNeg)), some (.int a5), some (.int (s (c3 + 4) a4.toNatClampNeg)), some (.int 0), none] [.int 0] s
                        refine q_istore (pc' := 48) (ls' := [some (.ref c2), some (.ref c1), some (.int (s (c3 + 1) a4.toNatClampNeg)), some (.int a5), some (.int (s (c3 + 4) a4.toNatClampNeg)), some (.int 0), some (.int 0)]) ja_Sections_gain_46 rfl ⟨Nat.le_of_ble_eq_true rfl, rfl⟩ rfl ?_
                        refine q_iload (pc' := 50) ja_Sections_gain_48 rfl rfl ?_
                        refine q_iload (pc' := 52) ja_Sections_gain_50 rfl rfl ?_
                        refine q_isub (pc' := 53) ja_Sections_gain_52 rfl ?_
                        rw [show ((0 - 0) : Int32) = 0 from by decide]
                        refine q_iret ja_Sections_gain_53 rfl rfl ?_
                        show q_W _ _ _ _ 165 [some (.ref 0), some (.ref c1), some (.ref c2), some (.ref c3), some (.int a4), some (.int a5), some (.int (s (c3 + 1) a4.toNatClampNeg))] [.int 0] s
                        refine q_stat (pc' := 168) (as := [.int 0]) (r := []) ja_C_choice_165 rfl (by decide) rfl rfl ?_
                        refine q_in (M := jm_C_bySign) rfl (Nat.le_of_ble_eq_true rfl) (ls := [some (.int 0)]) rfl ?_
                        refine q_iload_n (pc' := 1) ja_C_bySign_0 rfl rfl ?_
                        refine q_if_le (pc' := 4) ja_C_bySign_1 rfl (fun _ => ?_) (fun h => absurd ((by decide : (0 : Int32) ≤ 0)) h)
                        refine q_iload_n (pc' := 9) ja_C_bySign_8 rfl rfl ?_
                        refine q_if_ge (pc' := 12) ja_C_bySign_9 rfl (fun _ => ?_) (fun h => absurd h ((by decide : ¬ (0 : Int32) < 0)))
                        refine q_iconst (pc' := 17) ja_C_bySign_16 rfl 0 (by decide) ?_
                        refine q_iret ja_C_bySign_17 rfl rfl ?_
                        show q_W _ _ _ _ 168 [some (.ref 0), some (.ref c1), some (.ref c2), some (.ref c3), some (.int a4), some (.int a5), some (.int (s (c3 + 1) a4.toNatClampNeg))] [.int 0] s
                        exact q_iret ja_C_choice_168 rfl rfl (k46 h2 h4 h6 h8 h10 h11 h12 h13 h14 h15 h31 h32 h34 h82 h83)
                      · intro h84
                        refine q_aload_n (pc' := 22) ja_Sections_wordAt_21 rfl rfl ?_
                        refine q_getf (pc' := 25) (v := .ref (c2 + 1)) ja_Sections_wordAt_22 rfl (f_8_c hc2) ⟨by rw [f_8_k hc2], by decide⟩ (f_8_g1 hc2) ?_
                        refine q_iload_n (pc' := 26) ja_Sections_wordAt_25 rfl rfl ?_
                        refine q_iald (pc' := 27) (v := .int (s (c2 + 1) a5.toNatClampNeg)) ja_Sections_wordAt_26 rfl (f_a_c (f_8_s1 hc2)) (l := 10) (f_a_k (f_8_s1 hc2)) (q_inr (l := 10) (by decide) h31 h84) (f_i (f_a_k (f_8_s1 hc2)) rfl) ?_
                        refine q_goto ja_Sections_wordAt_27 ?_
                        refine q_iret ja_Sections_wordAt_31 rfl rfl ?_
                        show q_W _ _ _ _ 43 [some (.ref c2), some (.ref c1), some (.int (s (c3 + 1) a4.toNatClampNeg)), some (.int a5), some (.int (s (c3 + 4) a4.toNatClampNeg)), some (.int 0), none] [.int (s (c2 + 1) a5.toNatClampNeg), .ref c1] s
                        refine q_virt (pc' := 46) (c := c1) (as := [.int (s (c2 + 1) a5.toNatClampNeg)]) (r := []) ja_Sections_gain_43 rfl rfl rfl (f_5_c hc1) ⟨by rw [f_5_k hc1], by decide⟩ ?_
                        refine q_in (M := jm_Member_liking) rfl (Nat.le_of_ble_eq_true rfl) (ls := [some (.ref c1), some (.int (s (c2 + 1) a5.toNatClampNeg))]) rfl ?_
                        refine q_iload_n (pc' := 1) ja_Member_liking_0 rfl rfl ?_
                        refine q_if_lt (pc' := 4) ja_Member_liking_1 rfl ?_ ?_
                        · intro h85
                          refine q_iconst (pc' := 23) ja_Member_liking_22 rfl 0 (by decide) ?_
                          refine q_iret ja_Member_liking_23 rfl rfl ?_
                          show q_W _ _ _ _ 46 [some (.ref c2), some (.ref c1), some (.int (s (c3 + 1) a4.toNatClampNeg)), some (.int a5), some (.int (s (c3 + 4) a4.toNatClampNeg)), some (.int 0), none] [.int 0] s
                          refine q_istore (pc' := 48) (ls' := [some (.ref c2), some (.ref c1), some (.int (s (c3 + 1) a4.toNatClampNeg)), some (.int a5), some (.int (s (c3 + 4) a4.toNatClampNeg)), some (.int 0), some (.int 0)]) ja_Sections_gain_46 rfl ⟨Nat.le_of_ble_eq_true rfl, rfl⟩ rfl ?_
                          refine q_iload (pc' := 50) ja_Sections_gain_48 rfl rfl ?_
                          refine q_iload (pc' := 52) ja_Sections_gain_50 rfl rfl ?_
                          refine q_isub (pc' := 53) ja_Sections_gain_52 rfl ?_
                          rw [show ((0 - 0) : Int32) = 0 from by decide]
                          refine q_iret ja_Sections_gain_53 rfl rfl ?_
                          show q_W _ _ _ _ 165 [some (.ref 0), some (.ref c1), some (.ref c2), some (.ref c3), some (.int a4), some (.int a5), some (.int (s (c3 + 1) a4.toNatClampNeg))] [.int 0] s
                          refine q_stat (pc' := 168) (as := [.int 0]) (r := []) ja_C_choice_165 rfl (by decide) rfl rfl ?_
                          refine q_in (M := jm_C_bySign) rfl (Nat.le_of_ble_eq_true rfl) (ls := [some (.int 0)]) rfl ?_
                          refine q_iload_n (pc' := 1) ja_C_bySign_0 rfl rfl ?_
                          refine q_if_le (pc' := 4) ja_C_bySign_1 rfl (fun _ => ?_) (fun h => absurd ((by decide : (0 : Int32) ≤ 0)) h)
                          refine q_iload_n (pc' := 9) ja_C_bySign_8 rfl rfl ?_
                          refine q_if_ge (pc' := 12) ja_C_bySign_9 rfl (fun _ => ?_) (fun h => absurd h ((by decide : ¬ (0 : Int32) < 0)))
                          refine q_iconst (pc' := 17) ja_C_bySign_16 rfl 0 (by decide) ?_
                          refine q_iret ja_C_bySign_17 rfl rfl ?_
                          show q_W _ _ _ _ 168 [some (.ref 0), some (.ref c1), some (.ref c2), some (.ref c3), some (.int a4), some (.int a5), some (.int (s (c3 + 1) a4.toNatClampNeg))] [.int 0] s
                          exact q_iret ja_C_choice_168 rfl rfl (k47 h2 h4 h6 h8 h10 h11 h12 h13 h14 h15 h31 h32 h34 h82 h84 h85)
                        · intro h86
                          refine q_iload_n (pc' := 5) ja_Member_liking_4 rfl rfl ?_
                          refine q_aload_n (pc' := 6) ja_Member_liking_5 rfl rfl ?_
                          refine q_getf (pc' := 9) (v := .ref (c1 + 1)) ja_Member_liking_6 rfl (f_5_c hc1) ⟨by rw [f_5_k hc1], by decide⟩ (f_5_g4 hc1) ?_
                          refine q_alen (pc' := 10) ja_Member_liking_9 rfl (f_a_c (f_5_s4 hc1)) (kd := 13) (l := 61) (f_a_k (f_5_s4 hc1)) (by decide) (v := 61) (by decide) ?_
                          refine q_ic_ge (pc' := 13) ja_Member_liking_10 rfl ?_ ?_
                          · intro h87
                            refine q_iconst (pc' := 23) ja_Member_liking_22 rfl 0 (by decide) ?_
                            refine q_iret ja_Member_liking_23 rfl rfl ?_
                            show q_W _ _ _ _ 46 [some (.ref c2), some (.ref c1), some (.int (s (c3 + 1) a4.toNatClampNeg)), some (.int a5), some (.int (s (c3 + 4) a4.toNatClampNeg)), some (.int 0), none] [.int 0] s
                            refine q_istore (pc' := 48) (ls' := [some (.ref c2), some (.ref c1), some (.int (s (c3 + 1) a4.toNatClampNeg)), some (.int a5), some (.int (s (c3 + 4) a4.toNatClampNeg)), some (.int 0), some (.int 0)]) ja_Sections_gain_46 rfl ⟨Nat.le_of_ble_eq_true rfl, rfl⟩ rfl ?_
                            refine q_iload (pc' := 50) ja_Sections_gain_48 rfl rfl ?_
                            refine q_iload (pc' := 52) ja_Sections_gain_50 rfl rfl ?_
                            refine q_isub (pc' := 53) ja_Sections_gain_52 rfl ?_
                            rw [show ((0 - 0) : Int32) = 0 from by decide]
                            refine q_iret ja_Sections_gain_53 rfl rfl ?_
                            show q_W _ _ _ _ 165 [some (.ref 0), some (.ref c1), some (.ref c2), some (.ref c3), some (.int a4), some (.int a5), some (.int (s (c3 + 1) a4.toNatClampNeg))] [.int 0] s
                            refine q_stat (pc' := 168) (as := [.int 0]) (r := []) ja_C_choice_165 rfl (by decide) rfl rfl ?_
                            refine q_in (M := jm_C_bySign) rfl (Nat.le_of_ble_eq_true rfl) (ls := [some (.int 0)]) rfl ?_
                            refine q_iload_n (pc' := 1) ja_C_bySign_0 rfl rfl ?_
                            refine q_if_le (pc' := 4) ja_C_bySign_1 rfl (fun _ => ?_) (fun h => absurd ((by decide : (0 : Int32) ≤ 0)) h)
                            refine q_iload_n (pc' := 9) ja_C_bySign_8 rfl rfl ?_
                            refine q_if_ge (pc' := 12) ja_C_bySign_9 rfl (fun _ => ?_) (fun h => absurd h ((by decide : ¬ (0 : Int32) < 0)))
                            refine q_iconst (pc' := 17) ja_C_bySign_16 rfl 0 (by decide) ?_
                            refine q_iret ja_C_bySign_17 rfl rfl ?_
                            show q_W _ _ _ _ 168 [some (.ref 0), some (.ref c1), some (.ref c2), some (.ref c3), some (.int a4), some (.int a5), some (.int (s (c3 + 1) a4.toNatClampNeg))] [.int 0] s
                            exact q_iret ja_C_choice_168 rfl rfl (k48 h2 h4 h6 h8 h10 h11 h12 h13 h14 h15 h31 h32 h34 h82 h84 h86 h87)
                          · intro h88
                            refine q_aload_n (pc' := 14) ja_Member_liking_13 rfl rfl ?_
                            refine q_getf (pc' := 17) (v := .ref (c1 + 1)) ja_Member_liking_14 rfl (f_5_c hc1) ⟨by rw [f_5_k hc1], by decide⟩ (f_5_g4 hc1) ?_
                            refine q_iload_n (pc' := 18) ja_Member_liking_17 rfl rfl ?_
                            refine q_iald (pc' := 19) (v := .int (s (c1 + 1) (s (c2 + 1) a5.toNatClampNeg).toNatClampNeg)) ja_Member_liking_18 rfl (f_a_c (f_5_s4 hc1)) (l := 61) (f_a_k (f_5_s4 hc1)) (q_inr (l := 61) (by decide) h86 h88) (f_i (f_a_k (f_5_s4 hc1)) rfl) ?_
                            refine q_goto ja_Member_liking_19 ?_
                            refine q_iret ja_Member_liking_23 rfl rfl ?_
                            show q_W _ _ _ _ 46 [some (.ref c2), some (.ref c1), some (.int (s (c3 + 1) a4.toNatClampNeg)), some (.int a5), some (.int (s (c3 + 4) a4.toNatClampNeg)), some (.int 0), none] [.int (s (c1 + 1) (s (c2 + 1) a5.toNatClampNeg).toNatClampNeg)] s
                            refine q_istore (pc' := 48) (ls' := [some (.ref c2), some (.ref c1), some (.int (s (c3 + 1) a4.toNatClampNeg)), some (.int a5), some (.int (s (c3 + 4) a4.toNatClampNeg)), some (.int 0), some (.int (s (c1 + 1) (s (c2 + 1) a5.toNatClampNeg).toNatClampNeg))]) ja_Sections_gain_46 rfl ⟨Nat.le_of_ble_eq_true rfl, rfl⟩ rfl ?_
                            refine q_iload (pc' := 50) ja_Sections_gain_48 rfl rfl ?_
                            refine q_iload (pc' := 52) ja_Sections_gain_50 rfl rfl ?_
                            refine q_isub (pc' := 53) ja_Sections_gain_52 rfl ?_
                            refine q_iret ja_Sections_gain_53 rfl rfl ?_
                            show q_W _ _ _ _ 165 [some (.ref 0), some (.ref c1), some (.ref c2), some (.ref c3), some (.int a4), some (.int a5), some (.int (s (c3 + 1) a4.toNatClampNeg))] [.int (0 - (s (c1 + 1) (s (c2 + 1) a5.toNatClampNeg).toNatClampNeg))] s
                            refine q_stat (pc' := 168) (as := [.int (0 - (s (c1 + 1) (s (c2 + 1) a5.toNatClampNeg).toNatClampNeg))]) (r := []) ja_C_choice_165 rfl (by decide) rfl rfl ?_
                            refine q_in (M := jm_C_bySign) rfl (Nat.le_of_ble_eq_true rfl) (ls := [some (.int (0 - (s (c1 + 1) (s (c2 + 1) a5.toNatClampNeg).toNatClampNeg)))]) rfl ?_
                            refine q_iload_n (pc' := 1) ja_C_bySign_0 rfl rfl ?_
                            refine q_if_le (pc' := 4) ja_C_bySign_1 rfl ?_ ?_
                            · intro h89
                              refine q_iload_n (pc' := 9) ja_C_bySign_8 rfl rfl ?_
                              refine q_if_ge (pc' := 12) ja_C_bySign_9 rfl ?_ ?_
                              · intro h90
                                refine q_iconst (pc' := 17) ja_C_bySign_16 rfl 0 (by decide) ?_
                                refine q_iret ja_C_bySign_17 rfl rfl ?_
                                show q_W _ _ _ _ 168 [some (.ref 0), some (.ref c1), some (.ref c2), some (.ref c3), some (.int a4), some (.int a5), some (.int (s (c3 + 1) a4.toNatClampNeg))] [.int 0] s
                                exact q_iret ja_C_choice_168 rfl rfl (k49 h2 h4 h6 h8 h10 h11 h12 h13 h14 h15 h31 h32 h34 h82 h84 h86 h88 h89 h90)
                              · intro h91
                                refine q_iconst (pc' := 13) ja_C_bySign_12 rfl 2 (by decide) ?_
                                refine q_goto ja_C_bySign_13 ?_
                                refine q_iret ja_C_bySign_17 rfl rfl ?_
                                show q_W _ _ _ _ 168 [some (.ref 0), some (.ref c1), some (.ref c2), some (.ref c3), some (.int a4), some (.int a5), some (.int (s (c3 + 1) a4.toNatClampNeg))] [.int 2] s
                                exact q_iret ja_C_choice_168 rfl rfl (k50 h2 h4 h6 h8 h10 h11 h12 h13 h14 h15 h31 h32 h34 h82 h84 h86 h88 h89 h91)
                            · intro h92
                              refine q_iconst (pc' := 5) ja_C_bySign_4 rfl 1 (by decide) ?_
                              refine q_goto ja_C_bySign_5 ?_
                              refine q_iret ja_C_bySign_17 rfl rfl ?_
                              show q_W _ _ _ _ 168 [some (.ref 0), some (.ref c1), some (.ref c2), some (.ref c3), some (.int a4), some (.int a5), some (.int (s (c3 + 1) a4.toNatClampNeg))] [.int 1] s
                              exact q_iret ja_C_choice_168 rfl rfl (k51 h2 h4 h6 h8 h10 h11 h12 h13 h14 h15 h31 h32 h34 h82 h84 h86 h88 h92)
                · intro h93
                  refine q_iload_n (pc' := 10) ja_Sections_canChange_9 rfl rfl ?_
                  refine q_aload_n (pc' := 11) ja_Sections_canChange_10 rfl rfl ?_
                  refine q_getf (pc' := 14) (v := .int (s c2 0)) ja_Sections_canChange_11 rfl (f_8_c hc2) ⟨by rw [f_8_k hc2], by decide⟩ (f_i (f_8_k hc2) rfl) ?_
                  refine q_ic_gt (pc' := 17) ja_Sections_canChange_14 rfl ?_ ?_
                  · intro h94
                    refine q_iconst (pc' := 45) ja_Sections_canChange_44 rfl 0 (by decide) ?_
                    refine q_iret ja_Sections_canChange_45 rfl (by decide) ?_
                    show q_W _ _ _ _ 6 [some (.ref c2), some (.ref c1), some (.int (s (c3 + 1) a4.toNatClampNeg)), some (.int a5), some (.int (s (c3 + 4) a4.toNatClampNeg)), none, none] [.int 0] s
                    refine q_if_ne (pc' := 9) ja_Sections_gain_6 rfl (fun h => absurd ((by decide : (0 : Int32) = 0)) h) (fun _ => ?_)
                    refine q_iconst (pc' := 10) ja_Sections_gain_9 rfl 0 (by decide) ?_
                    refine q_iret ja_Sections_gain_10 rfl rfl ?_
                    show q_W _ _ _ _ 165 [some (.ref 0), some (.ref c1), some (.ref c2), some (.ref c3), some (.int a4), some (.int a5), some (.int (s (c3 + 1) a4.toNatClampNeg))] [.int 0] s
                    refine q_stat (pc' := 168) (as := [.int 0]) (r := []) ja_C_choice_165 rfl (by decide) rfl rfl ?_
                    refine q_in (M := jm_C_bySign) rfl (Nat.le_of_ble_eq_true rfl) (ls := [some (.int 0)]) rfl ?_
                    refine q_iload_n (pc' := 1) ja_C_bySign_0 rfl rfl ?_
                    refine q_if_le (pc' := 4) ja_C_bySign_1 rfl (fun _ => ?_) (fun h => absurd ((by decide : (0 : Int32) ≤ 0)) h)
                    refine q_iload_n (pc' := 9) ja_C_bySign_8 rfl rfl ?_
                    refine q_if_ge (pc' := 12) ja_C_bySign_9 rfl (fun _ => ?_) (fun h => absurd h ((by decide : ¬ (0 : Int32) < 0)))
                    refine q_iconst (pc' := 17) ja_C_bySign_16 rfl 0 (by decide) ?_
                    refine q_iret ja_C_bySign_17 rfl rfl ?_
                    show q_W _ _ _ _ 168 [some (.ref 0), some (.ref c1), some (.ref c2), some (.ref c3), some (.int a4), some (.int a5), some (.int (s (c3 + 1) a4.toNatClampNeg))] [.int 0] s
                    exact q_iret ja_C_choice_168 rfl rfl (k52 h2 h4 h6 h8 h10 h11 h12 h13 h14 h15 h31 h93 h94)
                  · intro h95
                    refine q_aload_n (pc' := 18) ja_Sections_canChange_17 rfl rfl ?_
                    refine q_getf (pc' := 21) (v := .int (s c2 0)) ja_Sections_canChange_18 rfl (f_8_c hc2) ⟨by rw [f_8_k hc2], by decide⟩ (f_i (f_8_k hc2) rfl) ?_
                    refine q_aload_n (pc' := 22) ja_Sections_canChange_21 rfl rfl ?_
                    refine q_getf (pc' := 25) (v := .ref (c2 + 1)) ja_Sections_canChange_22 rfl (f_8_c hc2) ⟨by rw [f_8_k hc2], by decide⟩ (f_8_g1 hc2) ?_
                    refine q_alen (pc' := 26) ja_Sections_canChange_25 rfl (f_a_c (f_8_s1 hc2)) (kd := 13) (l := 10) (f_a_k (f_8_s1 hc2)) (by decide) (v := 10) (by decide) ?_
                    refine q_ic_ge (pc' := 29) ja_Sections_canChange_26 rfl ?_ ?_
                    · intro h96
                      refine q_iconst (pc' := 45) ja_Sections_canChange_44 rfl 0 (by decide) ?_
                      refine q_iret ja_Sections_canChange_45 rfl (by decide) ?_
                      show q_W _ _ _ _ 6 [some (.ref c2), some (.ref c1), some (.int (s (c3 + 1) a4.toNatClampNeg)), some (.int a5), some (.int (s (c3 + 4) a4.toNatClampNeg)), none, none] [.int 0] s
                      refine q_if_ne (pc' := 9) ja_Sections_gain_6 rfl (fun h => absurd ((by decide : (0 : Int32) = 0)) h) (fun _ => ?_)
                      refine q_iconst (pc' := 10) ja_Sections_gain_9 rfl 0 (by decide) ?_
                      refine q_iret ja_Sections_gain_10 rfl rfl ?_
                      show q_W _ _ _ _ 165 [some (.ref 0), some (.ref c1), some (.ref c2), some (.ref c3), some (.int a4), some (.int a5), some (.int (s (c3 + 1) a4.toNatClampNeg))] [.int 0] s
                      refine q_stat (pc' := 168) (as := [.int 0]) (r := []) ja_C_choice_165 rfl (by decide) rfl rfl ?_
                      refine q_in (M := jm_C_bySign) rfl (Nat.le_of_ble_eq_true rfl) (ls := [some (.int 0)]) rfl ?_
                      refine q_iload_n (pc' := 1) ja_C_bySign_0 rfl rfl ?_
                      refine q_if_le (pc' := 4) ja_C_bySign_1 rfl (fun _ => ?_) (fun h => absurd ((by decide : (0 : Int32) ≤ 0)) h)
                      refine q_iload_n (pc' := 9) ja_C_bySign_8 rfl rfl ?_
                      refine q_if_ge (pc' := 12) ja_C_bySign_9 rfl (fun _ => ?_) (fun h => absurd h ((by decide : ¬ (0 : Int32) < 0)))
                      refine q_iconst (pc' := 17) ja_C_bySign_16 rfl 0 (by decide) ?_
                      refine q_iret ja_C_bySign_17 rfl rfl ?_
                      show q_W _ _ _ _ 168 [some (.ref 0), some (.ref c1), some (.ref c2), some (.ref c3), some (.int a4), some (.int a5), some (.int (s (c3 + 1) a4.toNatClampNeg))] [.int 0] s
                      exact q_iret ja_C_choice_168 rfl rfl (k53 h2 h4 h6 h8 h10 h11 h12 h13 h14 h15 h31 h93 h95 h96)
                    · intro h97
                      refine q_goto ja_Sections_canChange_29 ?_
                      refine q_iconst (pc' := 41) ja_Sections_canChange_40 rfl 1 (by decide) ?_
                      refine q_goto ja_Sections_canChange_41 ?_
                      refine q_iret ja_Sections_canChange_45 rfl (by decide) ?_
                      show q_W _ _ _ _ 6 [some (.ref c2), some (.ref c1), some (.int (s (c3 + 1) a4.toNatClampNeg)), some (.int a5), some (.int (s (c3 + 4) a4.toNatClampNeg)), none, none] [.int 1] s
                      refine q_if_ne (pc' := 9) ja_Sections_gain_6 rfl (fun _ => ?_) (fun h => absurd h ((by decide : ¬ (1 : Int32) = 0)))
                      refine q_iload_n (pc' := 12) ja_Sections_gain_11 rfl rfl ?_
                      refine q_iconst (pc' := 13) ja_Sections_gain_12 rfl 1 (by decide) ?_
                      refine q_ic_ne (pc' := 16) ja_Sections_gain_13 rfl ?_ ?_
                      · intro h98
                        refine q_aload_n (pc' := 21) ja_Sections_gain_20 rfl rfl ?_
                        refine q_iload (pc' := 23) ja_Sections_gain_21 rfl rfl ?_
                        refine q_virt (pc' := 26) (c := c1) (as := [.int (s (c3 + 4) a4.toNatClampNeg)]) (r := []) ja_Sections_gain_23 rfl rfl rfl (f_5_c hc1) ⟨by rw [f_5_k hc1], by decide⟩ ?_
                        refine q_in (M := jm_Member_liking) rfl (Nat.le_of_ble_eq_true rfl) (ls := [some (.ref c1), some (.int (s (c3 + 4) a4.toNatClampNeg))]) rfl ?_
                        refine q_iload_n (pc' := 1) ja_Member_liking_0 rfl rfl ?_
                        refine q_if_lt (pc' := 4) ja_Member_liking_1 rfl ?_ ?_
                        · intro h99
                          refine q_iconst (pc' := 23) ja_Member_liking_22 rfl 0 (by decide) ?_
                          refine q_iret ja_Member_liking_23 rfl rfl ?_
                          show q_W _ _ _ _ 26 [some (.ref c2), some (.ref c1), some (.int (s (c3 + 1) a4.toNatClampNeg)), some (.int a5), some (.int (s (c3 + 4) a4.toNatClampNeg)), none, none] [.int 0] s
                          refine q_istore (pc' := 28) (ls' := [some (.ref c2), some (.ref c1), some (.int (s (c3 + 1) a4.toNatClampNeg)), some (.int a5), some (.int (s (c3 + 4) a4.toNatClampNeg)), some (.int 0), none]) ja_Sections_gain_26 rfl ⟨Nat.le_of_ble_eq_true rfl, rfl⟩ rfl ?_
                          refine q_iload_n (pc' := 29) ja_Sections_gain_28 rfl rfl ?_
                          refine q_iconst (pc' := 30) ja_Sections_gain_29 rfl 2 (by decide) ?_
                          refine q_ic_ne (pc' := 33) ja_Sections_gain_30 rfl (fun h => absurd (h93) h) (fun _ => ?_)
                          refine q_iconst (pc' := 34) ja_Sections_gain_33 rfl 0 (by decide) ?_
                          refine q_goto ja_Sections_gain_34 ?_
                          refine q_istore (pc' := 48) (ls' := [some (.ref c2), some (.ref c1), some (.int (s (c3 + 1) a4.toNatClampNeg)), some (.int a5), some (.int (s (c3 + 4) a4.toNatClampNeg)), some (.int 0), some (.int 0)]) ja_Sections_gain_46 rfl ⟨Nat.le_of_ble_eq_true rfl, rfl⟩ rfl ?_
                          refine q_iload (pc' := 50) ja_Sections_gain_48 rfl rfl ?_
                          refine q_iload (pc' := 52) ja_Sections_gain_50 rfl rfl ?_
                          refine q_isub (pc' := 53) ja_Sections_gain_52 rfl ?_
                          rw [show ((0 - 0) : Int32) = 0 from by decide]
                          refine q_iret ja_Sections_gain_53 rfl rfl ?_
                          show q_W _ _ _ _ 165 [some (.ref 0), some (.ref c1), some (.ref c2), some (.ref c3), some (.int a4), some (.int a5), some (.int (s (c3 + 1) a4.toNatClampNeg))] [.int 0] s
                          refine q_stat (pc' := 168) (as := [.int 0]) (r := []) ja_C_choice_165 rfl (by decide) rfl rfl ?_
                          refine q_in (M := jm_C_bySign) rfl (Nat.le_of_ble_eq_true rfl) (ls := [some (.int 0)]) rfl ?_
                          refine q_iload_n (pc' := 1) ja_C_bySign_0 rfl rfl ?_
                          refine q_if_le (pc' := 4) ja_C_bySign_1 rfl (fun _ => ?_) (fun h => absurd ((by decide : (0 : Int32) ≤ 0)) h)
                          refine q_iload_n (pc' := 9) ja_C_bySign_8 rfl rfl ?_
                          refine q_if_ge (pc' := 12) ja_C_bySign_9 rfl (fun _ => ?_) (fun h => absurd h ((by decide : ¬ (0 : Int32) < 0)))
                          refine q_iconst (pc' := 17) ja_C_bySign_16 rfl 0 (by decide) ?_
                          refine q_iret ja_C_bySign_17 rfl rfl ?_
                          show q_W _ _ _ _ 168 [some (.ref 0), some (.ref c1), some (.ref c2), some (.ref c3), some (.int a4), some (.int a5), some (.int (s (c3 + 1) a4.toNatClampNeg))] [.int 0] s
                          exact q_iret ja_C_choice_168 rfl rfl (k54 h2 h4 h6 h8 h10 h11 h12 h13 h14 h15 h31 h93 h95 h97 h98 h99)
                        · intro h100
                          refine q_iload_n (pc' := 5) ja_Member_liking_4 rfl rfl ?_
                          refine q_aload_n (pc' := 6) ja_Member_liking_5 rfl rfl ?_
                          refine q_getf (pc' := 9) (v := .ref (c1 + 1)) ja_Member_liking_6 rfl (f_5_c hc1) ⟨by rw [f_5_k hc1], by decide⟩ (f_5_g4 hc1) ?_
                          refine q_alen (pc' := 10) ja_Member_liking_9 rfl (f_a_c (f_5_s4 hc1)) (kd := 13) (l := 61) (f_a_k (f_5_s4 hc1)) (by decide) (v := 61) (by decide) ?_
                          refine q_ic_ge (pc' := 13) ja_Member_liking_10 rfl ?_ ?_
                          · intro h101
                            refine q_iconst (pc' := 23) ja_Member_liking_22 rfl 0 (by decide) ?_
                            refine q_iret ja_Member_liking_23 rfl rfl ?_
                            show q_W _ _ _ _ 26 [some (.ref c2), some (.ref c1), some (.int (s (c3 + 1) a4.toNatClampNeg)), some (.int a5), some (.int (s (c3 + 4) a4.toNatClampNeg)), none, none] [.int 0] s
                            refine q_istore (pc' := 28) (ls' := [some (.ref c2), some (.ref c1), some (.int (s (c3 + 1) a4.toNatClampNeg)), some (.int a5), some (.int (s (c3 + 4) a4.toNatClampNeg)), some (.int 0), none]) ja_Sections_gain_26 rfl ⟨Nat.le_of_ble_eq_true rfl, rfl⟩ rfl ?_
                            refine q_iload_n (pc' := 29) ja_Sections_gain_28 rfl rfl ?_
                            refine q_iconst (pc' := 30) ja_Sections_gain_29 rfl 2 (by decide) ?_
                            refine q_ic_ne (pc' := 33) ja_Sections_gain_30 rfl (fun h => absurd (h93) h) (fun _ => ?_)
                            refine q_iconst (pc' := 34) ja_Sections_gain_33 rfl 0 (by decide) ?_
                            refine q_goto ja_Sections_gain_34 ?_
                            refine q_istore (pc' := 48) (ls' := [some (.ref c2), some (.ref c1), some (.int (s (c3 + 1) a4.toNatClampNeg)), some (.int a5), some (.int (s (c3 + 4) a4.toNatClampNeg)), some (.int 0), some (.int 0)]) ja_Sections_gain_46 rfl ⟨Nat.le_of_ble_eq_true rfl, rfl⟩ rfl ?_
                            refine q_iload (pc' := 50) ja_Sections_gain_48 rfl rfl ?_
                            refine q_iload (pc' := 52) ja_Sections_gain_50 rfl rfl ?_
                            refine q_isub (pc' := 53) ja_Sections_gain_52 rfl ?_
                            rw [show ((0 - 0) : Int32) = 0 from by decide]
                            refine q_iret ja_Sections_gain_53 rfl rfl ?_
                            show q_W _ _ _ _ 165 [some (.ref 0), some (.ref c1), some (.ref c2), some (.ref c3), some (.int a4), some (.int a5), some (.int (s (c3 + 1) a4.toNatClampNeg))] [.int 0] s
                            refine q_stat (pc' := 168) (as := [.int 0]) (r := []) ja_C_choice_165 rfl (by decide) rfl rfl ?_
                            refine q_in (M := jm_C_bySign) rfl (Nat.le_of_ble_eq_true rfl) (ls := [some (.int 0)]) rfl ?_
                            refine q_iload_n (pc' := 1) ja_C_bySign_0 rfl rfl ?_
                            refine q_if_le (pc' := 4) ja_C_bySign_1 rfl (fun _ => ?_) (fun h => absurd ((by decide : (0 : Int32) ≤ 0)) h)
                            refine q_iload_n (pc' := 9) ja_C_bySign_8 rfl rfl ?_
                            refine q_if_ge (pc' := 12) ja_C_bySign_9 rfl (fun _ => ?_) (fun h => absurd h ((by decide : ¬ (0 : Int32) < 0)))
                            refine q_iconst (pc' := 17) ja_C_bySign_16 rfl 0 (by decide) ?_
                            refine q_iret ja_C_bySign_17 rfl rfl ?_
                            show q_W _ _ _ _ 168 [some (.ref 0), some (.ref c1), some (.ref c2), some (.ref c3), some (.int a4), some (.int a5), some (.int (s (c3 + 1) a4.toNatClampNeg))] [.int 0] s
                            exact q_iret ja_C_choice_168 rfl rfl (k55 h2 h4 h6 h8 h10 h11 h12 h13 h14 h15 h31 h93 h95 h97 h98 h100 h101)
                          · intro h102
                            refine q_aload_n (pc' := 14) ja_Member_liking_13 rfl rfl ?_
                            refine q_getf (pc' := 17) (v := .ref (c1 + 1)) ja_Member_liking_14 rfl (f_5_c hc1) ⟨by rw [f_5_k hc1], by decide⟩ (f_5_g4 hc1) ?_
                            refine q_iload_n (pc' := 18) ja_Member_liking_17 rfl rfl ?_
                            refine q_iald (pc' := 19) (v := .int (s (c1 + 1) (s (c3 + 4) a4.toNatClampNeg).toNatClampNeg)) ja_Member_liking_18 rfl (f_a_c (f_5_s4 hc1)) (l := 61) (f_a_k (f_5_s4 hc1)) (q_inr (l := 61) (by decide) h100 h102) (f_i (f_a_k (f_5_s4 hc1)) rfl) ?_
                            refine q_goto ja_Member_liking_19 ?_
                            refine q_iret ja_Member_liking_23 rfl rfl ?_
                            show q_W _ _ _ _ 26 [some (.ref c2), some (.ref c1), some (.int (s (c3 + 1) a4.toNatClampNeg)), some (.int a5), some (.int (s (c3 + 4) a4.toNatClampNeg)), none, none] [.int (s (c1 + 1) (s (c3 + 4) a4.toNatClampNeg).toNatClampNeg)] s
                            refine q_istore (pc' := 28) (ls' := [some (.ref c2), some (.ref c1), some (.int (s (c3 + 1) a4.toNatClampNeg)), some (.int a5), some (.int (s (c3 + 4) a4.toNatClampNeg)), some (.int (s (c1 + 1) (s (c3 + 4) a4.toNatClampNeg).toNatClampNeg)), none]) ja_Sections_gain_26 rfl ⟨Nat.le_of_ble_eq_true rfl, rfl⟩ rfl ?_
                            refine q_iload_n (pc' := 29) ja_Sections_gain_28 rfl rfl ?_
                            refine q_iconst (pc' := 30) ja_Sections_gain_29 rfl 2 (by decide) ?_
                            refine q_ic_ne (pc' := 33) ja_Sections_gain_30 rfl (fun h => absurd (h93) h) (fun _ => ?_)
                            refine q_iconst (pc' := 34) ja_Sections_gain_33 rfl 0 (by decide) ?_
                            refine q_goto ja_Sections_gain_34 ?_
                            refine q_istore (pc' := 48) (ls' := [some (.ref c2), some (.ref c1), some (.int (s (c3 + 1) a4.toNatClampNeg)), some (.int a5), some (.int (s (c3 + 4) a4.toNatClampNeg)), some (.int (s (c1 + 1) (s (c3 + 4) a4.toNatClampNeg).toNatClampNeg)), some (.int 0)]) ja_Sections_gain_46 rfl ⟨Nat.le_of_ble_eq_true rfl, rfl⟩ rfl ?_
                            refine q_iload (pc' := 50) ja_Sections_gain_48 rfl rfl ?_
                            refine q_iload (pc' := 52) ja_Sections_gain_50 rfl rfl ?_
                            refine q_isub (pc' := 53) ja_Sections_gain_52 rfl ?_
                            refine q_iret ja_Sections_gain_53 rfl rfl ?_
                            show q_W _ _ _ _ 165 [some (.ref 0), some (.ref c1), some (.ref c2), some (.ref c3), some (.int a4), some (.int a5), some (.int (s (c3 + 1) a4.toNatClampNeg))] [.int ((s (c1 + 1) (s (c3 + 4) a4.toNatClampNeg).toNatClampNeg) - 0)] s
                            refine q_stat (pc' := 168) (as := [.int ((s (c1 + 1) (s (c3 + 4) a4.toNatClampNeg).toNatClampNeg) - 0)]) (r := []) ja_C_choice_165 rfl (by decide) rfl rfl ?_
                            refine q_in (M := jm_C_bySign) rfl (Nat.le_of_ble_eq_true rfl) (ls := [some (.int ((s (c1 + 1) (s (c3 + 4) a4.toNatClampNeg).toNatClampNeg) - 0))]) rfl ?_
                            refine q_iload_n (pc' := 1) ja_C_bySign_0 rfl rfl ?_
                            refine q_if_le (pc' := 4) ja_C_bySign_1 rfl ?_ ?_
                            · intro h103
                              refine q_iload_n (pc' := 9) ja_C_bySign_8 rfl rfl ?_
                              refine q_if_ge (pc' := 12) ja_C_bySign_9 rfl ?_ ?_
                              · intro h104
                                refine q_iconst (pc' := 17) ja_C_bySign_16 rfl 0 (by decide) ?_
                                refine q_iret ja_C_bySign_17 rfl rfl ?_
                                show q_W _ _ _ _ 168 [some (.ref 0), some (.ref c1), some (.ref c2), some (.ref c3), some (.int a4), some (.int a5), some (.int (s (c3 + 1) a4.toNatClampNeg))] [.int 0] s
                                exact q_iret ja_C_choice_168 rfl rfl (k56 h2 h4 h6 h8 h10 h11 h12 h13 h14 h15 h31 h93 h95 h97 h98 h100 h102 h103 h104)
                              · intro h105
                                refine q_iconst (pc' := 13) ja_C_bySign_12 rfl 2 (by decide) ?_
                                refine q_goto ja_C_bySign_13 ?_
                                refine q_iret ja_C_bySign_17 rfl rfl ?_
                                show q_W _ _ _ _ 168 [some (.ref 0), some (.ref c1), some (.ref c2), some (.ref c3), some (.int a4), some (.int a5), some (.int (s (c3 + 1) a4.toNatClampNeg))] [.int 2] s
                                exact q_iret ja_C_choice_168 rfl rfl (k57 h2 h4 h6 h8 h10 h11 h12 h13 h14 h15 h31 h93 h95 h97 h98 h100 h102 h103 h105)
                            · intro h106
                              refine q_iconst (pc' := 5) ja_C_bySign_4 rfl 1 (by decide) ?_
                              refine q_goto ja_C_bySign_5 ?_
                              refine q_iret ja_C_bySign_17 rfl rfl ?_
                              show q_W _ _ _ _ 168 [some (.ref 0), some (.ref c1), some (.ref c2), some (.ref c3), some (.int a4), some (.int a5), some (.int (s (c3 + 1) a4.toNatClampNeg))] [.int 1] s
                              exact q_iret ja_C_choice_168 rfl rfl (k58 h2 h4 h6 h8 h10 h11 h12 h13 h14 h15 h31 h93 h95 h97 h98 h100 h102 h106)
                      · intro h107
                        refine q_iconst (pc' := 17) ja_Sections_gain_16 rfl 0 (by decide) ?_
                        refine q_goto ja_Sections_gain_17 ?_
                        refine q_istore (pc' := 28) (ls' := [some (.ref c2), some (.ref c1), some (.int (s (c3 + 1) a4.toNatClampNeg)), some (.int a5), some (.int (s (c3 + 4) a4.toNatClampNeg)), some (.int 0), none]) ja_Sections_gain_26 rfl ⟨Nat.le_of_ble_eq_true rfl, rfl⟩ rfl ?_
                        refine q_iload_n (pc' := 29) ja_Sections_gain_28 rfl rfl ?_
                        refine q_iconst (pc' := 30) ja_Sections_gain_29 rfl 2 (by decide) ?_
                        refine q_ic_ne (pc' := 33) ja_Sections_gain_30 rfl (fun h => absurd (h93) h) (fun _ => ?_)
                        refine q_iconst (pc' := 34) ja_Sections_gain_33 rfl 0 (by decide) ?_
                        refine q_goto ja_Sections_gain_34 ?_
                        refine q_istore (pc' := 48) (ls' := [some (.ref c2), some (.ref c1), some (.int (s (c3 + 1) a4.toNatClampNeg)), some (.int a5), some (.int (s (c3 + 4) a4.toNatClampNeg)), some (.int 0), some (.int 0)]) ja_Sections_gain_46 rfl ⟨Nat.le_of_ble_eq_true rfl, rfl⟩ rfl ?_
                        refine q_iload (pc' := 50) ja_Sections_gain_48 rfl rfl ?_
                        refine q_iload (pc' := 52) ja_Sections_gain_50 rfl rfl ?_
                        refine q_isub (pc' := 53) ja_Sections_gain_52 rfl ?_
                        rw [show ((0 - 0) : Int32) = 0 from by decide]
                        refine q_iret ja_Sections_gain_53 rfl rfl ?_
                        show q_W _ _ _ _ 165 [some (.ref 0), some (.ref c1), some (.ref c2), some (.ref c3), some (.int a4), some (.int a5), some (.int (s (c3 + 1) a4.toNatClampNeg))] [.int 0] s
                        refine q_stat (pc' := 168) (as := [.int 0]) (r := []) ja_C_choice_165 rfl (by decide) rfl rfl ?_
                        refine q_in (M := jm_C_bySign) rfl (Nat.le_of_ble_eq_true rfl) (ls := [some (.int 0)]) rfl ?_
                        refine q_iload_n (pc' := 1) ja_C_bySign_0 rfl rfl ?_
                        refine q_if_le (pc' := 4) ja_C_bySign_1 rfl (fun _ => ?_) (fun h => absurd ((by decide : (0 : Int32) ≤ 0)) h)
                        refine q_iload_n (pc' := 9) ja_C_bySign_8 rfl rfl ?_
                        refine q_if_ge (pc' := 12) ja_C_bySign_9 rfl (fun _ => ?_) (fun h => absurd h ((by decide : ¬ (0 : Int32) < 0)))
                        refine q_iconst (pc' := 17) ja_C_bySign_16 rfl 0 (by decide) ?_
                        refine q_iret ja_C_bySign_17 rfl rfl ?_
                        show q_W _ _ _ _ 168 [some (.ref 0), some (.ref c1), some (.ref c2), some (.ref c3), some (.int a4), some (.int a5), some (.int (s (c3 + 1) a4.toNatClampNeg))] [.int 0] s
                        exact q_iret ja_C_choice_168 rfl rfl (k59 h2 h4 h6 h8 h10 h11 h12 h13 h14 h15 h31 h93 h95 h97 h107)
            · intro h108
              refine q_aload_n (pc' := 34) ja_C_choice_33 rfl rfl ?_
              refine q_getf (pc' := 37) (v := .int (s c1 3)) ja_C_choice_34 rfl (f_5_c hc1) ⟨by rw [f_5_k hc1], by decide⟩ (f_i (f_5_k hc1) rfl) ?_
              exact q_iret ja_C_choice_37 rfl rfl (k60 h2 h4 h6 h8 h10 h108)
set_option maxRecDepth 20000 in
theorem t_C_choice_97 {G : jv_X} {d : Nat} {B : Option Value → jg_H → Prop} {s : jg_H} {x1 : Nat} (hx1 : f_5 x1) {x2 : Nat} (hx2 : f_8 x2) {x3 Lx3 : Nat} (hx3 : f_6 x3 Lx3) (x4 : Int32) (x5 : Int32) (x6 : Int32) (y0 : Int32)
    (k1 : y0 ≤ 0 → ¬ y0 < 0 → B (some (.int 0)) s)
    (k2 : y0 ≤ 0 → y0 < 0 → B (some (.int 2)) s)
    (k3 : ¬ y0 ≤ 0 → B (some (.int 1)) s) :
    q_W G (d + 2) jm_C_choice B 97 [some (.ref 0), some (.ref x1), some (.ref x2), some (.ref x3), some (.int x4), some (.int x5), some (.int x6)] [.int y0] s := by
  refine q_stat (pc' := 100) (as := [.int y0]) (r := []) ja_C_choice_97 rfl (by decide) rfl rfl ?_
  refine q_in (M := jm_C_bySign) rfl (Nat.le_of_ble_eq_true rfl) (ls := [some (.int y0)]) rfl ?_
  refine q_iload_n (pc' := 1) ja_C_bySign_0 rfl rfl ?_
  refine q_if_le (pc' := 4) ja_C_bySign_1 rfl ?_ ?_
  · intro h1
    refine q_iload_n (pc' := 9) ja_C_bySign_8 rfl rfl ?_
    refine q_if_ge (pc' := 12) ja_C_bySign_9 rfl ?_ ?_
    · intro h2
      refine q_iconst (pc' := 17) ja_C_bySign_16 rfl 0 (by decide) ?_
      refine q_iret ja_C_bySign_17 rfl rfl ?_
      show q_W _ _ _ _ 100 [some (.ref 0), some (.ref x1), some (.ref x2), some (.ref x3), some (.int x4), some (.int x5), some (.int x6)] [.int 0] s
      exact q_iret ja_C_choice_100 rfl rfl (k1 h1 h2)
    · intro h3
      refine q_iconst (pc' := 13) ja_C_bySign_12 rfl 2 (by decide) ?_
      refine q_goto ja_C_bySign_13 ?_
      refine q_iret ja_C_bySign_17 rfl rfl ?_
      show q_W _ _ _ _ 100 [some (.ref 0), some (.ref x1), some (.ref x2), some (.ref x3), some (.int x4), some (.int x5), some (.int x6)] [.int 2] s
      exact q_iret ja_C_choice_100 rfl rfl (k2 h1 h3)
  · intro h4
    refine q_iconst (pc' := 5) ja_C_bySign_4 rfl 1 (by decide) ?_
    refine q_goto ja_C_bySign_5 ?_
    refine q_iret ja_C_bySign_17 rfl rfl ?_
    show q_W _ _ _ _ 100 [some (.ref 0), some (.ref x1), some (.ref x2), some (.ref x3), some (.int x4), some (.int x5), some (.int x6)] [.int 1] s
    exact q_iret ja_C_choice_100 rfl rfl (k3 h4)
set_option maxRecDepth 20000 in
theorem t_C_choice_106 {G : jv_X} {d : Nat} {B : Option Value → jg_H → Prop} {s : jg_H} {x1 : Nat} (hx1 : f_5 x1) {x2 : Nat} (hx2 : f_8 x2) {x3 Lx3 : Nat} (hx3 : f_6 x3 Lx3) (x4 : Int32) (x5 : Int32) (x6 : Int32) (y0 : Int32)
    (k1 : (-y0) ≤ 0 → ¬ (-y0) < 0 → B (some (.int 0)) s)
    (k2 : (-y0) ≤ 0 → (-y0) < 0 → B (some (.int 2)) s)
    (k3 : ¬ (-y0) ≤ 0 → B (some (.int 1)) s) :
    q_W G (d + 2) jm_C_choice B 106 [some (.ref 0), some (.ref x1), some (.ref x2), some (.ref x3), some (.int x4), some (.int x5), some (.int x6)] [.int y0] s := by
  refine q_ineg (pc' := 107) ja_C_choice_106 rfl ?_
  refine q_stat (pc' := 110) (as := [.int (-y0)]) (r := []) ja_C_choice_107 rfl (by decide) rfl rfl ?_
  refine q_in (M := jm_C_bySign) rfl (Nat.le_of_ble_eq_true rfl) (ls := [some (.int (-y0))]) rfl ?_
  refine q_iload_n (pc' := 1) ja_C_bySign_0 rfl rfl ?_
  refine q_if_le (pc' := 4) ja_C_bySign_1 rfl ?_ ?_
  · intro h1
    refine q_iload_n (pc' := 9) ja_C_bySign_8 rfl rfl ?_
    refine q_if_ge (pc' := 12) ja_C_bySign_9 rfl ?_ ?_
    · intro h2
      refine q_iconst (pc' := 17) ja_C_bySign_16 rfl 0 (by decide) ?_
      refine q_iret ja_C_bySign_17 rfl rfl ?_
      show q_W _ _ _ _ 110 [some (.ref 0), some (.ref x1), some (.ref x2), some (.ref x3), some (.int x4), some (.int x5), some (.int x6)] [.int 0] s
      exact q_iret ja_C_choice_110 rfl rfl (k1 h1 h2)
    · intro h3
      refine q_iconst (pc' := 13) ja_C_bySign_12 rfl 2 (by decide) ?_
      refine q_goto ja_C_bySign_13 ?_
      refine q_iret ja_C_bySign_17 rfl rfl ?_
      show q_W _ _ _ _ 110 [some (.ref 0), some (.ref x1), some (.ref x2), some (.ref x3), some (.int x4), some (.int x5), some (.int x6)] [.int 2] s
      exact q_iret ja_C_choice_110 rfl rfl (k2 h1 h3)
  · intro h4
    refine q_iconst (pc' := 5) ja_C_bySign_4 rfl 1 (by decide) ?_
    refine q_goto ja_C_bySign_5 ?_
    refine q_iret ja_C_bySign_17 rfl rfl ?_
    show q_W _ _ _ _ 110 [some (.ref 0), some (.ref x1), some (.ref x2), some (.ref x3), some (.int x4), some (.int x5), some (.int x6)] [.int 1] s
    exact q_iret ja_C_choice_110 rfl rfl (k3 h4)
set_option maxRecDepth 20000 in
theorem t_C_choice_116 {G : jv_X} {d : Nat} {B : Option Value → jg_H → Prop} {s : jg_H} {x1 : Nat} (hx1 : f_5 x1) {x2 : Nat} (hx2 : f_8 x2) {x3 Lx3 : Nat} (hx3 : f_6 x3 Lx3) (x4 : Int32) (x5 : Int32) (x6 : Int32) (y0 : Int32)
    (k1 : ¬ y0 = 0 → B (some (.int 2)) s)
    (k2 : y0 = 0 → B (some (.int 1)) s) :
    q_W G (d + 2) jm_C_choice B 116 [some (.ref 0), some (.ref x1), some (.ref x2), some (.ref x3), some (.int x4), some (.int x5), some (.int x6)] [.int y0] s := by
  refine q_if_ne (pc' := 119) ja_C_choice_116 rfl ?_ ?_
  · intro h1
    refine q_iconst (pc' := 124) ja_C_choice_123 rfl 2 (by decide) ?_
    exact q_iret ja_C_choice_124 rfl rfl (k1 h1)
  · intro h2
    refine q_iconst (pc' := 120) ja_C_choice_119 rfl 1 (by decide) ?_
    refine q_goto ja_C_choice_120 ?_
    exact q_iret ja_C_choice_124 rfl rfl (k2 h2)
set_option maxRecDepth 20000 in
theorem t_C_comes {G : jv_X} {d : Nat} {B : Option Value → jg_H → Prop} {s : jg_H} (a1 : Int32) (a2 : Int32)
    (k1 : a1 < 0 → B (some (.int (-2))) s)
    (k2 : ¬ a1 < 0 → ¬ a1 < (s 0 1) → B (some (.int (-2))) s)
    (k3 : ¬ a1 < 0 → a1 < (s 0 1) → ¬ a1 < 15 → B (some (.int (-2))) s)
    (k4 : ¬ a1 < 0 → a1 < (s 0 1) → a1 < 15 → ¬ (s (2 + 2 * a1.toNatClampNeg) 1) = a2 → a2 = 0 ∨ a2 = 1)
    (k5 : ¬ a1 < 0 → a1 < (s 0 1) → a1 < 15 → ¬ (s (2 + 2 * a1.toNatClampNeg) 1) = a2 → ∀ s1 : jg_H, s1 = jg_up s (2 + 2 * a1.toNatClampNeg) 1 a2 → B (some (.int 1)) s1)
    (k6 : ¬ a1 < 0 → a1 < (s 0 1) → a1 < 15 → (s (2 + 2 * a1.toNatClampNeg) 1) = a2 → B (some (.int 0)) s) :
    q_P G (d + 2) 45 [.ref 0, .int a1, .int a2] s B := by
  refine q_in (M := jm_C_comes) rfl (Nat.le_of_ble_eq_true rfl) (ls := [some (.ref 0), some (.int a1), some (.int a2)]) rfl ?_
  refine q_aload_n (pc' := 1) ja_C_comes_0 rfl rfl ?_
  refine q_iload_n (pc' := 2) ja_C_comes_1 rfl rfl ?_
  refine q_virt (pc' := 5) (c := 0) (as := [.int a1]) (r := []) ja_C_comes_2 rfl rfl rfl (by decide) ⟨rfl, by decide⟩ ?_
  refine q_in (M := jm_C_isMember) rfl (Nat.le_of_ble_eq_true rfl) (ls := [some (.ref 0), some (.int a1)]) rfl ?_
  refine q_iload_n (pc' := 1) ja_C_isMember_0 rfl rfl ?_
  refine q_if_lt (pc' := 4) ja_C_isMember_1 rfl ?_ ?_
  · intro h1
    refine q_iconst (pc' := 26) ja_C_isMember_25 rfl 0 (by decide) ?_
    refine q_iret ja_C_isMember_26 rfl (by decide) ?_
    show q_W _ _ _ _ 5 [some (.ref 0), some (.int a1), some (.int a2)] [.int 0] s
    refine q_if_ne (pc' := 8) ja_C_comes_5 rfl (fun h => absurd ((by decide : (0 : Int32) = 0)) h) (fun _ => ?_)
    refine q_bipush (pc' := 10) ja_C_comes_8 rfl (-2) (by decide) ?_
    exact q_iret ja_C_comes_10 rfl rfl (k1 h1)
  · intro h2
    refine q_iload_n (pc' := 5) ja_C_isMember_4 rfl rfl ?_
    refine q_aload_n (pc' := 6) ja_C_isMember_5 rfl rfl ?_
    refine q_getf (pc' := 9) (v := .int (s 0 1)) ja_C_isMember_6 rfl (by decide) ⟨rfl, by decide⟩ rfl ?_
    refine q_ic_ge (pc' := 12) ja_C_isMember_9 rfl ?_ ?_
    · intro h3
      refine q_iconst (pc' := 26) ja_C_isMember_25 rfl 0 (by decide) ?_
      refine q_iret ja_C_isMember_26 rfl (by decide) ?_
      show q_W _ _ _ _ 5 [some (.ref 0), some (.int a1), some (.int a2)] [.int 0] s
      refine q_if_ne (pc' := 8) ja_C_comes_5 rfl (fun h => absurd ((by decide : (0 : Int32) = 0)) h) (fun _ => ?_)
      refine q_bipush (pc' := 10) ja_C_comes_8 rfl (-2) (by decide) ?_
      exact q_iret ja_C_comes_10 rfl rfl (k2 h2 h3)
    · intro h4
      refine q_iload_n (pc' := 13) ja_C_isMember_12 rfl rfl ?_
      refine q_aload_n (pc' := 14) ja_C_isMember_13 rfl rfl ?_
      refine q_getf (pc' := 17) (v := .ref 1) ja_C_isMember_14 rfl (by decide) ⟨rfl, by decide⟩ rfl ?_
      refine q_alen (pc' := 18) ja_C_isMember_17 rfl (by decide) (kd := 16) (l := 15) rfl (by decide) (v := 15) (by decide) ?_
      refine q_ic_ge (pc' := 21) ja_C_isMember_18 rfl ?_ ?_
      · intro h5
        refine q_iconst (pc' := 26) ja_C_isMember_25 rfl 0 (by decide) ?_
        refine q_iret ja_C_isMember_26 rfl (by decide) ?_
        show q_W _ _ _ _ 5 [some (.ref 0), some (.int a1), some (.int a2)] [.int 0] s
        refine q_if_ne (pc' := 8) ja_C_comes_5 rfl (fun h => absurd ((by decide : (0 : Int32) = 0)) h) (fun _ => ?_)
        refine q_bipush (pc' := 10) ja_C_comes_8 rfl (-2) (by decide) ?_
        exact q_iret ja_C_comes_10 rfl rfl (k3 h2 h4 h5)
      · intro h6
        refine q_iconst (pc' := 22) ja_C_isMember_21 rfl 1 (by decide) ?_
        refine q_goto ja_C_isMember_22 ?_
        refine q_iret ja_C_isMember_26 rfl (by decide) ?_
        show q_W _ _ _ _ 5 [some (.ref 0), some (.int a1), some (.int a2)] [.int 1] s
        refine q_if_ne (pc' := 8) ja_C_comes_5 rfl (fun _ => ?_) (fun h => absurd h ((by decide : ¬ (1 : Int32) = 0)))
        refine q_aload_n (pc' := 12) ja_C_comes_11 rfl rfl ?_
        refine q_getf (pc' := 15) (v := .ref 1) ja_C_comes_12 rfl (by decide) ⟨rfl, by decide⟩ rfl ?_
        refine q_iload_n (pc' := 16) ja_C_comes_15 rfl rfl ?_
        refine q_aald (pc' := 17) (v := .ref (2 + 2 * a1.toNatClampNeg)) ja_C_comes_16 rfl (by decide) (kd := 16) (l := 15) rfl (by decide) (q_inr (l := 15) (by decide) h2 h6) (f_A1 (f_in (q_inr (l := 15) (by decide) h2 h6))) ?_
        refine q_getf (pc' := 20) (v := .int (s (2 + 2 * a1.toNatClampNeg) 1)) ja_C_comes_17 rfl (f_5_c (f_m1 (f_in (q_inr (l := 15) (by decide) h2 h6)))) ⟨by rw [f_5_k (f_m1 (f_in (q_inr (l := 15) (by decide) h2 h6)))], by decide⟩ (f_i (f_5_k (f_m1 (f_in (q_inr (l := 15) (by decide) h2 h6)))) rfl) ?_
        refine q_iload_n (pc' := 21) ja_C_comes_20 rfl rfl ?_
        refine q_ic_ne (pc' := 24) ja_C_comes_21 rfl ?_ ?_
        · intro h7
          refine q_aload_n (pc' := 27) ja_C_comes_26 rfl rfl ?_
          refine q_getf (pc' := 30) (v := .ref 1) ja_C_comes_27 rfl (by decide) ⟨rfl, by decide⟩ rfl ?_
          refine q_iload_n (pc' := 31) ja_C_comes_30 rfl rfl ?_
          refine q_aald (pc' := 32) (v := .ref (2 + 2 * a1.toNatClampNeg)) ja_C_comes_31 rfl (by decide) (kd := 16) (l := 15) rfl (by decide) (q_inr (l := 15) (by decide) h2 h6) (f_A1 (f_in (q_inr (l := 15) (by decide) h2 h6))) ?_
          refine q_iload_n (pc' := 33) ja_C_comes_32 rfl rfl ?_
          refine q_putf (pc' := 36) ja_C_comes_33 rfl (f_5_c (f_m1 (f_in (q_inr (l := 15) (by decide) h2 h6)))) (by rw [f_5_k (f_m1 (f_in (q_inr (l := 15) (by decide) h2 h6)))]) (f_fitb (k4 h2 h4 h6 h7)) (by rw [f_5_k (f_m1 (f_in (q_inr (l := 15) (by decide) h2 h6)))]; rfl) ?_
          intro s1 e1
          refine q_iconst (pc' := 37) ja_C_comes_36 rfl 1 (by decide) ?_
          exact q_iret ja_C_comes_37 rfl rfl (k5 h2 h4 h6 h7 s1 e1)
        · intro h8
          refine q_iconst (pc' := 25) ja_C_comes_24 rfl 0 (by decide) ?_
          exact q_iret ja_C_comes_25 rfl rfl (k6 h2 h4 h6 h8)
set_option maxRecDepth 20000 in
theorem t_C_comesTo {G : jv_X} {d : Nat} {B : Option Value → jg_H → Prop} {s : jg_H} (a1 : Int32) (a2 : Int32)
    (k1 : a1 < 0 → B (some (.int 0)) s)
    (k2 : ¬ a1 < 0 → ¬ a1 < (s 0 11) → B (some (.int 0)) s)
    (k3 : ¬ a1 < 0 → a1 < (s 0 11) → ¬ a1 < 8 → B (some (.int 0)) s)
    (k4 : ¬ a1 < 0 → a1 < (s 0 11) → a1 < 8 → q_P G (d + 1) 76 [.ref 0] s (fun v t => q_W G (d + 1) jm_C_comesTo B 22 [some (.ref 0), some (.int a1), some (.int a2)] (v.toList ++ [.int (s 0 19), .ref 119]) t)) :
    q_P G (d + 2) 75 [.ref 0, .int a1, .int a2] s B := by
  refine q_in (M := jm_C_comesTo) rfl (Nat.le_of_ble_eq_true rfl) (ls := [some (.ref 0), some (.int a1), some (.int a2)]) rfl ?_
  refine q_aload_n (pc' := 1) ja_C_comesTo_0 rfl rfl ?_
  refine q_iload_n (pc' := 2) ja_C_comesTo_1 rfl rfl ?_
  refine q_virt (pc' := 5) (c := 0) (as := [.int a1]) (r := []) ja_C_comesTo_2 rfl rfl rfl (by decide) ⟨rfl, by decide⟩ ?_
  refine q_in (M := jm_C_isText) rfl (Nat.le_of_ble_eq_true rfl) (ls := [some (.ref 0), some (.int a1)]) rfl ?_
  refine q_iload_n (pc' := 1) ja_C_isText_0 rfl rfl ?_
  refine q_if_lt (pc' := 4) ja_C_isText_1 rfl ?_ ?_
  · intro h1
    refine q_iconst (pc' := 26) ja_C_isText_25 rfl 0 (by decide) ?_
    refine q_iret ja_C_isText_26 rfl (by decide) ?_
    show q_W _ _ _ _ 5 [some (.ref 0), some (.int a1), some (.int a2)] [.int 0] s
    refine q_if_ne (pc' := 8) ja_C_comesTo_5 rfl (fun h => absurd ((by decide : (0 : Int32) = 0)) h) (fun _ => ?_)
    refine q_iconst (pc' := 9) ja_C_comesTo_8 rfl 0 (by decide) ?_
    exact q_iret ja_C_comesTo_9 rfl rfl (k1 h1)
  · intro h2
    refine q_iload_n (pc' := 5) ja_C_isText_4 rfl rfl ?_
    refine q_aload_n (pc' := 6) ja_C_isText_5 rfl rfl ?_
    refine q_getf (pc' := 9) (v := .int (s 0 11)) ja_C_isText_6 rfl (by decide) ⟨rfl, by decide⟩ rfl ?_
    refine q_ic_ge (pc' := 12) ja_C_isText_9 rfl ?_ ?_
    · intro h3
      refine q_iconst (pc' := 26) ja_C_isText_25 rfl 0 (by decide) ?_
      refine q_iret ja_C_isText_26 rfl (by decide) ?_
      show q_W _ _ _ _ 5 [some (.ref 0), some (.int a1), some (.int a2)] [.int 0] s
      refine q_if_ne (pc' := 8) ja_C_comesTo_5 rfl (fun h => absurd ((by decide : (0 : Int32) = 0)) h) (fun _ => ?_)
      refine q_iconst (pc' := 9) ja_C_comesTo_8 rfl 0 (by decide) ?_
      exact q_iret ja_C_comesTo_9 rfl rfl (k2 h2 h3)
    · intro h4
      refine q_iload_n (pc' := 13) ja_C_isText_12 rfl rfl ?_
      refine q_aload_n (pc' := 14) ja_C_isText_13 rfl rfl ?_
      refine q_getf (pc' := 17) (v := .ref 92) ja_C_isText_14 rfl (by decide) ⟨rfl, by decide⟩ rfl ?_
      refine q_alen (pc' := 18) ja_C_isText_17 rfl (by decide) (kd := 19) (l := 8) rfl (by decide) (v := 8) (by decide) ?_
      refine q_ic_ge (pc' := 21) ja_C_isText_18 rfl ?_ ?_
      · intro h5
        refine q_iconst (pc' := 26) ja_C_isText_25 rfl 0 (by decide) ?_
        refine q_iret ja_C_isText_26 rfl (by decide) ?_
        show q_W _ _ _ _ 5 [some (.ref 0), some (.int a1), some (.int a2)] [.int 0] s
        refine q_if_ne (pc' := 8) ja_C_comesTo_5 rfl (fun h => absurd ((by decide : (0 : Int32) = 0)) h) (fun _ => ?_)
        refine q_iconst (pc' := 9) ja_C_comesTo_8 rfl 0 (by decide) ?_
        exact q_iret ja_C_comesTo_9 rfl rfl (k3 h2 h4 h5)
      · intro h6
        refine q_iconst (pc' := 22) ja_C_isText_21 rfl 1 (by decide) ?_
        refine q_goto ja_C_isText_22 ?_
        refine q_iret ja_C_isText_26 rfl (by decide) ?_
        show q_W _ _ _ _ 5 [some (.ref 0), some (.int a1), some (.int a2)] [.int 1] s
        refine q_if_ne (pc' := 8) ja_C_comesTo_5 rfl (fun _ => ?_) (fun h => absurd h ((by decide : ¬ (1 : Int32) = 0)))
        refine q_aload_n (pc' := 11) ja_C_comesTo_10 rfl rfl ?_
        refine q_getf (pc' := 14) (v := .ref 119) ja_C_comesTo_11 rfl (by decide) ⟨rfl, by decide⟩ rfl ?_
        refine q_aload_n (pc' := 15) ja_C_comesTo_14 rfl rfl ?_
        refine q_getf (pc' := 18) (v := .int (s 0 19)) ja_C_comesTo_15 rfl (by decide) ⟨rfl, by decide⟩ rfl ?_
        refine q_aload_n (pc' := 19) ja_C_comesTo_18 rfl rfl ?_
        refine q_virt (pc' := 22) (c := 0) (as := []) (r := [.int (s 0 19), .ref 119]) ja_C_comesTo_19 rfl rfl rfl (by decide) ⟨rfl, by decide⟩ ?_
        exact (k4 h2 h4 h6)
set_option maxRecDepth 20000 in
theorem t_C_comesTo_22 {G : jv_X} {d : Nat} {B : Option Value → jg_H → Prop} {s : jg_H} (x1 : Int32) (x2 : Int32) (y1 : Int32) (y2 : Int32)
    (k1 : ∀ s1 : jg_H, s1 = jg_up s 120 2 y1 → ∀ s2 : jg_H, s2 = jg_up s1 120 4 y2 → ∀ s3 : jg_H, s3 = jg_up s2 120 5 (s 0 1) → jv_in x1 8 = true)
    (k2 : ∀ s1 : jg_H, s1 = jg_up s 120 2 y1 → ∀ s2 : jg_H, s2 = jg_up s1 120 4 y2 → ∀ s3 : jg_H, s3 = jg_up s2 120 5 (s 0 1) → q_P G (d + 1) 78 [.ref 119, .ref (93 + 3 * x1.toNatClampNeg), .int x2] s3 (fun v t => q_W G (d + 1) jm_C_comesTo B 43 [some (.ref 0), some (.int x1), some (.int x2)] (v.toList ++ []) t)) :
    q_W G (d + 1) jm_C_comesTo B 22 [some (.ref 0), some (.int x1), some (.int x2)] [.int y2, .int y1, .ref 119] s := by
  refine q_aload_n (pc' := 23) ja_C_comesTo_22 rfl rfl ?_
  refine q_getf (pc' := 26) (v := .int (s 0 1)) ja_C_comesTo_23 rfl (by decide) ⟨rfl, by decide⟩ rfl ?_
  refine q_virt (pc' := 29) (c := 119) (as := [.int y1, .int y2, .int (s 0 1)]) (r := []) ja_C_comesTo_26 rfl rfl rfl (by decide) ⟨rfl, by decide⟩ ?_
  refine q_in (M := jm_Machine_setsHouse) rfl (Nat.le_of_ble_eq_true rfl) (ls := [some (.ref 119), some (.int y1), some (.int y2), some (.int (s 0 1))]) rfl ?_
  refine q_aload_n (pc' := 1) ja_Machine_setsHouse_0 rfl rfl ?_
  refine q_getf (pc' := 4) (v := .ref 120) ja_Machine_setsHouse_1 rfl (by decide) ⟨rfl, by decide⟩ rfl ?_
  refine q_iconst (pc' := 5) ja_Machine_setsHouse_4 rfl 2 (by decide) ?_
  refine q_iload_n (pc' := 6) ja_Machine_setsHouse_5 rfl rfl ?_
  refine q_iast (pc' := 7) ja_Machine_setsHouse_6 rfl (by decide) (l := 8) rfl (by decide) ?_
  intro s1 e1
  refine q_aload_n (pc' := 8) ja_Machine_setsHouse_7 rfl rfl ?_
  refine q_getf (pc' := 11) (v := .ref 120) ja_Machine_setsHouse_8 rfl (by decide) ⟨rfl, by decide⟩ rfl ?_
  refine q_iconst (pc' := 12) ja_Machine_setsHouse_11 rfl 4 (by decide) ?_
  refine q_iload_n (pc' := 13) ja_Machine_setsHouse_12 rfl rfl ?_
  refine q_iast (pc' := 14) ja_Machine_setsHouse_13 rfl (by decide) (l := 8) rfl (by decide) ?_
  intro s2 e2
  refine q_aload_n (pc' := 15) ja_Machine_setsHouse_14 rfl rfl ?_
  refine q_getf (pc' := 18) (v := .ref 120) ja_Machine_setsHouse_15 rfl (by decide) ⟨rfl, by decide⟩ rfl ?_
  refine q_iconst (pc' := 19) ja_Machine_setsHouse_18 rfl 5 (by decide) ?_
  refine q_iload_n (pc' := 20) ja_Machine_setsHouse_19 rfl rfl ?_
  refine q_iast (pc' := 21) ja_Machine_setsHouse_20 rfl (by decide) (l := 8) rfl (by decide) ?_
  intro s3 e3
  refine q_vret ja_Machine_setsHouse_21 rfl ?_
  show q_W _ _ _ _ 29 [some (.ref 0), some (.int x1), some (.int x2)] [] s3
  refine q_aload_n (pc' := 30) ja_C_comesTo_29 rfl rfl ?_
  refine q_getf (pc' := 33) (v := .ref 119) ja_C_comesTo_30 rfl (by decide) ⟨rfl, by decide⟩ rfl ?_
  refine q_aload_n (pc' := 34) ja_C_comesTo_33 rfl rfl ?_
  refine q_getf (pc' := 37) (v := .ref 92) ja_C_comesTo_34 rfl (by decide) ⟨rfl, by decide⟩ rfl ?_
  refine q_iload_n (pc' := 38) ja_C_comesTo_37 rfl rfl ?_
  refine q_aald (pc' := 39) (v := .ref (93 + 3 * x1.toNatClampNeg)) ja_C_comesTo_38 rfl (by decide) (kd := 19) (l := 8) rfl (by decide) (k1 s1 e1 s2 e2 s3 e3) (f_A92 (f_in (k1 s1 e1 s2 e2 s3 e3))) ?_
  refine q_iload_n (pc' := 40) ja_C_comesTo_39 rfl rfl ?_
  refine q_virt (pc' := 43) (c := 119) (as := [.ref (93 + 3 * x1.toNatClampNeg), .int x2]) (r := []) ja_C_comesTo_40 rfl rfl rfl (by decide) ⟨rfl, by decide⟩ ?_
  exact (k2 s1 e1 s2 e2 s3 e3)
set_option maxRecDepth 20000 in
theorem t_C_comesTo_43 {G : jv_X} {d : Nat} {B : Option Value → jg_H → Prop} {s : jg_H} (x1 : Int32) (x2 : Int32) (y0 : Int32)
    (k1 : B (some (.int y0)) s) :
    q_W G (d + 1) jm_C_comesTo B 43 [some (.ref 0), some (.int x1), some (.int x2)] [.int y0] s := by
  exact q_iret ja_C_comesTo_43 rfl rfl k1
set_option maxRecDepth 20000 in
theorem t_C_confer {G : jv_X} {d : Nat} {B : Option Value → jg_H → Prop} {s : jg_H} (a1 : Int32) (a2 : Int32)
    (k1 : a1 < 0 → B (some (.int (-2))) s)
    (k2 : ¬ a1 < 0 → ¬ a1 < (s 0 3) → B (some (.int (-2))) s)
    (k3 : ¬ a1 < 0 → a1 < (s 0 3) → ¬ a1 < 8 → B (some (.int (-2))) s)
    (k4 : ¬ a1 < 0 → a1 < (s 0 3) → a1 < 8 → a2 < 0 → B (some (.int (-2))) s)
    (k5 : ¬ a1 < 0 → a1 < (s 0 3) → a1 < 8 → ¬ a2 < 0 → ¬ a2 < (s 0 3) → B (some (.int (-2))) s)
    (k6 : ¬ a1 < 0 → a1 < (s 0 3) → a1 < 8 → ¬ a2 < 0 → a2 < (s 0 3) → ¬ a2 < 8 → B (some (.int (-2))) s)
    (k7 : ¬ a1 < 0 → a1 < (s 0 3) → a1 < 8 → ¬ a2 < 0 → a2 < (s 0 3) → a2 < 8 → ¬ a1 = a2 → q_P G (d + 1) 118 [.ref 123, .ref ((33 + 3 * a1.toNatClampNeg) + 1), .ref ((33 + 3 * a2.toNatClampNeg) + 1)] s (fun v t => q_W G (d + 1) jm_C_confer B 49 [some (.ref 0), some (.int a1), some (.int a2)] (v.toList ++ []) t))
    (k8 : ¬ a1 < 0 → a1 < (s 0 3) → a1 < 8 → ¬ a2 < 0 → a2 < (s 0 3) → a2 < 8 → a1 = a2 → B (some (.int (-2))) s) :
    q_P G (d + 2) 117 [.ref 0, .int a1, .int a2] s B := by
  refine q_in (M := jm_C_confer) rfl (Nat.le_of_ble_eq_true rfl) (ls := [some (.ref 0), some (.int a1), some (.int a2)]) rfl ?_
  refine q_aload_n (pc' := 1) ja_C_confer_0 rfl rfl ?_
  refine q_iload_n (pc' := 2) ja_C_confer_1 rfl rfl ?_
  refine q_virt (pc' := 5) (c := 0) (as := [.int a1]) (r := []) ja_C_confer_2 rfl rfl rfl (by decide) ⟨rfl, by decide⟩ ?_
  refine q_in (M := jm_C_isBill) rfl (Nat.le_of_ble_eq_true rfl) (ls := [some (.ref 0), some (.int a1)]) rfl ?_
  refine q_iload_n (pc' := 1) ja_C_isBill_0 rfl rfl ?_
  refine q_if_lt (pc' := 4) ja_C_isBill_1 rfl ?_ ?_
  · intro h1
    refine q_iconst (pc' := 26) ja_C_isBill_25 rfl 0 (by decide) ?_
    refine q_iret ja_C_isBill_26 rfl (by decide) ?_
    show q_W _ _ _ _ 5 [some (.ref 0), some (.int a1), some (.int a2)] [.int 0] s
    refine q_if_eq (pc' := 8) ja_C_confer_5 rfl (fun _ => ?_) (fun h => absurd ((by decide : (0 : Int32) = 0)) h)
    refine q_bipush (pc' := 23) ja_C_confer_21 rfl (-2) (by decide) ?_
    exact q_iret ja_C_confer_23 rfl rfl (k1 h1)
  · intro h2
    refine q_iload_n (pc' := 5) ja_C_isBill_4 rfl rfl ?_
    refine q_aload_n (pc' := 6) ja_C_isBill_5 rfl rfl ?_
    refine q_getf (pc' := 9) (v := .int (s 0 3)) ja_C_isBill_6 rfl (by decide) ⟨rfl, by decide⟩ rfl ?_
    refine q_ic_ge (pc' := 12) ja_C_isBill_9 rfl ?_ ?_
    · intro h3
      refine q_iconst (pc' := 26) ja_C_isBill_25 rfl 0 (by decide) ?_
      refine q_iret ja_C_isBill_26 rfl (by decide) ?_
      show q_W _ _ _ _ 5 [some (.ref 0), some (.int a1), some (.int a2)] [.int 0] s
      refine q_if_eq (pc' := 8) ja_C_confer_5 rfl (fun _ => ?_) (fun h => absurd ((by decide : (0 : Int32) = 0)) h)
      refine q_bipush (pc' := 23) ja_C_confer_21 rfl (-2) (by decide) ?_
      exact q_iret ja_C_confer_23 rfl rfl (k2 h2 h3)
    · intro h4
      refine q_iload_n (pc' := 13) ja_C_isBill_12 rfl rfl ?_
      refine q_aload_n (pc' := 14) ja_C_isBill_13 rfl rfl ?_
      refine q_getf (pc' := 17) (v := .ref 32) ja_C_isBill_14 rfl (by decide) ⟨rfl, by decide⟩ rfl ?_
      refine q_alen (pc' := 18) ja_C_isBill_17 rfl (by decide) (kd := 17) (l := 8) rfl (by decide) (v := 8) (by decide) ?_
      refine q_ic_ge (pc' := 21) ja_C_isBill_18 rfl ?_ ?_
      · intro h5
        refine q_iconst (pc' := 26) ja_C_isBill_25 rfl 0 (by decide) ?_
        refine q_iret ja_C_isBill_26 rfl (by decide) ?_
        show q_W _ _ _ _ 5 [some (.ref 0), some (.int a1), some (.int a2)] [.int 0] s
        refine q_if_eq (pc' := 8) ja_C_confer_5 rfl (fun _ => ?_) (fun h => absurd ((by decide : (0 : Int32) = 0)) h)
        refine q_bipush (pc' := 23) ja_C_confer_21 rfl (-2) (by decide) ?_
        exact q_iret ja_C_confer_23 rfl rfl (k3 h2 h4 h5)
      · intro h6
        refine q_iconst (pc' := 22) ja_C_isBill_21 rfl 1 (by decide) ?_
        refine q_goto ja_C_isBill_22 ?_
        refine q_iret ja_C_isBill_26 rfl (by decide) ?_
        show q_W _ _ _ _ 5 [some (.ref 0), some (.int a1), some (.int a2)] [.int 1] s
        refine q_if_eq (pc' := 8) ja_C_confer_5 rfl (fun h => absurd h ((by decide : ¬ (1 : Int32) = 0))) (fun _ => ?_)
        refine q_aload_n (pc' := 9) ja_C_confer_8 rfl rfl ?_
        refine q_iload_n (pc' := 10) ja_C_confer_9 rfl rfl ?_
        refine q_virt (pc' := 13) (c := 0) (as := [.int a2]) (r := []) ja_C_confer_10 rfl rfl rfl (by decide) ⟨rfl, by decide⟩ ?_
        refine q_in (M := jm_C_isBill) rfl (Nat.le_of_ble_eq_true rfl) (ls := [some (.ref 0), some (.int a2)]) rfl ?_
        refine q_iload_n (pc' := 1) ja_C_isBill_0 rfl rfl ?_
        refine q_if_lt (pc' := 4) ja_C_isBill_1 rfl ?_ ?_
        · intro h7
          refine q_iconst (pc' := 26) ja_C_isBill_25 rfl 0 (by decide) ?_
          refine q_iret ja_C_isBill_26 rfl (by decide) ?_
          show q_W _ _ _ _ 13 [some (.ref 0), some (.int a1), some (.int a2)] [.int 0] s
          refine q_if_eq (pc' := 16) ja_C_confer_13 rfl (fun _ => ?_) (fun h => absurd ((by decide : (0 : Int32) = 0)) h)
          refine q_bipush (pc' := 23) ja_C_confer_21 rfl (-2) (by decide) ?_
          exact q_iret ja_C_confer_23 rfl rfl (k4 h2 h4 h6 h7)
        · intro h8
          refine q_iload_n (pc' := 5) ja_C_isBill_4 rfl rfl ?_
          refine q_aload_n (pc' := 6) ja_C_isBill_5 rfl rfl ?_
          refine q_getf (pc' := 9) (v := .int (s 0 3)) ja_C_isBill_6 rfl (by decide) ⟨rfl, by decide⟩ rfl ?_
          refine q_ic_ge (pc' := 12) ja_C_isBill_9 rfl ?_ ?_
          · intro h9
            refine q_iconst (pc' := 26) ja_C_isBill_25 rfl 0 (by decide) ?_
            refine q_iret ja_C_isBill_26 rfl (by decide) ?_
            show q_W _ _ _ _ 13 [some (.ref 0), some (.int a1), some (.int a2)] [.int 0] s
            refine q_if_eq (pc' := 16) ja_C_confer_13 rfl (fun _ => ?_) (fun h => absurd ((by decide : (0 : Int32) = 0)) h)
            refine q_bipush (pc' := 23) ja_C_confer_21 rfl (-2) (by decide) ?_
            exact q_iret ja_C_confer_23 rfl rfl (k5 h2 h4 h6 h8 h9)
          · intro h10
            refine q_iload_n (pc' := 13) ja_C_isBill_12 rfl rfl ?_
            refine q_aload_n (pc' := 14) ja_C_isBill_13 rfl rfl ?_
            refine q_getf (pc' := 17) (v := .ref 32) ja_C_isBill_14 rfl (by decide) ⟨rfl, by decide⟩ rfl ?_
            refine q_alen (pc' := 18) ja_C_isBill_17 rfl (by decide) (kd := 17) (l := 8) rfl (by decide) (v := 8) (by decide) ?_
            refine q_ic_ge (pc' := 21) ja_C_isBill_18 rfl ?_ ?_
            · intro h11
              refine q_iconst (pc' := 26) ja_C_isBill_25 rfl 0 (by decide) ?_
              refine q_iret ja_C_isBill_26 rfl (by decide) ?_
              show q_W _ _ _ _ 13 [some (.ref 0), some (.int a1), some (.int a2)] [.int 0] s
              refine q_if_eq (pc' := 16) ja_C_confer_13 rfl (fun _ => ?_) (fun h => absurd ((by decide : (0 : Int32) = 0)) h)
              refine q_bipush (pc' := 23) ja_C_confer_21 rfl (-2) (by decide) ?_
              exact q_iret ja_C_confer_23 rfl rfl (k6 h2 h4 h6 h8 h10 h11)
            · intro h12
              refine q_iconst (pc' := 22) ja_C_isBill_21 rfl 1 (by decide) ?_
              refine q_goto ja_C_isBill_22 ?_
              refine q_iret ja_C_isBill_26 rfl (by decide) ?_
              show q_W _ _ _ _ 13 [some (.ref 0), some (.int a1), some (.int a2)] [.int 1] s
              refine q_if_eq (pc' := 16) ja_C_confer_13 rfl (fun h => absurd h ((by decide : ¬ (1 : Int32) = 0))) (fun _ => ?_)
              refine q_iload_n (pc' := 17) ja_C_confer_16 rfl rfl ?_
              refine q_iload_n (pc' := 18) ja_C_confer_17 rfl rfl ?_
              refine q_ic_ne (pc' := 21) ja_C_confer_18 rfl ?_ ?_
              · intro h13
                refine q_aload_n (pc' := 25) ja_C_confer_24 rfl rfl ?_
                refine q_getf (pc' := 28) (v := .ref 123) ja_C_confer_25 rfl (by decide) ⟨rfl, by decide⟩ rfl ?_
                refine q_aload_n (pc' := 29) ja_C_confer_28 rfl rfl ?_
                refine q_getf (pc' := 32) (v := .ref 32) ja_C_confer_29 rfl (by decide) ⟨rfl, by decide⟩ rfl ?_
                refine q_iload_n (pc' := 33) ja_C_confer_32 rfl rfl ?_
                refine q_aald (pc' := 34) (v := .ref (33 + 3 * a1.toNatClampNeg)) ja_C_confer_33 rfl (by decide) (kd := 17) (l := 8) rfl (by decide) (q_inr (l := 8) (by decide) h2 h6) (f_A32 (f_in (q_inr (l := 8) (by decide) h2 h6))) ?_
                refine q_getf (pc' := 37) (v := .ref ((33 + 3 * a1.toNatClampNeg) + 1)) ja_C_confer_34 rfl (f_1_c (f_m32 (f_in (q_inr (l := 8) (by decide) h2 h6)))) ⟨by rw [f_1_k (f_m32 (f_in (q_inr (l := 8) (by decide) h2 h6)))], by decide⟩ (f_1_g2 (f_m32 (f_in (q_inr (l := 8) (by decide) h2 h6)))) ?_
                refine q_aload_n (pc' := 38) ja_C_confer_37 rfl rfl ?_
                refine q_getf (pc' := 41) (v := .ref 32) ja_C_confer_38 rfl (by decide) ⟨rfl, by decide⟩ rfl ?_
                refine q_iload_n (pc' := 42) ja_C_confer_41 rfl rfl ?_
                refine q_aald (pc' := 43) (v := .ref (33 + 3 * a2.toNatClampNeg)) ja_C_confer_42 rfl (by decide) (kd := 17) (l := 8) rfl (by decide) (q_inr (l := 8) (by decide) h8 h12) (f_A32 (f_in (q_inr (l := 8) (by decide) h8 h12))) ?_
                refine q_getf (pc' := 46) (v := .ref ((33 + 3 * a2.toNatClampNeg) + 1)) ja_C_confer_43 rfl (f_1_c (f_m32 (f_in (q_inr (l := 8) (by decide) h8 h12)))) ⟨by rw [f_1_k (f_m32 (f_in (q_inr (l := 8) (by decide) h8 h12)))], by decide⟩ (f_1_g2 (f_m32 (f_in (q_inr (l := 8) (by decide) h8 h12)))) ?_
                refine q_virt (pc' := 49) (c := 123) (as := [.ref ((33 + 3 * a1.toNatClampNeg) + 1), .ref ((33 + 3 * a2.toNatClampNeg) + 1)]) (r := []) ja_C_confer_46 rfl rfl rfl (by decide) ⟨rfl, by decide⟩ ?_
                exact (k7 h2 h4 h6 h8 h10 h12 h13)
              · intro h14
                refine q_bipush (pc' := 23) ja_C_confer_21 rfl (-2) (by decide) ?_
                exact q_iret ja_C_confer_23 rfl rfl (k8 h2 h4 h6 h8 h10 h12 h14)
set_option maxRecDepth 20000 in
theorem t_C_confer_49 {G : jv_X} {d : Nat} {B : Option Value → jg_H → Prop} {s : jg_H} (x1 : Int32) (x2 : Int32) (y0 : Int32)
    (k1 : B (some (.int y0)) s) :
    q_W G (d + 1) jm_C_confer B 49 [some (.ref 0), some (.int x1), some (.int x2)] [.int y0] s := by
  exact q_iret ja_C_confer_49 rfl rfl k1
set_option maxRecDepth 20000 in
theorem t_C_conferred {G : jv_X} {d : Nat} {B : Option Value → jg_H → Prop} {s : jg_H} (a1 : Int32) (a2 : Int32) (a3 : Int32)
    (k1 : a1 < 0 → B (some (.int (-2))) s)
    (k2 : ¬ a1 < 0 → ¬ a1 < (s 0 3) → B (some (.int (-2))) s)
    (k3 : ¬ a1 < 0 → a1 < (s 0 3) → ¬ a1 < 8 → B (some (.int (-2))) s)
    (k4 : ¬ a1 < 0 → a1 < (s 0 3) → a1 < 8 → a2 < 0 → B (some (.int (-2))) s)
    (k5 : ¬ a1 < 0 → a1 < (s 0 3) → a1 < 8 → ¬ a2 < 0 → ¬ a2 < (s 0 3) → B (some (.int (-2))) s)
    (k6 : ¬ a1 < 0 → a1 < (s 0 3) → a1 < 8 → ¬ a2 < 0 → a2 < (s 0 3) → ¬ a2 < 8 → B (some (.int (-2))) s)
    (k7 : ¬ a1 < 0 → a1 < (s 0 3) → a1 < 8 → ¬ a2 < 0 → a2 < (s 0 3) → a2 < 8 → ¬ a1 = a2 → q_P G (d + 1) 118 [.ref 123, .ref ((33 + 3 * a1.toNatClampNeg) + 1), .ref ((33 + 3 * a2.toNatClampNeg) + 1)] s (fun v t => q_W G (d + 1) jm_C_conferred B 49 [some (.ref 0), some (.int a1), some (.int a2), some (.int a3), none] (v.toList ++ []) t))
    (k8 : ¬ a1 < 0 → a1 < (s 0 3) → a1 < 8 → ¬ a2 < 0 → a2 < (s 0 3) → a2 < 8 → a1 = a2 → B (some (.int (-2))) s) :
    q_P G (d + 2) 122 [.ref 0, .int a1, .int a2, .int a3] s B := by
  refine q_in (M := jm_C_conferred) rfl (Nat.le_of_ble_eq_true rfl) (ls := [some (.ref 0), some (.int a1), some (.int a2), some (.int a3), none]) rfl ?_
  refine q_aload_n (pc' := 1) ja_C_conferred_0 rfl rfl ?_
  refine q_iload_n (pc' := 2) ja_C_conferred_1 rfl rfl ?_
  refine q_virt (pc' := 5) (c := 0) (as := [.int a1]) (r := []) ja_C_conferred_2 rfl rfl rfl (by decide) ⟨rfl, by decide⟩ ?_
  refine q_in (M := jm_C_isBill) rfl (Nat.le_of_ble_eq_true rfl) (ls := [some (.ref 0), some (.int a1)]) rfl ?_
  refine q_iload_n (pc' := 1) ja_C_isBill_0 rfl rfl ?_
  refine q_if_lt (pc' := 4) ja_C_isBill_1 rfl ?_ ?_
  · intro h1
    refine q_iconst (pc' := 26) ja_C_isBill_25 rfl 0 (by decide) ?_
    refine q_iret ja_C_isBill_26 rfl (by decide) ?_
    show q_W _ _ _ _ 5 [some (.ref 0), some (.int a1), some (.int a2), some (.int a3), none] [.int 0] s
    refine q_if_eq (pc' := 8) ja_C_conferred_5 rfl (fun _ => ?_) (fun h => absurd ((by decide : (0 : Int32) = 0)) h)
    refine q_bipush (pc' := 23) ja_C_conferred_21 rfl (-2) (by decide) ?_
    exact q_iret ja_C_conferred_23 rfl rfl (k1 h1)
  · intro h2
    refine q_iload_n (pc' := 5) ja_C_isBill_4 rfl rfl ?_
    refine q_aload_n (pc' := 6) ja_C_isBill_5 rfl rfl ?_
    refine q_getf (pc' := 9) (v := .int (s 0 3)) ja_C_isBill_6 rfl (by decide) ⟨rfl, by decide⟩ rfl ?_
    refine q_ic_ge (pc' := 12) ja_C_isBill_9 rfl ?_ ?_
    · intro h3
      refine q_iconst (pc' := 26) ja_C_isBill_25 rfl 0 (by decide) ?_
      refine q_iret ja_C_isBill_26 rfl (by decide) ?_
      show q_W _ _ _ _ 5 [some (.ref 0), some (.int a1), some (.int a2), some (.int a3), none] [.int 0] s
      refine q_if_eq (pc' := 8) ja_C_conferred_5 rfl (fun _ => ?_) (fun h => absurd ((by decide : (0 : Int32) = 0)) h)
      refine q_bipush (pc' := 23) ja_C_conferred_21 rfl (-2) (by decide) ?_
      exact q_iret ja_C_conferred_23 rfl rfl (k2 h2 h3)
    · intro h4
      refine q_iload_n (pc' := 13) ja_C_isBill_12 rfl rfl ?_
      refine q_aload_n (pc' := 14) ja_C_isBill_13 rfl rfl ?_
      refine q_getf (pc' := 17) (v := .ref 32) ja_C_isBill_14 rfl (by decide) ⟨rfl, by decide⟩ rfl ?_
      refine q_alen (pc' := 18) ja_C_isBill_17 rfl (by decide) (kd := 17) (l := 8) rfl (by decide) (v := 8) (by decide) ?_
      refine q_ic_ge (pc' := 21) ja_C_isBill_18 rfl ?_ ?_
      · intro h5
        refine q_iconst (pc' := 26) ja_C_isBill_25 rfl 0 (by decide) ?_
        refine q_iret ja_C_isBill_26 rfl (by decide) ?_
        show q_W _ _ _ _ 5 [some (.ref 0), some (.int a1), some (.int a2), some (.int a3), none] [.int 0] s
        refine q_if_eq (pc' := 8) ja_C_conferred_5 rfl (fun _ => ?_) (fun h => absurd ((by decide : (0 : Int32) = 0)) h)
        refine q_bipush (pc' := 23) ja_C_conferred_21 rfl (-2) (by decide) ?_
        exact q_iret ja_C_conferred_23 rfl rfl (k3 h2 h4 h5)
      · intro h6
        refine q_iconst (pc' := 22) ja_C_isBill_21 rfl 1 (by decide) ?_
        refine q_goto ja_C_isBill_22 ?_
        refine q_iret ja_C_isBill_26 rfl (by decide) ?_
        show q_W _ _ _ _ 5 [some (.ref 0), some (.int a1), some (.int a2), some (.int a3), none] [.int 1] s
        refine q_if_eq (pc' := 8) ja_C_conferred_5 rfl (fun h => absurd h ((by decide : ¬ (1 : Int32) = 0))) (fun _ => ?_)
        refine q_aload_n (pc' := 9) ja_C_conferred_8 rfl rfl ?_
        refine q_iload_n (pc' := 10) ja_C_conferred_9 rfl rfl ?_
        refine q_virt (pc' := 13) (c := 0) (as := [.int a2]) (r := []) ja_C_conferred_10 rfl rfl rfl (by decide) ⟨rfl, by decide⟩ ?_
        refine q_in (M := jm_C_isBill) rfl (Nat.le_of_ble_eq_true rfl) (ls := [some (.ref 0), some (.int a2)]) rfl ?_
        refine q_iload_n (pc' := 1) ja_C_isBill_0 rfl rfl ?_
        refine q_if_lt (pc' := 4) ja_C_isBill_1 rfl ?_ ?_
        · intro h7
          refine q_iconst (pc' := 26) ja_C_isBill_25 rfl 0 (by decide) ?_
          refine q_iret ja_C_isBill_26 rfl (by decide) ?_
          show q_W _ _ _ _ 13 [some (.ref 0), some (.int a1), some (.int a2), some (.int a3), none] [.int 0] s
          refine q_if_eq (pc' := 16) ja_C_conferred_13 rfl (fun _ => ?_) (fun h => absurd ((by decide : (0 : Int32) = 0)) h)
          refine q_bipush (pc' := 23) ja_C_conferred_21 rfl (-2) (by decide) ?_
          exact q_iret ja_C_conferred_23 rfl rfl (k4 h2 h4 h6 h7)
        · intro h8
          refine q_iload_n (pc' := 5) ja_C_isBill_4 rfl rfl ?_
          refine q_aload_n (pc' := 6) ja_C_isBill_5 rfl rfl ?_
          refine q_getf (pc' := 9) (v := .int (s 0 3)) ja_C_isBill_6 rfl (by decide) ⟨rfl, by decide⟩ rfl ?_
          refine q_ic_ge (pc' := 12) ja_C_isBill_9 rfl ?_ ?_
          · intro h9
            refine q_iconst (pc' := 26) ja_C_isBill_25 rfl 0 (by decide) ?_
            refine q_iret ja_C_isBill_26 rfl (by decide) ?_
            show q_W _ _ _ _ 13 [some (.ref 0), some (.int a1), some (.int a2), some (.int a3), none] [.int 0] s
            refine q_if_eq (pc' := 16) ja_C_conferred_13 rfl (fun _ => ?_) (fun h => absurd ((by decide : (0 : Int32) = 0)) h)
            refine q_bipush (pc' := 23) ja_C_conferred_21 rfl (-2) (by decide) ?_
            exact q_iret ja_C_conferred_23 rfl rfl (k5 h2 h4 h6 h8 h9)
          · intro h10
            refine q_iload_n (pc' := 13) ja_C_isBill_12 rfl rfl ?_
            refine q_aload_n (pc' := 14) ja_C_isBill_13 rfl rfl ?_
            refine q_getf (pc' := 17) (v := .ref 32) ja_C_isBill_14 rfl (by decide) ⟨rfl, by decide⟩ rfl ?_
            refine q_alen (pc' := 18) ja_C_isBill_17 rfl (by decide) (kd := 17) (l := 8) rfl (by decide) (v := 8) (by decide) ?_
            refine q_ic_ge (pc' := 21) ja_C_isBill_18 rfl ?_ ?_
            · intro h11
              refine q_iconst (pc' := 26) ja_C_isBill_25 rfl 0 (by decide) ?_
              refine q_iret ja_C_isBill_26 rfl (by decide) ?_
              show q_W _ _ _ _ 13 [some (.ref 0), some (.int a1), some (.int a2), some (.int a3), none] [.int 0] s
              refine q_if_eq (pc' := 16) ja_C_conferred_13 rfl (fun _ => ?_) (fun h => absurd ((by decide : (0 : Int32) = 0)) h)
              refine q_bipush (pc' := 23) ja_C_conferred_21 rfl (-2) (by decide) ?_
              exact q_iret ja_C_conferred_23 rfl rfl (k6 h2 h4 h6 h8 h10 h11)
            · intro h12
              refine q_iconst (pc' := 22) ja_C_isBill_21 rfl 1 (by decide) ?_
              refine q_goto ja_C_isBill_22 ?_
              refine q_iret ja_C_isBill_26 rfl (by decide) ?_
              show q_W _ _ _ _ 13 [some (.ref 0), some (.int a1), some (.int a2), some (.int a3), none] [.int 1] s
              refine q_if_eq (pc' := 16) ja_C_conferred_13 rfl (fun h => absurd h ((by decide : ¬ (1 : Int32) = 0))) (fun _ => ?_)
              refine q_iload_n (pc' := 17) ja_C_conferred_16 rfl rfl ?_
              refine q_iload_n (pc' := 18) ja_C_conferred_17 rfl rfl ?_
              refine q_ic_ne (pc' := 21) ja_C_conferred_18 rfl ?_ ?_
              · intro h13
                refine q_aload_n (pc' := 25) ja_C_conferred_24 rfl rfl ?_
                refine q_getf (pc' := 28) (v := .ref 123) ja_C_conferred_25 rfl (by decide) ⟨rfl, by decide⟩ rfl ?_
                refine q_aload_n (pc' := 29) ja_C_conferred_28 rfl rfl ?_
                refine q_getf (pc' := 32) (v := .ref 32) ja_C_conferred_29 rfl (by decide) ⟨rfl, by decide⟩ rfl ?_
                refine q_iload_n (pc' := 33) ja_C_conferred_32 rfl rfl ?_
                refine q_aald (pc' := 34) (v := .ref (33 + 3 * a1.toNatClampNeg)) ja_C_conferred_33 rfl (by decide) (kd := 17) (l := 8) rfl (by decide) (q_inr (l := 8) (by decide) h2 h6) (f_A32 (f_in (q_inr (l := 8) (by decide) h2 h6))) ?_
                refine q_getf (pc' := 37) (v := .ref ((33 + 3 * a1.toNatClampNeg) + 1)) ja_C_conferred_34 rfl (f_1_c (f_m32 (f_in (q_inr (l := 8) (by decide) h2 h6)))) ⟨by rw [f_1_k (f_m32 (f_in (q_inr (l := 8) (by decide) h2 h6)))], by decide⟩ (f_1_g2 (f_m32 (f_in (q_inr (l := 8) (by decide) h2 h6)))) ?_
                refine q_aload_n (pc' := 38) ja_C_conferred_37 rfl rfl ?_
                refine q_getf (pc' := 41) (v := .ref 32) ja_C_conferred_38 rfl (by decide) ⟨rfl, by decide⟩ rfl ?_
                refine q_iload_n (pc' := 42) ja_C_conferred_41 rfl rfl ?_
                refine q_aald (pc' := 43) (v := .ref (33 + 3 * a2.toNatClampNeg)) ja_C_conferred_42 rfl (by decide) (kd := 17) (l := 8) rfl (by decide) (q_inr (l := 8) (by decide) h8 h12) (f_A32 (f_in (q_inr (l := 8) (by decide) h8 h12))) ?_
                refine q_getf (pc' := 46) (v := .ref ((33 + 3 * a2.toNatClampNeg) + 1)) ja_C_conferred_43 rfl (f_1_c (f_m32 (f_in (q_inr (l := 8) (by decide) h8 h12)))) ⟨by rw [f_1_k (f_m32 (f_in (q_inr (l := 8) (by decide) h8 h12)))], by decide⟩ (f_1_g2 (f_m32 (f_in (q_inr (l := 8) (by decide) h8 h12)))) ?_
                refine q_virt (pc' := 49) (c := 123) (as := [.ref ((33 + 3 * a1.toNatClampNeg) + 1), .ref ((33 + 3 * a2.toNatClampNeg) + 1)]) (r := []) ja_C_conferred_46 rfl rfl rfl (by decide) ⟨rfl, by decide⟩ ?_
                exact (k7 h2 h4 h6 h8 h10 h12 h13)
              · intro h14
                refine q_bipush (pc' := 23) ja_C_conferred_21 rfl (-2) (by decide) ?_
                exact q_iret ja_C_conferred_23 rfl rfl (k8 h2 h4 h6 h8 h10 h12 h14)
set_option maxRecDepth 20000 in
theorem t_C_conferred_49 {G : jv_X} {d : Nat} {B : Option Value → jg_H → Prop} {s : jg_H} (x1 : Int32) (x2 : Int32) (x3 : Int32) (y0 : Int32)
    (k1 : x3 < 0 → B (some (.int (-1))) s)
    (k2 : ¬ x3 < 0 → ¬ x3 < y0 → B (some (.int (-1))) s)
    (k3 : ¬ x3 < 0 → x3 < y0 → ¬ x3 < 10 → B (some (.int (-1))) s)
    (k4 : ¬ x3 < 0 → x3 < y0 → x3 < 10 → B (some (.int (s 124 x3.toNatClampNeg))) s) :
    q_W G (d + 1) jm_C_conferred B 49 [some (.ref 0), some (.int x1), some (.int x2), some (.int x3), none] [.int y0] s := by
  refine q_istore (pc' := 51) (ls' := [some (.ref 0), some (.int x1), some (.int x2), some (.int x3), some (.int y0)]) ja_C_conferred_49 rfl ⟨Nat.le_of_ble_eq_true rfl, rfl⟩ rfl ?_
  refine q_iload_n (pc' := 52) ja_C_conferred_51 rfl rfl ?_
  refine q_if_lt (pc' := 55) ja_C_conferred_52 rfl ?_ ?_
  · intro h1
    refine q_iconst (pc' := 80) ja_C_conferred_79 rfl (-1) (by decide) ?_
    exact q_iret ja_C_conferred_80 rfl rfl (k1 h1)
  · intro h2
    refine q_iload_n (pc' := 56) ja_C_conferred_55 rfl rfl ?_
    refine q_iload (pc' := 58) ja_C_conferred_56 rfl rfl ?_
    refine q_ic_ge (pc' := 61) ja_C_conferred_58 rfl ?_ ?_
    · intro h3
      refine q_iconst (pc' := 80) ja_C_conferred_79 rfl (-1) (by decide) ?_
      exact q_iret ja_C_conferred_80 rfl rfl (k2 h2 h3)
    · intro h4
      refine q_iload_n (pc' := 62) ja_C_conferred_61 rfl rfl ?_
      refine q_bipush (pc' := 64) ja_C_conferred_62 rfl 10 (by decide) ?_
      refine q_ic_ge (pc' := 67) ja_C_conferred_64 rfl ?_ ?_
      · intro h5
        refine q_iconst (pc' := 80) ja_C_conferred_79 rfl (-1) (by decide) ?_
        exact q_iret ja_C_conferred_80 rfl rfl (k3 h2 h4 h5)
      · intro h6
        refine q_aload_n (pc' := 68) ja_C_conferred_67 rfl rfl ?_
        refine q_getf (pc' := 71) (v := .ref 123) ja_C_conferred_68 rfl (by decide) ⟨rfl, by decide⟩ rfl ?_
        refine q_getf (pc' := 74) (v := .ref 124) ja_C_conferred_71 rfl (by decide) ⟨rfl, by decide⟩ rfl ?_
        refine q_iload_n (pc' := 75) ja_C_conferred_74 rfl rfl ?_
        refine q_iald (pc' := 76) (v := .int (s 124 x3.toNatClampNeg)) ja_C_conferred_75 rfl (by decide) (l := 10) rfl (q_inr (l := 10) (by decide) h2 h6) rfl ?_
        refine q_goto ja_C_conferred_76 ?_
        exact q_iret ja_C_conferred_80 rfl rfl (k4 h2 h4 h6)
set_option maxRecDepth 20000 in
theorem t_C_count {G : jv_X} {d : Nat} {B : Option Value → jg_H → Prop} {s : jg_H} (a1 : Int32)
    (k1 : a1 = 0 → B (some (.int (s 0 1))) s)
    (k2 : ¬ a1 = 0 → a1 = 1 → q_P G d 76 [.ref 0] s (fun v t => q_W G d jm_C_count B 73 [some (.ref 0), some (.int a1)] (v.toList ++ []) t))
    (k3 : ¬ a1 = 0 → ¬ a1 = 1 → a1 = 2 → B (some (.int (s 0 3))) s)
    (k4 : ¬ a1 = 0 → ¬ a1 = 1 → ¬ a1 = 2 → a1 = 3 → B (some (.int (s 0 11))) s)
    (k5 : ¬ a1 = 0 → ¬ a1 = 1 → ¬ a1 = 2 → ¬ a1 = 3 → a1 = 4 → B (some (.int (s 60 0))) s)
    (k6 : ¬ a1 = 0 → ¬ a1 = 1 → ¬ a1 = 2 → ¬ a1 = 3 → ¬ a1 = 4 → a1 = 5 → B (some (.int (s 117 1))) s)
    (k7 : ¬ a1 = 0 → ¬ a1 = 1 → ¬ a1 = 2 → ¬ a1 = 3 → ¬ a1 = 4 → ¬ a1 = 5 → a1 = 6 → B (some (.int (s 0 18))) s)
    (k8 : ¬ a1 = 0 → ¬ a1 = 1 → ¬ a1 = 2 → ¬ a1 = 3 → ¬ a1 = 4 → ¬ a1 = 5 → ¬ a1 = 6 → a1 = 7 → B (some (.int (s 0 19))) s)
    (k9 : ¬ a1 = 0 → ¬ a1 = 1 → ¬ a1 = 2 → ¬ a1 = 3 → ¬ a1 = 4 → ¬ a1 = 5 → ¬ a1 = 6 → ¬ a1 = 7 → a1 = 8 → B (some (.int (s 0 6))) s)
    (k10 : ¬ a1 = 0 → ¬ a1 = 1 → ¬ a1 = 2 → ¬ a1 = 3 → ¬ a1 = 4 → ¬ a1 = 5 → ¬ a1 = 6 → ¬ a1 = 7 → ¬ a1 = 8 → a1 = 9 → B (some (.int (s 0 12))) s)
    (k11 : ¬ a1 = 0 → ¬ a1 = 1 → ¬ a1 = 2 → ¬ a1 = 3 → ¬ a1 = 4 → ¬ a1 = 5 → ¬ a1 = 6 → ¬ a1 = 7 → ¬ a1 = 8 → ¬ a1 = 9 → a1 = 10 → B (some (.int (s 66 0))) s)
    (k12 : ¬ a1 = 0 → ¬ a1 = 1 → ¬ a1 = 2 → ¬ a1 = 3 → ¬ a1 = 4 → ¬ a1 = 5 → ¬ a1 = 6 → ¬ a1 = 7 → ¬ a1 = 8 → ¬ a1 = 9 → ¬ a1 = 10 → a1 = 11 → B (some (.int (s 0 5))) s)
    (k13 : ¬ a1 = 0 → ¬ a1 = 1 → ¬ a1 = 2 → ¬ a1 = 3 → ¬ a1 = 4 → ¬ a1 = 5 → ¬ a1 = 6 → ¬ a1 = 7 → ¬ a1 = 8 → ¬ a1 = 9 → ¬ a1 = 10 → ¬ a1 = 11 → B (some (.int (-2))) s) :
    q_P G (d + 1) 123 [.ref 0, .int a1] s B := by
  refine q_in (M := jm_C_count) rfl (Nat.le_of_ble_eq_true rfl) (ls := [some (.ref 0), some (.int a1)]) rfl ?_
  refine q_iload_n (pc' := 1) ja_C_count_0 rfl rfl ?_
  by_cases h1 : a1 = 0
  · refine q_swE (pc' := 64) ja_C_count_1 (by rw [h1]; decide) (by rw [h1]; exact ⟨_, rfl, rfl⟩) ?_
    refine q_aload_n (pc' := 65) ja_C_count_64 rfl rfl ?_
    refine q_getf (pc' := 68) (v := .int (s 0 1)) ja_C_count_65 rfl (by decide) ⟨rfl, by decide⟩ rfl ?_
    exact q_iret ja_C_count_68 rfl rfl (k1 h1)
  by_cases h2 : a1 = 1
  · refine q_swE (pc' := 69) ja_C_count_1 (by rw [h2]; decide) (by rw [h2]; exact ⟨_, rfl, rfl⟩) ?_
    refine q_aload_n (pc' := 70) ja_C_count_69 rfl rfl ?_
    refine q_virt (pc' := 73) (c := 0) (as := []) (r := []) ja_C_count_70 rfl rfl rfl (by decide) ⟨rfl, by decide⟩ ?_
    exact (k2 h1 h2)
  by_cases h3 : a1 = 2
  · refine q_swE (pc' := 74) ja_C_count_1 (by rw [h3]; decide) (by rw [h3]; exact ⟨_, rfl, rfl⟩) ?_
    refine q_aload_n (pc' := 75) ja_C_count_74 rfl rfl ?_
    refine q_getf (pc' := 78) (v := .int (s 0 3)) ja_C_count_75 rfl (by decide) ⟨rfl, by decide⟩ rfl ?_
    exact q_iret ja_C_count_78 rfl rfl (k3 h1 h2 h3)
  by_cases h4 : a1 = 3
  · refine q_swE (pc' := 79) ja_C_count_1 (by rw [h4]; decide) (by rw [h4]; exact ⟨_, rfl, rfl⟩) ?_
    refine q_aload_n (pc' := 80) ja_C_count_79 rfl rfl ?_
    refine q_getf (pc' := 83) (v := .int (s 0 11)) ja_C_count_80 rfl (by decide) ⟨rfl, by decide⟩ rfl ?_
    exact q_iret ja_C_count_83 rfl rfl (k4 h1 h2 h3 h4)
  by_cases h5 : a1 = 4
  · refine q_swE (pc' := 84) ja_C_count_1 (by rw [h5]; decide) (by rw [h5]; exact ⟨_, rfl, rfl⟩) ?_
    refine q_aload_n (pc' := 85) ja_C_count_84 rfl rfl ?_
    refine q_getf (pc' := 88) (v := .ref 60) ja_C_count_85 rfl (by decide) ⟨rfl, by decide⟩ rfl ?_
    refine q_getf (pc' := 91) (v := .int (s 60 0)) ja_C_count_88 rfl (by decide) ⟨rfl, by decide⟩ rfl ?_
    exact q_iret ja_C_count_91 rfl rfl (k5 h1 h2 h3 h4 h5)
  by_cases h6 : a1 = 5
  · refine q_swE (pc' := 92) ja_C_count_1 (by rw [h6]; decide) (by rw [h6]; exact ⟨_, rfl, rfl⟩) ?_
    refine q_aload_n (pc' := 93) ja_C_count_92 rfl rfl ?_
    refine q_getf (pc' := 96) (v := .ref 117) ja_C_count_93 rfl (by decide) ⟨rfl, by decide⟩ rfl ?_
    refine q_getf (pc' := 99) (v := .int (s 117 1)) ja_C_count_96 rfl (by decide) ⟨rfl, by decide⟩ rfl ?_
    exact q_iret ja_C_count_99 rfl rfl (k6 h1 h2 h3 h4 h5 h6)
  by_cases h7 : a1 = 6
  · refine q_swE (pc' := 100) ja_C_count_1 (by rw [h7]; decide) (by rw [h7]; exact ⟨_, rfl, rfl⟩) ?_
    refine q_aload_n (pc' := 101) ja_C_count_100 rfl rfl ?_
    refine q_getf (pc' := 104) (v := .int (s 0 18)) ja_C_count_101 rfl (by decide) ⟨rfl, by decide⟩ rfl ?_
    exact q_iret ja_C_count_104 rfl rfl (k7 h1 h2 h3 h4 h5 h6 h7)
  by_cases h8 : a1 = 7
  · refine q_swE (pc' := 105) ja_C_count_1 (by rw [h8]; decide) (by rw [h8]; exact ⟨_, rfl, rfl⟩) ?_
    refine q_aload_n (pc' := 106) ja_C_count_105 rfl rfl ?_
    refine q_getf (pc' := 109) (v := .int (s 0 19)) ja_C_count_106 rfl (by decide) ⟨rfl, by decide⟩ rfl ?_
    exact q_iret ja_C_count_109 rfl rfl (k8 h1 h2 h3 h4 h5 h6 h7 h8)
  by_cases h9 : a1 = 8
  · refine q_swE (pc' := 110) ja_C_count_1 (by rw [h9]; decide) (by rw [h9]; exact ⟨_, rfl, rfl⟩) ?_
    refine q_aload_n (pc' := 111) ja_C_count_110 rfl rfl ?_
    refine q_getf (pc' := 114) (v := .int (s 0 6)) ja_C_count_111 rfl (by decide) ⟨rfl, by decide⟩ rfl ?_
    exact q_iret ja_C_count_114 rfl rfl (k9 h1 h2 h3 h4 h5 h6 h7 h8 h9)
  by_cases h10 : a1 = 9
  · refine q_swE (pc' := 115) ja_C_count_1 (by rw [h10]; decide) (by rw [h10]; exact ⟨_, rfl, rfl⟩) ?_
    refine q_aload_n (pc' := 116) ja_C_count_115 rfl rfl ?_
    refine q_getf (pc' := 119) (v := .int (s 0 12)) ja_C_count_116 rfl (by decide) ⟨rfl, by decide⟩ rfl ?_
    exact q_iret ja_C_count_119 rfl rfl (k10 h1 h2 h3 h4 h5 h6 h7 h8 h9 h10)
  by_cases h11 : a1 = 10
  · refine q_swE (pc' := 120) ja_C_count_1 (by rw [h11]; decide) (by rw [h11]; exact ⟨_, rfl, rfl⟩) ?_
    refine q_aload_n (pc' := 121) ja_C_count_120 rfl rfl ?_
    refine q_getf (pc' := 124) (v := .ref 65) ja_C_count_121 rfl (by decide) ⟨rfl, by decide⟩ rfl ?_
    refine q_getf (pc' := 127) (v := .ref 66) ja_C_count_124 rfl (by decide) ⟨rfl, by decide⟩ rfl ?_
    refine q_getf (pc' := 130) (v := .int (s 66 0)) ja_C_count_127 rfl (by decide) ⟨rfl, by decide⟩ rfl ?_
    exact q_iret ja_C_count_130 rfl rfl (k11 h1 h2 h3 h4 h5 h6 h7 h8 h9 h10 h11)
  by_cases h12 : a1 = 11
  · refine q_swE (pc' := 131) ja_C_count_1 (by rw [h12]; decide) (by rw [h12]; exact ⟨_, rfl, rfl⟩) ?_
    refine q_aload_n (pc' := 132) ja_C_count_131 rfl rfl ?_
    refine q_getf (pc' := 135) (v := .int (s 0 5)) ja_C_count_132 rfl (by decide) ⟨rfl, by decide⟩ rfl ?_
    exact q_iret ja_C_count_135 rfl rfl (k12 h1 h2 h3 h4 h5 h6 h7 h8 h9 h10 h11 h12)
  refine q_swD (pc' := 136) ja_C_count_1 [0, 1, 2, 3, 4, 5, 6, 7, 8, 9, 10, 11] (List.forall_mem_cons.mpr ⟨fun e => h1 (by rw [e]; decide), (List.forall_mem_cons.mpr ⟨fun e => h2 (by rw [e]; decide), (List.forall_mem_cons.mpr ⟨fun e => h3 (by rw [e]; decide), (List.forall_mem_cons.mpr ⟨fun e => h4 (by rw [e]; decide), (List.forall_mem_cons.mpr ⟨fun e => h5 (by rw [e]; decide), (List.forall_mem_cons.mpr ⟨fun e => h6 (by rw [e]; decide), (List.forall_mem_cons.mpr ⟨fun e => h7 (by rw [e]; decide), (List.forall_mem_cons.mpr ⟨fun e => h8 (by rw [e]; decide), (List.forall_mem_cons.mpr ⟨fun e => h9 (by rw [e]; decide), (List.forall_mem_cons.mpr ⟨fun e => h10 (by rw [e]; decide), (List.forall_mem_cons.mpr ⟨fun e => h11 (by rw [e]; decide), (List.forall_mem_cons.mpr ⟨fun e => h12 (by rw [e]; decide), (List.forall_mem_nil _)⟩)⟩)⟩)⟩)⟩)⟩)⟩)⟩)⟩)⟩)⟩)⟩) (by decide) rfl ?_
  refine q_bipush (pc' := 138) ja_C_count_136 rfl (-2) (by decide) ?_
  exact q_iret ja_C_count_138 rfl rfl (k13 h1 h2 h3 h4 h5 h6 h7 h8 h9 h10 h11 h12)
set_option maxRecDepth 20000 in
theorem t_C_count_73 {G : jv_X} {d : Nat} {B : Option Value → jg_H → Prop} {s : jg_H} (x1 : Int32) (y0 : Int32)
    (k1 : B (some (.int y0)) s) :
    q_W G d jm_C_count B 73 [some (.ref 0), some (.int x1)] [.int y0] s := by
  exact q_iret ja_C_count_73 rfl rfl k1
set_option maxRecDepth 20000 in
theorem t_C_countThere {G : jv_X} {d : Nat} {B : Option Value → jg_H → Prop} {s : jg_H} 
    (k1 : q_W G d jm_C_countThere B 4 [some (.ref 0), some (.int 0), some (.int 0)] [] s) :
    q_P G (d + 1) 76 [.ref 0] s B := by
  refine q_in (M := jm_C_countThere) rfl (Nat.le_of_ble_eq_true rfl) (ls := [some (.ref 0), none, none]) rfl ?_
  refine q_iconst (pc' := 1) ja_C_countThere_0 rfl 0 (by decide) ?_
  refine q_istore_n (pc' := 2) (ls' := [some (.ref 0), some (.int 0), none]) ja_C_countThere_1 rfl ⟨Nat.le_of_ble_eq_true rfl, rfl⟩ rfl ?_
  refine q_iconst (pc' := 3) ja_C_countThere_2 rfl 0 (by decide) ?_
  refine q_istore_n (pc' := 4) (ls' := [some (.ref 0), some (.int 0), some (.int 0)]) ja_C_countThere_3 rfl ⟨Nat.le_of_ble_eq_true rfl, rfl⟩ rfl ?_
  exact k1
set_option maxRecDepth 20000 in
theorem t_C_countThere_4 {G : jv_X} {d : Nat} {B : Option Value → jg_H → Prop} {s : jg_H} (x1 : Int32) (x2 : Int32)
    (k1 : ¬ x2 < (s 0 1) → B (some (.int x1)) s)
    (k2 : x2 < (s 0 1) → ¬ x2 < 15 → B (some (.int x1)) s)
    (k3 : x2 < (s 0 1) → x2 < 15 → jv_in x2 15 = true)
    (k4 : x2 < (s 0 1) → x2 < 15 → (s (2 + 2 * x2.toNatClampNeg) 1) = 0 → q_W G d jm_C_countThere B 4 [some (.ref 0), some (.int x1), some (.int (x2 + 1))] [] s)
    (k5 : x2 < (s 0 1) → x2 < 15 → ¬ (s (2 + 2 * x2.toNatClampNeg) 1) = 0 → q_W G d jm_C_countThere B 4 [some (.ref 0), some (.int (x1 + 1)), some (.int (x2 + 1))] [] s) :
    q_W G d jm_C_countThere B 4 [some (.ref 0), some (.int x1), some (.int x2)] [] s := by
  refine q_iload_n (pc' := 5) ja_C_countThere_4 rfl rfl ?_
  refine q_aload_n (pc' := 6) ja_C_countThere_5 rfl rfl ?_
  refine q_getf (pc' := 9) (v := .int (s 0 1)) ja_C_countThere_6 rfl (by decide) ⟨rfl, by decide⟩ rfl ?_
  refine q_ic_ge (pc' := 12) ja_C_countThere_9 rfl ?_ ?_
  · intro h1
    refine q_iload_n (pc' := 43) ja_C_countThere_42 rfl rfl ?_
    exact q_iret ja_C_countThere_43 rfl rfl (k1 h1)
  · intro h2
    refine q_iload_n (pc' := 13) ja_C_countThere_12 rfl rfl ?_
    refine q_aload_n (pc' := 14) ja_C_countThere_13 rfl rfl ?_
    refine q_getf (pc' := 17) (v := .ref 1) ja_C_countThere_14 rfl (by decide) ⟨rfl, by decide⟩ rfl ?_
    refine q_alen (pc' := 18) ja_C_countThere_17 rfl (by decide) (kd := 16) (l := 15) rfl (by decide) (v := 15) (by decide) ?_
    refine q_ic_ge (pc' := 21) ja_C_countThere_18 rfl ?_ ?_
    · intro h3
      refine q_iload_n (pc' := 43) ja_C_countThere_42 rfl rfl ?_
      exact q_iret ja_C_countThere_43 rfl rfl (k2 h2 h3)
    · intro h4
      refine q_aload_n (pc' := 22) ja_C_countThere_21 rfl rfl ?_
      refine q_getf (pc' := 25) (v := .ref 1) ja_C_countThere_22 rfl (by decide) ⟨rfl, by decide⟩ rfl ?_
      refine q_iload_n (pc' := 26) ja_C_countThere_25 rfl rfl ?_
      refine q_aald (pc' := 27) (v := .ref (2 + 2 * x2.toNatClampNeg)) ja_C_countThere_26 rfl (by decide) (kd := 16) (l := 15) rfl (by decide) (k3 h2 h4) (f_A1 (f_in (k3 h2 h4))) ?_
      refine q_getf (pc' := 30) (v := .int (s (2 + 2 * x2.toNatClampNeg) 1)) ja_C_countThere_27 rfl (f_5_c (f_m1 (f_in (k3 h2 h4)))) ⟨by rw [f_5_k (f_m1 (f_in (k3 h2 h4)))], by decide⟩ (f_i (f_5_k (f_m1 (f_in (k3 h2 h4)))) rfl) ?_
      refine q_if_eq (pc' := 33) ja_C_countThere_30 rfl ?_ ?_
      · intro h5
        refine q_iinc (pc' := 39) (ls' := [some (.ref 0), some (.int x1), some (.int (x2 + 1))]) ja_C_countThere_36 rfl rfl (x2 + 1) rfl ⟨Nat.le_of_ble_eq_true rfl, rfl⟩ rfl ?_
        refine q_goto ja_C_countThere_39 ?_
        exact (k4 h2 h4 h5)
      · intro h6
        refine q_iinc (pc' := 36) (ls' := [some (.ref 0), some (.int (x1 + 1)), some (.int x2)]) ja_C_countThere_33 rfl rfl (x1 + 1) rfl ⟨Nat.le_of_ble_eq_true rfl, rfl⟩ rfl ?_
        refine q_iinc (pc' := 39) (ls' := [some (.ref 0), some (.int (x1 + 1)), some (.int (x2 + 1))]) ja_C_countThere_36 rfl rfl (x2 + 1) rfl ⟨Nat.le_of_ble_eq_true rfl, rfl⟩ rfl ?_
        refine q_goto ja_C_countThere_39 ?_
        exact (k5 h2 h4 h6)
set_option maxRecDepth 20000 in
theorem t_C_day {G : jv_X} {d : Nat} {B : Option Value → jg_H → Prop} {s : jg_H} 
    (k1 : (s 0 18) < 999 → ∀ s1 : jg_H, s1 = jg_up s 0 18 ((s 0 18) + 1) → ∀ s2 : jg_H, s2 = jg_up s1 0 19 0 → B (some (.int (s2 0 18))) s2)
    (k2 : ¬ (s 0 18) < 999 → B (some (.int (-4))) s) :
    q_P G (d + 1) 105 [.ref 0] s B := by
  refine q_in (M := jm_C_day) rfl (Nat.le_of_ble_eq_true rfl) (ls := [some (.ref 0)]) rfl ?_
  refine q_aload_n (pc' := 1) ja_C_day_0 rfl rfl ?_
  refine q_getf (pc' := 4) (v := .int (s 0 18)) ja_C_day_1 rfl (by decide) ⟨rfl, by decide⟩ rfl ?_
  refine q_sipush (pc' := 7) ja_C_day_4 rfl 999 (by decide) ?_
  refine q_ic_lt (pc' := 10) ja_C_day_7 rfl ?_ ?_
  · intro h1
    refine q_aload_n (pc' := 14) ja_C_day_13 rfl rfl ?_
    refine q_dup (pc' := 15) ja_C_day_14 rfl rfl ?_
    refine q_getf (pc' := 18) (v := .int (s 0 18)) ja_C_day_15 rfl (by decide) ⟨rfl, by decide⟩ rfl ?_
    refine q_iconst (pc' := 19) ja_C_day_18 rfl 1 (by decide) ?_
    refine q_iadd (pc' := 20) ja_C_day_19 rfl ?_
    refine q_putf (pc' := 23) ja_C_day_20 rfl (by decide) rfl rfl rfl ?_
    intro s1 e1
    refine q_aload_n (pc' := 24) ja_C_day_23 rfl rfl ?_
    refine q_iconst (pc' := 25) ja_C_day_24 rfl 0 (by decide) ?_
    refine q_putf (pc' := 28) ja_C_day_25 rfl (by decide) rfl rfl rfl ?_
    intro s2 e2
    refine q_aload_n (pc' := 29) ja_C_day_28 rfl rfl ?_
    refine q_getf (pc' := 32) (v := .int (s2 0 18)) ja_C_day_29 rfl (by decide) ⟨rfl, by decide⟩ rfl ?_
    exact q_iret ja_C_day_32 rfl rfl (k1 h1 s1 e1 s2 e2)
  · intro h2
    refine q_bipush (pc' := 12) ja_C_day_10 rfl (-4) (by decide) ?_
    exact q_iret ja_C_day_12 rfl rfl (k2 h2)
