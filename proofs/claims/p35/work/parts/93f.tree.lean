set_option maxRecDepth 20000 in
theorem t_M_next {G : jv_X} {d : Nat} {B : Option Value → jg_H → Prop} {s : jg_H} 
    (k1 : q_W G (d + 1) jm_M_next B 0 [some (.ref 146), none, none] [] s) :
    q_P G (d + 2) 134 [.ref 146] s B := by
  refine q_in (M := jm_M_next) rfl (Nat.le_of_ble_eq_true rfl) (ls := [some (.ref 146), none, none]) rfl ?_
  exact k1
set_option maxRecDepth 20000 in
theorem t_M_next_0 {G : jv_X} {d : Nat} {B : Option Value → jg_H → Prop} {s : jg_H} 
    (k1 : ¬ (s 146 40) < (s 146 38) → ∀ s1 : jg_H, s1 = jg_up s 146 41 (s 146 40) → ¬ (s1 146 40) < (s1 146 38) → ∀ s2 : jg_H, s2 = jg_up s1 146 42 0 → B none s2)
    (k2 : ¬ (s 146 40) < (s 146 38) → ∀ s1 : jg_H, s1 = jg_up s 146 41 (s 146 40) → (s1 146 40) < (s1 146 38) → jv_in (s1 146 40) 200 = true)
    (k3 : ¬ (s 146 40) < (s 146 38) → ∀ s1 : jg_H, s1 = jg_up s 146 41 (s 146 40) → (s1 146 40) < (s1 146 38) → ¬ (s1 162 (s1 146 40).toNatClampNeg) = (-1) → (s1 162 (s1 146 40).toNatClampNeg) < 97 → (s1 162 (s1 146 40).toNatClampNeg) < 48 → (s1 162 (s1 146 40).toNatClampNeg) = 40 → ∀ s3 : jg_H, s3 = jg_up s1 146 42 (s1 162 (s1 146 40).toNatClampNeg) → ∀ s4 : jg_H, s4 = jg_up s3 146 40 ((s3 146 40) + 1) → B none s4)
    (k4 : ¬ (s 146 40) < (s 146 38) → ∀ s1 : jg_H, s1 = jg_up s 146 41 (s 146 40) → (s1 146 40) < (s1 146 38) → ¬ (s1 162 (s1 146 40).toNatClampNeg) = (-1) → (s1 162 (s1 146 40).toNatClampNeg) < 97 → (s1 162 (s1 146 40).toNatClampNeg) < 48 → ¬ (s1 162 (s1 146 40).toNatClampNeg) = 40 → (s1 162 (s1 146 40).toNatClampNeg) = 41 → ∀ s5 : jg_H, s5 = jg_up s1 146 42 (s1 162 (s1 146 40).toNatClampNeg) → ∀ s6 : jg_H, s6 = jg_up s5 146 40 ((s5 146 40) + 1) → B none s6)
    (k5 : ¬ (s 146 40) < (s 146 38) → ∀ s1 : jg_H, s1 = jg_up s 146 41 (s 146 40) → (s1 146 40) < (s1 146 38) → ¬ (s1 162 (s1 146 40).toNatClampNeg) = (-1) → (s1 162 (s1 146 40).toNatClampNeg) < 97 → (s1 162 (s1 146 40).toNatClampNeg) < 48 → ¬ (s1 162 (s1 146 40).toNatClampNeg) = 40 → ¬ (s1 162 (s1 146 40).toNatClampNeg) = 41 → (s1 162 (s1 146 40).toNatClampNeg) = 59 → ∀ s7 : jg_H, s7 = jg_up s1 146 42 (s1 162 (s1 146 40).toNatClampNeg) → ∀ s8 : jg_H, s8 = jg_up s7 146 40 ((s7 146 40) + 1) → B none s8)
    (k6 : ¬ (s 146 40) < (s 146 38) → ∀ s1 : jg_H, s1 = jg_up s 146 41 (s 146 40) → (s1 146 40) < (s1 146 38) → ¬ (s1 162 (s1 146 40).toNatClampNeg) = (-1) → (s1 162 (s1 146 40).toNatClampNeg) < 97 → (s1 162 (s1 146 40).toNatClampNeg) < 48 → ¬ (s1 162 (s1 146 40).toNatClampNeg) = 40 → ¬ (s1 162 (s1 146 40).toNatClampNeg) = 41 → ¬ (s1 162 (s1 146 40).toNatClampNeg) = 59 → (s1 162 (s1 146 40).toNatClampNeg) = 43 → ∀ s9 : jg_H, s9 = jg_up s1 146 42 (s1 162 (s1 146 40).toNatClampNeg) → ∀ s10 : jg_H, s10 = jg_up s9 146 40 ((s9 146 40) + 1) → B none s10)
    (k7 : ¬ (s 146 40) < (s 146 38) → ∀ s1 : jg_H, s1 = jg_up s 146 41 (s 146 40) → (s1 146 40) < (s1 146 38) → ¬ (s1 162 (s1 146 40).toNatClampNeg) = (-1) → (s1 162 (s1 146 40).toNatClampNeg) < 97 → (s1 162 (s1 146 40).toNatClampNeg) < 48 → ¬ (s1 162 (s1 146 40).toNatClampNeg) = 40 → ¬ (s1 162 (s1 146 40).toNatClampNeg) = 41 → ¬ (s1 162 (s1 146 40).toNatClampNeg) = 59 → ¬ (s1 162 (s1 146 40).toNatClampNeg) = 43 → (s1 162 (s1 146 40).toNatClampNeg) = 45 → ∀ s11 : jg_H, s11 = jg_up s1 146 42 (s1 162 (s1 146 40).toNatClampNeg) → ∀ s12 : jg_H, s12 = jg_up s11 146 40 ((s11 146 40) + 1) → B none s12)
    (k8 : ¬ (s 146 40) < (s 146 38) → ∀ s1 : jg_H, s1 = jg_up s 146 41 (s 146 40) → (s1 146 40) < (s1 146 38) → ¬ (s1 162 (s1 146 40).toNatClampNeg) = (-1) → (s1 162 (s1 146 40).toNatClampNeg) < 97 → (s1 162 (s1 146 40).toNatClampNeg) < 48 → ¬ (s1 162 (s1 146 40).toNatClampNeg) = 40 → ¬ (s1 162 (s1 146 40).toNatClampNeg) = 41 → ¬ (s1 162 (s1 146 40).toNatClampNeg) = 59 → ¬ (s1 162 (s1 146 40).toNatClampNeg) = 43 → ¬ (s1 162 (s1 146 40).toNatClampNeg) = 45 → (s1 162 (s1 146 40).toNatClampNeg) = 42 → ∀ s13 : jg_H, s13 = jg_up s1 146 42 (s1 162 (s1 146 40).toNatClampNeg) → ∀ s14 : jg_H, s14 = jg_up s13 146 40 ((s13 146 40) + 1) → B none s14)
    (k9 : ¬ (s 146 40) < (s 146 38) → ∀ s1 : jg_H, s1 = jg_up s 146 41 (s 146 40) → (s1 146 40) < (s1 146 38) → ¬ (s1 162 (s1 146 40).toNatClampNeg) = (-1) → (s1 162 (s1 146 40).toNatClampNeg) < 97 → (s1 162 (s1 146 40).toNatClampNeg) < 48 → ¬ (s1 162 (s1 146 40).toNatClampNeg) = 40 → ¬ (s1 162 (s1 146 40).toNatClampNeg) = 41 → ¬ (s1 162 (s1 146 40).toNatClampNeg) = 59 → ¬ (s1 162 (s1 146 40).toNatClampNeg) = 43 → ¬ (s1 162 (s1 146 40).toNatClampNeg) = 45 → ¬ (s1 162 (s1 146 40).toNatClampNeg) = 42 → (s1 162 (s1 146 40).toNatClampNeg) = 60 → ∀ s15 : jg_H, s15 = jg_up s1 146 42 (s1 162 (s1 146 40).toNatClampNeg) → ∀ s16 : jg_H, s16 = jg_up s15 146 40 ((s15 146 40) + 1) → B none s16)
    (k10 : ¬ (s 146 40) < (s 146 38) → ∀ s1 : jg_H, s1 = jg_up s 146 41 (s 146 40) → (s1 146 40) < (s1 146 38) → ¬ (s1 162 (s1 146 40).toNatClampNeg) = (-1) → (s1 162 (s1 146 40).toNatClampNeg) < 97 → (s1 162 (s1 146 40).toNatClampNeg) < 48 → ¬ (s1 162 (s1 146 40).toNatClampNeg) = 40 → ¬ (s1 162 (s1 146 40).toNatClampNeg) = 41 → ¬ (s1 162 (s1 146 40).toNatClampNeg) = 59 → ¬ (s1 162 (s1 146 40).toNatClampNeg) = 43 → ¬ (s1 162 (s1 146 40).toNatClampNeg) = 45 → ¬ (s1 162 (s1 146 40).toNatClampNeg) = 42 → ¬ (s1 162 (s1 146 40).toNatClampNeg) = 60 → ¬ (s1 162 (s1 146 40).toNatClampNeg) = 61 → ∀ s17 : jg_H, s17 = jg_up s1 146 42 2 → ∀ s18 : jg_H, s18 = jg_up s17 146 40 ((s17 146 40) + 1) → B none s18)
    (k11 : ¬ (s 146 40) < (s 146 38) → ∀ s1 : jg_H, s1 = jg_up s 146 41 (s 146 40) → (s1 146 40) < (s1 146 38) → ¬ (s1 162 (s1 146 40).toNatClampNeg) = (-1) → (s1 162 (s1 146 40).toNatClampNeg) < 97 → (s1 162 (s1 146 40).toNatClampNeg) < 48 → ¬ (s1 162 (s1 146 40).toNatClampNeg) = 40 → ¬ (s1 162 (s1 146 40).toNatClampNeg) = 41 → ¬ (s1 162 (s1 146 40).toNatClampNeg) = 59 → ¬ (s1 162 (s1 146 40).toNatClampNeg) = 43 → ¬ (s1 162 (s1 146 40).toNatClampNeg) = 45 → ¬ (s1 162 (s1 146 40).toNatClampNeg) = 42 → ¬ (s1 162 (s1 146 40).toNatClampNeg) = 60 → (s1 162 (s1 146 40).toNatClampNeg) = 61 → ∀ s19 : jg_H, s19 = jg_up s1 146 42 (s1 162 (s1 146 40).toNatClampNeg) → ∀ s20 : jg_H, s20 = jg_up s19 146 40 ((s19 146 40) + 1) → B none s20)
    (k12 : ¬ (s 146 40) < (s 146 38) → ∀ s1 : jg_H, s1 = jg_up s 146 41 (s 146 40) → (s1 146 40) < (s1 146 38) → ¬ (s1 162 (s1 146 40).toNatClampNeg) = (-1) → (s1 162 (s1 146 40).toNatClampNeg) < 97 → ¬ (s1 162 (s1 146 40).toNatClampNeg) < 48 → ¬ (s1 162 (s1 146 40).toNatClampNeg) ≤ 57 → (s1 162 (s1 146 40).toNatClampNeg) = 40 → ∀ s21 : jg_H, s21 = jg_up s1 146 42 (s1 162 (s1 146 40).toNatClampNeg) → ∀ s22 : jg_H, s22 = jg_up s21 146 40 ((s21 146 40) + 1) → B none s22)
    (k13 : ¬ (s 146 40) < (s 146 38) → ∀ s1 : jg_H, s1 = jg_up s 146 41 (s 146 40) → (s1 146 40) < (s1 146 38) → ¬ (s1 162 (s1 146 40).toNatClampNeg) = (-1) → (s1 162 (s1 146 40).toNatClampNeg) < 97 → ¬ (s1 162 (s1 146 40).toNatClampNeg) < 48 → ¬ (s1 162 (s1 146 40).toNatClampNeg) ≤ 57 → ¬ (s1 162 (s1 146 40).toNatClampNeg) = 40 → (s1 162 (s1 146 40).toNatClampNeg) = 41 → ∀ s23 : jg_H, s23 = jg_up s1 146 42 (s1 162 (s1 146 40).toNatClampNeg) → ∀ s24 : jg_H, s24 = jg_up s23 146 40 ((s23 146 40) + 1) → B none s24)
    (k14 : ¬ (s 146 40) < (s 146 38) → ∀ s1 : jg_H, s1 = jg_up s 146 41 (s 146 40) → (s1 146 40) < (s1 146 38) → ¬ (s1 162 (s1 146 40).toNatClampNeg) = (-1) → (s1 162 (s1 146 40).toNatClampNeg) < 97 → ¬ (s1 162 (s1 146 40).toNatClampNeg) < 48 → ¬ (s1 162 (s1 146 40).toNatClampNeg) ≤ 57 → ¬ (s1 162 (s1 146 40).toNatClampNeg) = 40 → ¬ (s1 162 (s1 146 40).toNatClampNeg) = 41 → (s1 162 (s1 146 40).toNatClampNeg) = 59 → ∀ s25 : jg_H, s25 = jg_up s1 146 42 (s1 162 (s1 146 40).toNatClampNeg) → ∀ s26 : jg_H, s26 = jg_up s25 146 40 ((s25 146 40) + 1) → B none s26)
    (k15 : ¬ (s 146 40) < (s 146 38) → ∀ s1 : jg_H, s1 = jg_up s 146 41 (s 146 40) → (s1 146 40) < (s1 146 38) → ¬ (s1 162 (s1 146 40).toNatClampNeg) = (-1) → (s1 162 (s1 146 40).toNatClampNeg) < 97 → ¬ (s1 162 (s1 146 40).toNatClampNeg) < 48 → ¬ (s1 162 (s1 146 40).toNatClampNeg) ≤ 57 → ¬ (s1 162 (s1 146 40).toNatClampNeg) = 40 → ¬ (s1 162 (s1 146 40).toNatClampNeg) = 41 → ¬ (s1 162 (s1 146 40).toNatClampNeg) = 59 → (s1 162 (s1 146 40).toNatClampNeg) = 43 → ∀ s27 : jg_H, s27 = jg_up s1 146 42 (s1 162 (s1 146 40).toNatClampNeg) → ∀ s28 : jg_H, s28 = jg_up s27 146 40 ((s27 146 40) + 1) → B none s28)
    (k16 : ¬ (s 146 40) < (s 146 38) → ∀ s1 : jg_H, s1 = jg_up s 146 41 (s 146 40) → (s1 146 40) < (s1 146 38) → ¬ (s1 162 (s1 146 40).toNatClampNeg) = (-1) → (s1 162 (s1 146 40).toNatClampNeg) < 97 → ¬ (s1 162 (s1 146 40).toNatClampNeg) < 48 → ¬ (s1 162 (s1 146 40).toNatClampNeg) ≤ 57 → ¬ (s1 162 (s1 146 40).toNatClampNeg) = 40 → ¬ (s1 162 (s1 146 40).toNatClampNeg) = 41 → ¬ (s1 162 (s1 146 40).toNatClampNeg) = 59 → ¬ (s1 162 (s1 146 40).toNatClampNeg) = 43 → (s1 162 (s1 146 40).toNatClampNeg) = 45 → ∀ s29 : jg_H, s29 = jg_up s1 146 42 (s1 162 (s1 146 40).toNatClampNeg) → ∀ s30 : jg_H, s30 = jg_up s29 146 40 ((s29 146 40) + 1) → B none s30)
    (k17 : ¬ (s 146 40) < (s 146 38) → ∀ s1 : jg_H, s1 = jg_up s 146 41 (s 146 40) → (s1 146 40) < (s1 146 38) → ¬ (s1 162 (s1 146 40).toNatClampNeg) = (-1) → (s1 162 (s1 146 40).toNatClampNeg) < 97 → ¬ (s1 162 (s1 146 40).toNatClampNeg) < 48 → ¬ (s1 162 (s1 146 40).toNatClampNeg) ≤ 57 → ¬ (s1 162 (s1 146 40).toNatClampNeg) = 40 → ¬ (s1 162 (s1 146 40).toNatClampNeg) = 41 → ¬ (s1 162 (s1 146 40).toNatClampNeg) = 59 → ¬ (s1 162 (s1 146 40).toNatClampNeg) = 43 → ¬ (s1 162 (s1 146 40).toNatClampNeg) = 45 → (s1 162 (s1 146 40).toNatClampNeg) = 42 → ∀ s31 : jg_H, s31 = jg_up s1 146 42 (s1 162 (s1 146 40).toNatClampNeg) → ∀ s32 : jg_H, s32 = jg_up s31 146 40 ((s31 146 40) + 1) → B none s32)
    (k18 : ¬ (s 146 40) < (s 146 38) → ∀ s1 : jg_H, s1 = jg_up s 146 41 (s 146 40) → (s1 146 40) < (s1 146 38) → ¬ (s1 162 (s1 146 40).toNatClampNeg) = (-1) → (s1 162 (s1 146 40).toNatClampNeg) < 97 → ¬ (s1 162 (s1 146 40).toNatClampNeg) < 48 → ¬ (s1 162 (s1 146 40).toNatClampNeg) ≤ 57 → ¬ (s1 162 (s1 146 40).toNatClampNeg) = 40 → ¬ (s1 162 (s1 146 40).toNatClampNeg) = 41 → ¬ (s1 162 (s1 146 40).toNatClampNeg) = 59 → ¬ (s1 162 (s1 146 40).toNatClampNeg) = 43 → ¬ (s1 162 (s1 146 40).toNatClampNeg) = 45 → ¬ (s1 162 (s1 146 40).toNatClampNeg) = 42 → (s1 162 (s1 146 40).toNatClampNeg) = 60 → ∀ s33 : jg_H, s33 = jg_up s1 146 42 (s1 162 (s1 146 40).toNatClampNeg) → ∀ s34 : jg_H, s34 = jg_up s33 146 40 ((s33 146 40) + 1) → B none s34)
    (k19 : ¬ (s 146 40) < (s 146 38) → ∀ s1 : jg_H, s1 = jg_up s 146 41 (s 146 40) → (s1 146 40) < (s1 146 38) → ¬ (s1 162 (s1 146 40).toNatClampNeg) = (-1) → (s1 162 (s1 146 40).toNatClampNeg) < 97 → ¬ (s1 162 (s1 146 40).toNatClampNeg) < 48 → ¬ (s1 162 (s1 146 40).toNatClampNeg) ≤ 57 → ¬ (s1 162 (s1 146 40).toNatClampNeg) = 40 → ¬ (s1 162 (s1 146 40).toNatClampNeg) = 41 → ¬ (s1 162 (s1 146 40).toNatClampNeg) = 59 → ¬ (s1 162 (s1 146 40).toNatClampNeg) = 43 → ¬ (s1 162 (s1 146 40).toNatClampNeg) = 45 → ¬ (s1 162 (s1 146 40).toNatClampNeg) = 42 → ¬ (s1 162 (s1 146 40).toNatClampNeg) = 60 → ¬ (s1 162 (s1 146 40).toNatClampNeg) = 61 → ∀ s35 : jg_H, s35 = jg_up s1 146 42 2 → ∀ s36 : jg_H, s36 = jg_up s35 146 40 ((s35 146 40) + 1) → B none s36)
    (k20 : ¬ (s 146 40) < (s 146 38) → ∀ s1 : jg_H, s1 = jg_up s 146 41 (s 146 40) → (s1 146 40) < (s1 146 38) → ¬ (s1 162 (s1 146 40).toNatClampNeg) = (-1) → (s1 162 (s1 146 40).toNatClampNeg) < 97 → ¬ (s1 162 (s1 146 40).toNatClampNeg) < 48 → ¬ (s1 162 (s1 146 40).toNatClampNeg) ≤ 57 → ¬ (s1 162 (s1 146 40).toNatClampNeg) = 40 → ¬ (s1 162 (s1 146 40).toNatClampNeg) = 41 → ¬ (s1 162 (s1 146 40).toNatClampNeg) = 59 → ¬ (s1 162 (s1 146 40).toNatClampNeg) = 43 → ¬ (s1 162 (s1 146 40).toNatClampNeg) = 45 → ¬ (s1 162 (s1 146 40).toNatClampNeg) = 42 → ¬ (s1 162 (s1 146 40).toNatClampNeg) = 60 → (s1 162 (s1 146 40).toNatClampNeg) = 61 → ∀ s37 : jg_H, s37 = jg_up s1 146 42 (s1 162 (s1 146 40).toNatClampNeg) → ∀ s38 : jg_H, s38 = jg_up s37 146 40 ((s37 146 40) + 1) → B none s38)
    (k21 : ¬ (s 146 40) < (s 146 38) → ∀ s1 : jg_H, s1 = jg_up s 146 41 (s 146 40) → (s1 146 40) < (s1 146 38) → ¬ (s1 162 (s1 146 40).toNatClampNeg) = (-1) → (s1 162 (s1 146 40).toNatClampNeg) < 97 → ¬ (s1 162 (s1 146 40).toNatClampNeg) < 48 → (s1 162 (s1 146 40).toNatClampNeg) ≤ 57 → q_P G (d + 1) 139 [.ref 146] s1 (fun v t => q_W G (d + 1) jm_M_next B 94 [some (.ref 146), some (.int (s1 162 (s1 146 40).toNatClampNeg)), none] (v.toList ++ []) t))
    (k22 : ¬ (s 146 40) < (s 146 38) → ∀ s1 : jg_H, s1 = jg_up s 146 41 (s 146 40) → (s1 146 40) < (s1 146 38) → ¬ (s1 162 (s1 146 40).toNatClampNeg) = (-1) → ¬ (s1 162 (s1 146 40).toNatClampNeg) < 97 → ¬ (s1 162 (s1 146 40).toNatClampNeg) ≤ 122 → (s1 162 (s1 146 40).toNatClampNeg) < 48 → (s1 162 (s1 146 40).toNatClampNeg) = 40 → ∀ s39 : jg_H, s39 = jg_up s1 146 42 (s1 162 (s1 146 40).toNatClampNeg) → ∀ s40 : jg_H, s40 = jg_up s39 146 40 ((s39 146 40) + 1) → B none s40)
    (k23 : ¬ (s 146 40) < (s 146 38) → ∀ s1 : jg_H, s1 = jg_up s 146 41 (s 146 40) → (s1 146 40) < (s1 146 38) → ¬ (s1 162 (s1 146 40).toNatClampNeg) = (-1) → ¬ (s1 162 (s1 146 40).toNatClampNeg) < 97 → ¬ (s1 162 (s1 146 40).toNatClampNeg) ≤ 122 → (s1 162 (s1 146 40).toNatClampNeg) < 48 → ¬ (s1 162 (s1 146 40).toNatClampNeg) = 40 → (s1 162 (s1 146 40).toNatClampNeg) = 41 → ∀ s41 : jg_H, s41 = jg_up s1 146 42 (s1 162 (s1 146 40).toNatClampNeg) → ∀ s42 : jg_H, s42 = jg_up s41 146 40 ((s41 146 40) + 1) → B none s42)
    (k24 : ¬ (s 146 40) < (s 146 38) → ∀ s1 : jg_H, s1 = jg_up s 146 41 (s 146 40) → (s1 146 40) < (s1 146 38) → ¬ (s1 162 (s1 146 40).toNatClampNeg) = (-1) → ¬ (s1 162 (s1 146 40).toNatClampNeg) < 97 → ¬ (s1 162 (s1 146 40).toNatClampNeg) ≤ 122 → (s1 162 (s1 146 40).toNatClampNeg) < 48 → ¬ (s1 162 (s1 146 40).toNatClampNeg) = 40 → ¬ (s1 162 (s1 146 40).toNatClampNeg) = 41 → (s1 162 (s1 146 40).toNatClampNeg) = 59 → ∀ s43 : jg_H, s43 = jg_up s1 146 42 (s1 162 (s1 146 40).toNatClampNeg) → ∀ s44 : jg_H, s44 = jg_up s43 146 40 ((s43 146 40) + 1) → B none s44)
    (k25 : ¬ (s 146 40) < (s 146 38) → ∀ s1 : jg_H, s1 = jg_up s 146 41 (s 146 40) → (s1 146 40) < (s1 146 38) → ¬ (s1 162 (s1 146 40).toNatClampNeg) = (-1) → ¬ (s1 162 (s1 146 40).toNatClampNeg) < 97 → ¬ (s1 162 (s1 146 40).toNatClampNeg) ≤ 122 → (s1 162 (s1 146 40).toNatClampNeg) < 48 → ¬ (s1 162 (s1 146 40).toNatClampNeg) = 40 → ¬ (s1 162 (s1 146 40).toNatClampNeg) = 41 → ¬ (s1 162 (s1 146 40).toNatClampNeg) = 59 → (s1 162 (s1 146 40).toNatClampNeg) = 43 → ∀ s45 : jg_H, s45 = jg_up s1 146 42 (s1 162 (s1 146 40).toNatClampNeg) → ∀ s46 : jg_H, s46 = jg_up s45 146 40 ((s45 146 40) + 1) → B none s46)
    (k26 : ¬ (s 146 40) < (s 146 38) → ∀ s1 : jg_H, s1 = jg_up s 146 41 (s 146 40) → (s1 146 40) < (s1 146 38) → ¬ (s1 162 (s1 146 40).toNatClampNeg) = (-1) → ¬ (s1 162 (s1 146 40).toNatClampNeg) < 97 → ¬ (s1 162 (s1 146 40).toNatClampNeg) ≤ 122 → (s1 162 (s1 146 40).toNatClampNeg) < 48 → ¬ (s1 162 (s1 146 40).toNatClampNeg) = 40 → ¬ (s1 162 (s1 146 40).toNatClampNeg) = 41 → ¬ (s1 162 (s1 146 40).toNatClampNeg) = 59 → ¬ (s1 162 (s1 146 40).toNatClampNeg) = 43 → (s1 162 (s1 146 40).toNatClampNeg) = 45 → ∀ s47 : jg_H, s47 = jg_up s1 146 42 (s1 162 (s1 146 40).toNatClampNeg) → ∀ s48 : jg_H, s48 = jg_up s47 146 40 ((s47 146 40) + 1) → B none s48)
    (k27 : ¬ (s 146 40) < (s 146 38) → ∀ s1 : jg_H, s1 = jg_up s 146 41 (s 146 40) → (s1 146 40) < (s1 146 38) → ¬ (s1 162 (s1 146 40).toNatClampNeg) = (-1) → ¬ (s1 162 (s1 146 40).toNatClampNeg) < 97 → ¬ (s1 162 (s1 146 40).toNatClampNeg) ≤ 122 → (s1 162 (s1 146 40).toNatClampNeg) < 48 → ¬ (s1 162 (s1 146 40).toNatClampNeg) = 40 → ¬ (s1 162 (s1 146 40).toNatClampNeg) = 41 → ¬ (s1 162 (s1 146 40).toNatClampNeg) = 59 → ¬ (s1 162 (s1 146 40).toNatClampNeg) = 43 → ¬ (s1 162 (s1 146 40).toNatClampNeg) = 45 → (s1 162 (s1 146 40).toNatClampNeg) = 42 → ∀ s49 : jg_H, s49 = jg_up s1 146 42 (s1 162 (s1 146 40).toNatClampNeg) → ∀ s50 : jg_H, s50 = jg_up s49 146 40 ((s49 146 40) + 1) → B none s50)
    (k28 : ¬ (s 146 40) < (s 146 38) → ∀ s1 : jg_H, s1 = jg_up s 146 41 (s 146 40) → (s1 146 40) < (s1 146 38) → ¬ (s1 162 (s1 146 40).toNatClampNeg) = (-1) → ¬ (s1 162 (s1 146 40).toNatClampNeg) < 97 → ¬ (s1 162 (s1 146 40).toNatClampNeg) ≤ 122 → (s1 162 (s1 146 40).toNatClampNeg) < 48 → ¬ (s1 162 (s1 146 40).toNatClampNeg) = 40 → ¬ (s1 162 (s1 146 40).toNatClampNeg) = 41 → ¬ (s1 162 (s1 146 40).toNatClampNeg) = 59 → ¬ (s1 162 (s1 146 40).toNatClampNeg) = 43 → ¬ (s1 162 (s1 146 40).toNatClampNeg) = 45 → ¬ (s1 162 (s1 146 40).toNatClampNeg) = 42 → (s1 162 (s1 146 40).toNatClampNeg) = 60 → ∀ s51 : jg_H, s51 = jg_up s1 146 42 (s1 162 (s1 146 40).toNatClampNeg) → ∀ s52 : jg_H, s52 = jg_up s51 146 40 ((s51 146 40) + 1) → B none s52)
    (k29 : ¬ (s 146 40) < (s 146 38) → ∀ s1 : jg_H, s1 = jg_up s 146 41 (s 146 40) → (s1 146 40) < (s1 146 38) → ¬ (s1 162 (s1 146 40).toNatClampNeg) = (-1) → ¬ (s1 162 (s1 146 40).toNatClampNeg) < 97 → ¬ (s1 162 (s1 146 40).toNatClampNeg) ≤ 122 → (s1 162 (s1 146 40).toNatClampNeg) < 48 → ¬ (s1 162 (s1 146 40).toNatClampNeg) = 40 → ¬ (s1 162 (s1 146 40).toNatClampNeg) = 41 → ¬ (s1 162 (s1 146 40).toNatClampNeg) = 59 → ¬ (s1 162 (s1 146 40).toNatClampNeg) = 43 → ¬ (s1 162 (s1 146 40).toNatClampNeg) = 45 → ¬ (s1 162 (s1 146 40).toNatClampNeg) = 42 → ¬ (s1 162 (s1 146 40).toNatClampNeg) = 60 → ¬ (s1 162 (s1 146 40).toNatClampNeg) = 61 → ∀ s53 : jg_H, s53 = jg_up s1 146 42 2 → ∀ s54 : jg_H, s54 = jg_up s53 146 40 ((s53 146 40) + 1) → B none s54)
    (k30 : ¬ (s 146 40) < (s 146 38) → ∀ s1 : jg_H, s1 = jg_up s 146 41 (s 146 40) → (s1 146 40) < (s1 146 38) → ¬ (s1 162 (s1 146 40).toNatClampNeg) = (-1) → ¬ (s1 162 (s1 146 40).toNatClampNeg) < 97 → ¬ (s1 162 (s1 146 40).toNatClampNeg) ≤ 122 → (s1 162 (s1 146 40).toNatClampNeg) < 48 → ¬ (s1 162 (s1 146 40).toNatClampNeg) = 40 → ¬ (s1 162 (s1 146 40).toNatClampNeg) = 41 → ¬ (s1 162 (s1 146 40).toNatClampNeg) = 59 → ¬ (s1 162 (s1 146 40).toNatClampNeg) = 43 → ¬ (s1 162 (s1 146 40).toNatClampNeg) = 45 → ¬ (s1 162 (s1 146 40).toNatClampNeg) = 42 → ¬ (s1 162 (s1 146 40).toNatClampNeg) = 60 → (s1 162 (s1 146 40).toNatClampNeg) = 61 → ∀ s55 : jg_H, s55 = jg_up s1 146 42 (s1 162 (s1 146 40).toNatClampNeg) → ∀ s56 : jg_H, s56 = jg_up s55 146 40 ((s55 146 40) + 1) → B none s56)
    (k31 : ¬ (s 146 40) < (s 146 38) → ∀ s1 : jg_H, s1 = jg_up s 146 41 (s 146 40) → (s1 146 40) < (s1 146 38) → ¬ (s1 162 (s1 146 40).toNatClampNeg) = (-1) → ¬ (s1 162 (s1 146 40).toNatClampNeg) < 97 → ¬ (s1 162 (s1 146 40).toNatClampNeg) ≤ 122 → ¬ (s1 162 (s1 146 40).toNatClampNeg) < 48 → ¬ (s1 162 (s1 146 40).toNatClampNeg) ≤ 57 → (s1 162 (s1 146 40).toNatClampNeg) = 40 → ∀ s57 : jg_H, s57 = jg_up s1 146 42 (s1 162 (s1 146 40).toNatClampNeg) → ∀ s58 : jg_H, s58 = jg_up s57 146 40 ((s57 146 40) + 1) → B none s58)
    (k32 : ¬ (s 146 40) < (s 146 38) → ∀ s1 : jg_H, s1 = jg_up s 146 41 (s 146 40) → (s1 146 40) < (s1 146 38) → ¬ (s1 162 (s1 146 40).toNatClampNeg) = (-1) → ¬ (s1 162 (s1 146 40).toNatClampNeg) < 97 → ¬ (s1 162 (s1 146 40).toNatClampNeg) ≤ 122 → ¬ (s1 162 (s1 146 40).toNatClampNeg) < 48 → ¬ (s1 162 (s1 146 40).toNatClampNeg) ≤ 57 → ¬ (s1 162 (s1 146 40).toNatClampNeg) = 40 → (s1 162 (s1 146 40).toNatClampNeg) = 41 → ∀ s59 : jg_H, s59 = jg_up s1 146 42 (s1 162 (s1 146 40).toNatClampNeg) → ∀ s60 : jg_H, s60 = jg_up s59 146 40 ((s59 146 40) + 1) → B none s60)
    (k33 : ¬ (s 146 40) < (s 146 38) → ∀ s1 : jg_H, s1 = jg_up s 146 41 (s 146 40) → (s1 146 40) < (s1 146 38) → ¬ (s1 162 (s1 146 40).toNatClampNeg) = (-1) → ¬ (s1 162 (s1 146 40).toNatClampNeg) < 97 → ¬ (s1 162 (s1 146 40).toNatClampNeg) ≤ 122 → ¬ (s1 162 (s1 146 40).toNatClampNeg) < 48 → ¬ (s1 162 (s1 146 40).toNatClampNeg) ≤ 57 → ¬ (s1 162 (s1 146 40).toNatClampNeg) = 40 → ¬ (s1 162 (s1 146 40).toNatClampNeg) = 41 → (s1 162 (s1 146 40).toNatClampNeg) = 59 → ∀ s61 : jg_H, s61 = jg_up s1 146 42 (s1 162 (s1 146 40).toNatClampNeg) → ∀ s62 : jg_H, s62 = jg_up s61 146 40 ((s61 146 40) + 1) → B none s62)
    (k34 : ¬ (s 146 40) < (s 146 38) → ∀ s1 : jg_H, s1 = jg_up s 146 41 (s 146 40) → (s1 146 40) < (s1 146 38) → ¬ (s1 162 (s1 146 40).toNatClampNeg) = (-1) → ¬ (s1 162 (s1 146 40).toNatClampNeg) < 97 → ¬ (s1 162 (s1 146 40).toNatClampNeg) ≤ 122 → ¬ (s1 162 (s1 146 40).toNatClampNeg) < 48 → ¬ (s1 162 (s1 146 40).toNatClampNeg) ≤ 57 → ¬ (s1 162 (s1 146 40).toNatClampNeg) = 40 → ¬ (s1 162 (s1 146 40).toNatClampNeg) = 41 → ¬ (s1 162 (s1 146 40).toNatClampNeg) = 59 → (s1 162 (s1 146 40).toNatClampNeg) = 43 → ∀ s63 : jg_H, s63 = jg_up s1 146 42 (s1 162 (s1 146 40).toNatClampNeg) → ∀ s64 : jg_H, s64 = jg_up s63 146 40 ((s63 146 40) + 1) → B none s64)
    (k35 : ¬ (s 146 40) < (s 146 38) → ∀ s1 : jg_H, s1 = jg_up s 146 41 (s 146 40) → (s1 146 40) < (s1 146 38) → ¬ (s1 162 (s1 146 40).toNatClampNeg) = (-1) → ¬ (s1 162 (s1 146 40).toNatClampNeg) < 97 → ¬ (s1 162 (s1 146 40).toNatClampNeg) ≤ 122 → ¬ (s1 162 (s1 146 40).toNatClampNeg) < 48 → ¬ (s1 162 (s1 146 40).toNatClampNeg) ≤ 57 → ¬ (s1 162 (s1 146 40).toNatClampNeg) = 40 → ¬ (s1 162 (s1 146 40).toNatClampNeg) = 41 → ¬ (s1 162 (s1 146 40).toNatClampNeg) = 59 → ¬ (s1 162 (s1 146 40).toNatClampNeg) = 43 → (s1 162 (s1 146 40).toNatClampNeg) = 45 → ∀ s65 : jg_H, s65 = jg_up s1 146 42 (s1 162 (s1 146 40).toNatClampNeg) → ∀ s66 : jg_H, s66 = jg_up s65 146 40 ((s65 146 40) + 1) → B none s66)
    (k36 : ¬ (s 146 40) < (s 146 38) → ∀ s1 : jg_H, s1 = jg_up s 146 41 (s 146 40) → (s1 146 40) < (s1 146 38) → ¬ (s1 162 (s1 146 40).toNatClampNeg) = (-1) → ¬ (s1 162 (s1 146 40).toNatClampNeg) < 97 → ¬ (s1 162 (s1 146 40).toNatClampNeg) ≤ 122 → ¬ (s1 162 (s1 146 40).toNatClampNeg) < 48 → ¬ (s1 162 (s1 146 40).toNatClampNeg) ≤ 57 → ¬ (s1 162 (s1 146 40).toNatClampNeg) = 40 → ¬ (s1 162 (s1 146 40).toNatClampNeg) = 41 → ¬ (s1 162 (s1 146 40).toNatClampNeg) = 59 → ¬ (s1 162 (s1 146 40).toNatClampNeg) = 43 → ¬ (s1 162 (s1 146 40).toNatClampNeg) = 45 → (s1 162 (s1 146 40).toNatClampNeg) = 42 → ∀ s67 : jg_H, s67 = jg_up s1 146 42 (s1 162 (s1 146 40).toNatClampNeg) → ∀ s68 : jg_H, s68 = jg_up s67 146 40 ((s67 146 40) + 1) → B none s68)
    (k37 : ¬ (s 146 40) < (s 146 38) → ∀ s1 : jg_H, s1 = jg_up s 146 41 (s 146 40) → (s1 146 40) < (s1 146 38) → ¬ (s1 162 (s1 146 40).toNatClampNeg) = (-1) → ¬ (s1 162 (s1 146 40).toNatClampNeg) < 97 → ¬ (s1 162 (s1 146 40).toNatClampNeg) ≤ 122 → ¬ (s1 162 (s1 146 40).toNatClampNeg) < 48 → ¬ (s1 162 (s1 146 40).toNatClampNeg) ≤ 57 → ¬ (s1 162 (s1 146 40).toNatClampNeg) = 40 → ¬ (s1 162 (s1 146 40).toNatClampNeg) = 41 → ¬ (s1 162 (s1 146 40).toNatClampNeg) = 59 → ¬ (s1 162 (s1 146 40).toNatClampNeg) = 43 → ¬ (s1 162 (s1 146 40).toNatClampNeg) = 45 → ¬ (s1 162 (s1 146 40).toNatClampNeg) = 42 → (s1 162 (s1 146 40).toNatClampNeg) = 60 → ∀ s69 : jg_H, s69 = jg_up s1 146 42 (s1 162 (s1 146 40).toNatClampNeg) → ∀ s70 : jg_H, s70 = jg_up s69 146 40 ((s69 146 40) + 1) → B none s70)
    (k38 : ¬ (s 146 40) < (s 146 38) → ∀ s1 : jg_H, s1 = jg_up s 146 41 (s 146 40) → (s1 146 40) < (s1 146 38) → ¬ (s1 162 (s1 146 40).toNatClampNeg) = (-1) → ¬ (s1 162 (s1 146 40).toNatClampNeg) < 97 → ¬ (s1 162 (s1 146 40).toNatClampNeg) ≤ 122 → ¬ (s1 162 (s1 146 40).toNatClampNeg) < 48 → ¬ (s1 162 (s1 146 40).toNatClampNeg) ≤ 57 → ¬ (s1 162 (s1 146 40).toNatClampNeg) = 40 → ¬ (s1 162 (s1 146 40).toNatClampNeg) = 41 → ¬ (s1 162 (s1 146 40).toNatClampNeg) = 59 → ¬ (s1 162 (s1 146 40).toNatClampNeg) = 43 → ¬ (s1 162 (s1 146 40).toNatClampNeg) = 45 → ¬ (s1 162 (s1 146 40).toNatClampNeg) = 42 → ¬ (s1 162 (s1 146 40).toNatClampNeg) = 60 → ¬ (s1 162 (s1 146 40).toNatClampNeg) = 61 → ∀ s71 : jg_H, s71 = jg_up s1 146 42 2 → ∀ s72 : jg_H, s72 = jg_up s71 146 40 ((s71 146 40) + 1) → B none s72)
    (k39 : ¬ (s 146 40) < (s 146 38) → ∀ s1 : jg_H, s1 = jg_up s 146 41 (s 146 40) → (s1 146 40) < (s1 146 38) → ¬ (s1 162 (s1 146 40).toNatClampNeg) = (-1) → ¬ (s1 162 (s1 146 40).toNatClampNeg) < 97 → ¬ (s1 162 (s1 146 40).toNatClampNeg) ≤ 122 → ¬ (s1 162 (s1 146 40).toNatClampNeg) < 48 → ¬ (s1 162 (s1 146 40).toNatClampNeg) ≤ 57 → ¬ (s1 162 (s1 146 40).toNatClampNeg) = 40 → ¬ (s1 162 (s1 146 40).toNatClampNeg) = 41 → ¬ (s1 162 (s1 146 40).toNatClampNeg) = 59 → ¬ (s1 162 (s1 146 40).toNatClampNeg) = 43 → ¬ (s1 162 (s1 146 40).toNatClampNeg) = 45 → ¬ (s1 162 (s1 146 40).toNatClampNeg) = 42 → ¬ (s1 162 (s1 146 40).toNatClampNeg) = 60 → (s1 162 (s1 146 40).toNatClampNeg) = 61 → ∀ s73 : jg_H, s73 = jg_up s1 146 42 (s1 162 (s1 146 40).toNatClampNeg) → ∀ s74 : jg_H, s74 = jg_up s73 146 40 ((s73 146 40) + 1) → B none s74)
    (k40 : ¬ (s 146 40) < (s 146 38) → ∀ s1 : jg_H, s1 = jg_up s 146 41 (s 146 40) → (s1 146 40) < (s1 146 38) → ¬ (s1 162 (s1 146 40).toNatClampNeg) = (-1) → ¬ (s1 162 (s1 146 40).toNatClampNeg) < 97 → ¬ (s1 162 (s1 146 40).toNatClampNeg) ≤ 122 → ¬ (s1 162 (s1 146 40).toNatClampNeg) < 48 → (s1 162 (s1 146 40).toNatClampNeg) ≤ 57 → q_P G (d + 1) 139 [.ref 146] s1 (fun v t => q_W G (d + 1) jm_M_next B 94 [some (.ref 146), some (.int (s1 162 (s1 146 40).toNatClampNeg)), none] (v.toList ++ []) t))
    (k41 : ¬ (s 146 40) < (s 146 38) → ∀ s1 : jg_H, s1 = jg_up s 146 41 (s 146 40) → (s1 146 40) < (s1 146 38) → ¬ (s1 162 (s1 146 40).toNatClampNeg) = (-1) → ¬ (s1 162 (s1 146 40).toNatClampNeg) < 97 → (s1 162 (s1 146 40).toNatClampNeg) ≤ 122 → q_P G (d + 1) 137 [.ref 146] s1 (fun v t => q_W G (d + 1) jm_M_next B 80 [some (.ref 146), some (.int (s1 162 (s1 146 40).toNatClampNeg)), none] (v.toList ++ []) t))
    (k42 : ¬ (s 146 40) < (s 146 38) → ∀ s1 : jg_H, s1 = jg_up s 146 41 (s 146 40) → (s1 146 40) < (s1 146 38) → (s1 162 (s1 146 40).toNatClampNeg) = (-1) → ∀ s75 : jg_H, s75 = jg_up s1 146 42 0 → B none s75)
    (k43 : (s 146 40) < (s 146 38) → jv_in (s 146 40) 200 = true)
    (k44 : (s 146 40) < (s 146 38) → (s 162 (s 146 40).toNatClampNeg) = 32 → ∀ s76 : jg_H, s76 = jg_up s 146 40 ((s 146 40) + 1) → q_W G (d + 1) jm_M_next B 0 [some (.ref 146), none, none] [] s76)
    (k45 : (s 146 40) < (s 146 38) → ¬ (s 162 (s 146 40).toNatClampNeg) = 32 → jv_in (s 146 40) 200 = true)
    (k46 : (s 146 40) < (s 146 38) → ¬ (s 162 (s 146 40).toNatClampNeg) = 32 → ¬ (s 162 (s 146 40).toNatClampNeg) = 10 → ∀ s77 : jg_H, s77 = jg_up s 146 41 (s 146 40) → ¬ (s77 146 40) < (s77 146 38) → ∀ s78 : jg_H, s78 = jg_up s77 146 42 0 → B none s78)
    (k47 : (s 146 40) < (s 146 38) → ¬ (s 162 (s 146 40).toNatClampNeg) = 32 → ¬ (s 162 (s 146 40).toNatClampNeg) = 10 → ∀ s77 : jg_H, s77 = jg_up s 146 41 (s 146 40) → (s77 146 40) < (s77 146 38) → jv_in (s77 146 40) 200 = true)
    (k48 : (s 146 40) < (s 146 38) → ¬ (s 162 (s 146 40).toNatClampNeg) = 32 → ¬ (s 162 (s 146 40).toNatClampNeg) = 10 → ∀ s77 : jg_H, s77 = jg_up s 146 41 (s 146 40) → (s77 146 40) < (s77 146 38) → ¬ (s77 162 (s77 146 40).toNatClampNeg) = (-1) → (s77 162 (s77 146 40).toNatClampNeg) < 97 → (s77 162 (s77 146 40).toNatClampNeg) < 48 → (s77 162 (s77 146 40).toNatClampNeg) = 40 → ∀ s79 : jg_H, s79 = jg_up s77 146 42 (s77 162 (s77 146 40).toNatClampNeg) → ∀ s80 : jg_H, s80 = jg_up s79 146 40 ((s79 146 40) + 1) → B none s80)
    (k49 : (s 146 40) < (s 146 38) → ¬ (s 162 (s 146 40).toNatClampNeg) = 32 → ¬ (s 162 (s 146 40).toNatClampNeg) = 10 → ∀ s77 : jg_H, s77 = jg_up s 146 41 (s 146 40) → (s77 146 40) < (s77 146 38) → ¬ (s77 162 (s77 146 40).toNatClampNeg) = (-1) → (s77 162 (s77 146 40).toNatClampNeg) < 97 → (s77 162 (s77 146 40).toNatClampNeg) < 48 → ¬ (s77 162 (s77 146 40).toNatClampNeg) = 40 → (s77 162 (s77 146 40).toNatClampNeg) = 41 → ∀ s81 : jg_H, s81 = jg_up s77 146 42 (s77 162 (s77 146 40).toNatClampNeg) → ∀ s82 : jg_H, s82 = jg_up s81 146 40 ((s81 146 40) + 1) → B none s82)
    (k50 : (s 146 40) < (s 146 38) → ¬ (s 162 (s 146 40).toNatClampNeg) = 32 → ¬ (s 162 (s 146 40).toNatClampNeg) = 10 → ∀ s77 : jg_H, s77 = jg_up s 146 41 (s 146 40) → (s77 146 40) < (s77 146 38) → ¬ (s77 162 (s77 146 40).toNatClampNeg) = (-1) → (s77 162 (s77 146 40).toNatClampNeg) < 97 → (s77 162 (s77 146 40).toNatClampNeg) < 48 → ¬ (s77 162 (s77 146 40).toNatClampNeg) = 40 → ¬ (s77 162 (s77 146 40).toNatClampNeg) = 41 → (s77 162 (s77 146 40).toNatClampNeg) = 59 → ∀ s83 : jg_H, s83 = jg_up s77 146 42 (s77 162 (s77 146 40).toNatClampNeg) → ∀ s84 : jg_H, s84 = jg_up s83 146 40 ((s83 146 40) + 1) → B none s84)
    (k51 : (s 146 40) < (s 146 38) → ¬ (s 162 (s 146 40).toNatClampNeg) = 32 → ¬ (s 162 (s 146 40).toNatClampNeg) = 10 → ∀ s77 : jg_H, s77 = jg_up s 146 41 (s 146 40) → (s77 146 40) < (s77 146 38) → ¬ (s77 162 (s77 146 40).toNatClampNeg) = (-1) → (s77 162 (s77 146 40).toNatClampNeg) < 97 → (s77 162 (s77 146 40).toNatClampNeg) < 48 → ¬ (s77 162 (s77 146 40).toNatClampNeg) = 40 → ¬ (s77 162 (s77 146 40).toNatClampNeg) = 41 → ¬ (s77 162 (s77 146 40).toNatClampNeg) = 59 → (s77 162 (s77 146 40).toNatClampNeg) = 43 → ∀ s85 : jg_H, s85 = jg_up s77 146 42 (s77 162 (s77 146 40).toNatClampNeg) → ∀ s86 : jg_H, s86 = jg_up s85 146 40 ((s85 146 40) + 1) → B none s86)
    (k52 : (s 146 40) < (s 146 38) → ¬ (s 162 (s 146 40).toNatClampNeg) = 32 → ¬ (s 162 (s 146 40).toNatClampNeg) = 10 → ∀ s77 : jg_H, s77 = jg_up s 146 41 (s 146 40) → (s77 146 40) < (s77 146 38) → ¬ (s77 162 (s77 146 40).toNatClampNeg) = (-1) → (s77 162 (s77 146 40).toNatClampNeg) < 97 → (s77 162 (s77 146 40).toNatClampNeg) < 48 → ¬ (s77 162 (s77 146 40).toNatClampNeg) = 40 → ¬ (s77 162 (s77 146 40).toNatClampNeg) = 41 → ¬ (s77 162 (s77 146 40).toNatClampNeg) = 59 → ¬ (s77 162 (s77 146 40).toNatClampNeg) = 43 → (s77 162 (s77 146 40).toNatClampNeg) = 45 → ∀ s87 : jg_H, s87 = jg_up s77 146 42 (s77 162 (s77 146 40).toNatClampNeg) → ∀ s88 : jg_H, s88 = jg_up s87 146 40 ((s87 146 40) + 1) → B none s88)
    (k53 : (s 146 40) < (s 146 38) → ¬ (s 162 (s 146 40).toNatClampNeg) = 32 → ¬ (s 162 (s 146 40).toNatClampNeg) = 10 → ∀ s77 : jg_H, s77 = jg_up s 146 41 (s 146 40) → (s77 146 40) < (s77 146 38) → ¬ (s77 162 (s77 146 40).toNatClampNeg) = (-1) → (s77 162 (s77 146 40).toNatClampNeg) < 97 → (s77 162 (s77 146 40).toNatClampNeg) < 48 → ¬ (s77 162 (s77 146 40).toNatClampNeg) = 40 → ¬ (s77 162 (s77 146 40).toNatClampNeg) = 41 → ¬ (s77 162 (s77 146 40).toNatClampNeg) = 59 → ¬ (s77 162 (s77 146 40).toNatClampNeg) = 43 → ¬ (s77 162 (s77 146 40).toNatClampNeg) = 45 → (s77 162 (s77 146 40).toNatClampNeg) = 42 → ∀ s89 : jg_H, s89 = jg_up s77 146 42 (s77 162 (s77 146 40).toNatClampNeg) → ∀ s90 : jg_H, s90 = jg_up s89 146 40 ((s89 146 40) + 1) → B none s90)
    (k54 : (s 146 40) < (s 146 38) → ¬ (s 162 (s 146 40).toNatClampNeg) = 32 → ¬ (s 162 (s 146 40).toNatClampNeg) = 10 → ∀ s77 : jg_H, s77 = jg_up s 146 41 (s 146 40) → (s77 146 40) < (s77 146 38) → ¬ (s77 162 (s77 146 40).toNatClampNeg) = (-1) → (s77 162 (s77 146 40).toNatClampNeg) < 97 → (s77 162 (s77 146 40).toNatClampNeg) < 48 → ¬ (s77 162 (s77 146 40).toNatClampNeg) = 40 → ¬ (s77 162 (s77 146 40).toNatClampNeg) = 41 → ¬ (s77 162 (s77 146 40).toNatClampNeg) = 59 → ¬ (s77 162 (s77 146 40).toNatClampNeg) = 43 → ¬ (s77 162 (s77 146 40).toNatClampNeg) = 45 → ¬ (s77 162 (s77 146 40).toNatClampNeg) = 42 → (s77 162 (s77 146 40).toNatClampNeg) = 60 → ∀ s91 : jg_H, s91 = jg_up s77 146 42 (s77 162 (s77 146 40).toNatClampNeg) → ∀ s92 : jg_H, s92 = jg_up s91 146 40 ((s91 146 40) + 1) → B none s92)
    (k55 : (s 146 40) < (s 146 38) → ¬ (s 162 (s 146 40).toNatClampNeg) = 32 → ¬ (s 162 (s 146 40).toNatClampNeg) = 10 → ∀ s77 : jg_H, s77 = jg_up s 146 41 (s 146 40) → (s77 146 40) < (s77 146 38) → ¬ (s77 162 (s77 146 40).toNatClampNeg) = (-1) → (s77 162 (s77 146 40).toNatClampNeg) < 97 → (s77 162 (s77 146 40).toNatClampNeg) < 48 → ¬ (s77 162 (s77 146 40).toNatClampNeg) = 40 → ¬ (s77 162 (s77 146 40).toNatClampNeg) = 41 → ¬ (s77 162 (s77 146 40).toNatClampNeg) = 59 → ¬ (s77 162 (s77 146 40).toNatClampNeg) = 43 → ¬ (s77 162 (s77 146 40).toNatClampNeg) = 45 → ¬ (s77 162 (s77 146 40).toNatClampNeg) = 42 → ¬ (s77 162 (s77 146 40).toNatClampNeg) = 60 → ¬ (s77 162 (s77 146 40).toNatClampNeg) = 61 → ∀ s93 : jg_H, s93 = jg_up s77 146 42 2 → ∀ s94 : jg_H, s94 = jg_up s93 146 40 ((s93 146 40) + 1) → B none s94)
    (k56 : (s 146 40) < (s 146 38) → ¬ (s 162 (s 146 40).toNatClampNeg) = 32 → ¬ (s 162 (s 146 40).toNatClampNeg) = 10 → ∀ s77 : jg_H, s77 = jg_up s 146 41 (s 146 40) → (s77 146 40) < (s77 146 38) → ¬ (s77 162 (s77 146 40).toNatClampNeg) = (-1) → (s77 162 (s77 146 40).toNatClampNeg) < 97 → (s77 162 (s77 146 40).toNatClampNeg) < 48 → ¬ (s77 162 (s77 146 40).toNatClampNeg) = 40 → ¬ (s77 162 (s77 146 40).toNatClampNeg) = 41 → ¬ (s77 162 (s77 146 40).toNatClampNeg) = 59 → ¬ (s77 162 (s77 146 40).toNatClampNeg) = 43 → ¬ (s77 162 (s77 146 40).toNatClampNeg) = 45 → ¬ (s77 162 (s77 146 40).toNatClampNeg) = 42 → ¬ (s77 162 (s77 146 40).toNatClampNeg) = 60 → (s77 162 (s77 146 40).toNatClampNeg) = 61 → ∀ s95 : jg_H, s95 = jg_up s77 146 42 (s77 162 (s77 146 40).toNatClampNeg) → ∀ s96 : jg_H, s96 = jg_up s95 146 40 ((s95 146 40) + 1) → B none s96)
    (k57 : (s 146 40) < (s 146 38) → ¬ (s 162 (s 146 40).toNatClampNeg) = 32 → ¬ (s 162 (s 146 40).toNatClampNeg) = 10 → ∀ s77 : jg_H, s77 = jg_up s 146 41 (s 146 40) → (s77 146 40) < (s77 146 38) → ¬ (s77 162 (s77 146 40).toNatClampNeg) = (-1) → (s77 162 (s77 146 40).toNatClampNeg) < 97 → ¬ (s77 162 (s77 146 40).toNatClampNeg) < 48 → ¬ (s77 162 (s77 146 40).toNatClampNeg) ≤ 57 → (s77 162 (s77 146 40).toNatClampNeg) = 40 → ∀ s97 : jg_H, s97 = jg_up s77 146 42 (s77 162 (s77 146 40).toNatClampNeg) → ∀ s98 : jg_H, s98 = jg_up s97 146 40 ((s97 146 40) + 1) → B none s98)
    (k58 : (s 146 40) < (s 146 38) → ¬ (s 162 (s 146 40).toNatClampNeg) = 32 → ¬ (s 162 (s 146 40).toNatClampNeg) = 10 → ∀ s77 : jg_H, s77 = jg_up s 146 41 (s 146 40) → (s77 146 40) < (s77 146 38) → ¬ (s77 162 (s77 146 40).toNatClampNeg) = (-1) → (s77 162 (s77 146 40).toNatClampNeg) < 97 → ¬ (s77 162 (s77 146 40).toNatClampNeg) < 48 → ¬ (s77 162 (s77 146 40).toNatClampNeg) ≤ 57 → ¬ (s77 162 (s77 146 40).toNatClampNeg) = 40 → (s77 162 (s77 146 40).toNatClampNeg) = 41 → ∀ s99 : jg_H, s99 = jg_up s77 146 42 (s77 162 (s77 146 40).toNatClampNeg) → ∀ s100 : jg_H, s100 = jg_up s99 146 40 ((s99 146 40) + 1) → B none s100)
    (k59 : (s 146 40) < (s 146 38) → ¬ (s 162 (s 146 40).toNatClampNeg) = 32 → ¬ (s 162 (s 146 40).toNatClampNeg) = 10 → ∀ s77 : jg_H, s77 = jg_up s 146 41 (s 146 40) → (s77 146 40) < (s77 146 38) → ¬ (s77 162 (s77 146 40).toNatClampNeg) = (-1) → (s77 162 (s77 146 40).toNatClampNeg) < 97 → ¬ (s77 162 (s77 146 40).toNatClampNeg) < 48 → ¬ (s77 162 (s77 146 40).toNatClampNeg) ≤ 57 → ¬ (s77 162 (s77 146 40).toNatClampNeg) = 40 → ¬ (s77 162 (s77 146 40).toNatClampNeg) = 41 → (s77 162 (s77 146 40).toNatClampNeg) = 59 → ∀ s101 : jg_H, s101 = jg_up s77 146 42 (s77 162 (s77 146 40).toNatClampNeg) → ∀ s102 : jg_H, s102 = jg_up s101 146 40 ((s101 146 40) + 1) → B none s102)
    (k60 : (s 146 40) < (s 146 38) → ¬ (s 162 (s 146 40).toNatClampNeg) = 32 → ¬ (s 162 (s 146 40).toNatClampNeg) = 10 → ∀ s77 : jg_H, s77 = jg_up s 146 41 (s 146 40) → (s77 146 40) < (s77 146 38) → ¬ (s77 162 (s77 146 40).toNatClampNeg) = (-1) → (s77 162 (s77 146 40).toNatClampNeg) < 97 → ¬ (s77 162 (s77 146 40).toNatClampNeg) < 48 → ¬ (s77 162 (s77 146 40).toNatClampNeg) ≤ 57 → ¬ (s77 162 (s77 146 40).toNatClampNeg) = 40 → ¬ (s77 162 (s77 146 40).toNatClampNeg) = 41 → ¬ (s77 162 (s77 146 40).toNatClampNeg) = 59 → (s77 162 (s77 146 40).toNatClampNeg) = 43 → ∀ s103 : jg_H, s103 = jg_up s77 146 42 (s77 162 (s77 146 40).toNatClampNeg) → ∀ s104 : jg_H, s104 = jg_up s103 146 40 ((s103 146 40) + 1) → B none s104)
    (k61 : (s 146 40) < (s 146 38) → ¬ (s 162 (s 146 40).toNatClampNeg) = 32 → ¬ (s 162 (s 146 40).toNatClampNeg) = 10 → ∀ s77 : jg_H, s77 = jg_up s 146 41 (s 146 40) → (s77 146 40) < (s77 146 38) → ¬ (s77 162 (s77 146 40).toNatClampNeg) = (-1) → (s77 162 (s77 146 40).toNatClampNeg) < 97 → ¬ (s77 162 (s77 146 40).toNatClampNeg) < 48 → ¬ (s77 162 (s77 146 40).toNatClampNeg) ≤ 57 → ¬ (s77 162 (s77 146 40).toNatClampNeg) = 40 → ¬ (s77 162 (s77 146 40).toNatClampNeg) = 41 → ¬ (s77 162 (s77 146 40).toNatClampNeg) = 59 → ¬ (s77 162 (s77 146 40).toNatClampNeg) = 43 → (s77 162 (s77 146 40).toNatClampNeg) = 45 → ∀ s105 : jg_H, s105 = jg_up s77 146 42 (s77 162 (s77 146 40).toNatClampNeg) → ∀ s106 : jg_H, s106 = jg_up s105 146 40 ((s105 146 40) + 1) → B none s106)
    (k62 : (s 146 40) < (s 146 38) → ¬ (s 162 (s 146 40).toNatClampNeg) = 32 → ¬ (s 162 (s 146 40).toNatClampNeg) = 10 → ∀ s77 : jg_H, s77 = jg_up s 146 41 (s 146 40) → (s77 146 40) < (s77 146 38) → ¬ (s77 162 (s77 146 40).toNatClampNeg) = (-1) → (s77 162 (s77 146 40).toNatClampNeg) < 97 → ¬ (s77 162 (s77 146 40).toNatClampNeg) < 48 → ¬ (s77 162 (s77 146 40).toNatClampNeg) ≤ 57 → ¬ (s77 162 (s77 146 40).toNatClampNeg) = 40 → ¬ (s77 162 (s77 146 40).toNatClampNeg) = 41 → ¬ (s77 162 (s77 146 40).toNatClampNeg) = 59 → ¬ (s77 162 (s77 146 40).toNatClampNeg) = 43 → ¬ (s77 162 (s77 146 40).toNatClampNeg) = 45 → (s77 162 (s77 146 40).toNatClampNeg) = 42 → ∀ s107 : jg_H, s107 = jg_up s77 146 42 (s77 162 (s77 146 40).toNatClampNeg) → ∀ s108 : jg_H, s108 = jg_up s107 146 40 ((s107 146 40) + 1) → B none s108)
    (k63 : (s 146 40) < (s 146 38) → ¬ (s 162 (s 146 40).toNatClampNeg) = 32 → ¬ (s 162 (s 146 40).toNatClampNeg) = 10 → ∀ s77 : jg_H, s77 = jg_up s 146 41 (s 146 40) → (s77 146 40) < (s77 146 38) → ¬ (s77 162 (s77 146 40).toNatClampNeg) = (-1) → (s77 162 (s77 146 40).toNatClampNeg) < 97 → ¬ (s77 162 (s77 146 40).toNatClampNeg) < 48 → ¬ (s77 162 (s77 146 40).toNatClampNeg) ≤ 57 → ¬ (s77 162 (s77 146 40).toNatClampNeg) = 40 → ¬ (s77 162 (s77 146 40).toNatClampNeg) = 41 → ¬ (s77 162 (s77 146 40).toNatClampNeg) = 59 → ¬ (s77 162 (s77 146 40).toNatClampNeg) = 43 → ¬ (s77 162 (s77 146 40).toNatClampNeg) = 45 → ¬ (s77 162 (s77 146 40).toNatClampNeg) = 42 → (s77 162 (s77 146 40).toNatClampNeg) = 60 → ∀ s109 : jg_H, s109 = jg_up s77 146 42 (s77 162 (s77 146 40).toNatClampNeg) → ∀ s110 : jg_H, s110 = jg_up s109 146 40 ((s109 146 40) + 1) → B none s110)
    (k64 : (s 146 40) < (s 146 38) → ¬ (s 162 (s 146 40).toNatClampNeg) = 32 → ¬ (s 162 (s 146 40).toNatClampNeg) = 10 → ∀ s77 : jg_H, s77 = jg_up s 146 41 (s 146 40) → (s77 146 40) < (s77 146 38) → ¬ (s77 162 (s77 146 40).toNatClampNeg) = (-1) → (s77 162 (s77 146 40).toNatClampNeg) < 97 → ¬ (s77 162 (s77 146 40).toNatClampNeg) < 48 → ¬ (s77 162 (s77 146 40).toNatClampNeg) ≤ 57 → ¬ (s77 162 (s77 146 40).toNatClampNeg) = 40 → ¬ (s77 162 (s77 146 40).toNatClampNeg) = 41 → ¬ (s77 162 (s77 146 40).toNatClampNeg) = 59 → ¬ (s77 162 (s77 146 40).toNatClampNeg) = 43 → ¬ (s77 162 (s77 146 40).toNatClampNeg) = 45 → ¬ (s77 162 (s77 146 40).toNatClampNeg) = 42 → ¬ (s77 162 (s77 146 40).toNatClampNeg) = 60 → ¬ (s77 162 (s77 146 40).toNatClampNeg) = 61 → ∀ s111 : jg_H, s111 = jg_up s77 146 42 2 → ∀ s112 : jg_H, s112 = jg_up s111 146 40 ((s111 146 40) + 1) → B none s112)
    (k65 : (s 146 40) < (s 146 38) → ¬ (s 162 (s 146 40).toNatClampNeg) = 32 → ¬ (s 162 (s 146 40).toNatClampNeg) = 10 → ∀ s77 : jg_H, s77 = jg_up s 146 41 (s 146 40) → (s77 146 40) < (s77 146 38) → ¬ (s77 162 (s77 146 40).toNatClampNeg) = (-1) → (s77 162 (s77 146 40).toNatClampNeg) < 97 → ¬ (s77 162 (s77 146 40).toNatClampNeg) < 48 → ¬ (s77 162 (s77 146 40).toNatClampNeg) ≤ 57 → ¬ (s77 162 (s77 146 40).toNatClampNeg) = 40 → ¬ (s77 162 (s77 146 40).toNatClampNeg) = 41 → ¬ (s77 162 (s77 146 40).toNatClampNeg) = 59 → ¬ (s77 162 (s77 146 40).toNatClampNeg) = 43 → ¬ (s77 162 (s77 146 40).toNatClampNeg) = 45 → ¬ (s77 162 (s77 146 40).toNatClampNeg) = 42 → ¬ (s77 162 (s77 146 40).toNatClampNeg) = 60 → (s77 162 (s77 146 40).toNatClampNeg) = 61 → ∀ s113 : jg_H, s113 = jg_up s77 146 42 (s77 162 (s77 146 40).toNatClampNeg) → ∀ s114 : jg_H, s114 = jg_up s113 146 40 ((s113 146 40) + 1) → B none s114)
    (k66 : (s 146 40) < (s 146 38) → ¬ (s 162 (s 146 40).toNatClampNeg) = 32 → ¬ (s 162 (s 146 40).toNatClampNeg) = 10 → ∀ s77 : jg_H, s77 = jg_up s 146 41 (s 146 40) → (s77 146 40) < (s77 146 38) → ¬ (s77 162 (s77 146 40).toNatClampNeg) = (-1) → (s77 162 (s77 146 40).toNatClampNeg) < 97 → ¬ (s77 162 (s77 146 40).toNatClampNeg) < 48 → (s77 162 (s77 146 40).toNatClampNeg) ≤ 57 → q_P G (d + 1) 139 [.ref 146] s77 (fun v t => q_W G (d + 1) jm_M_next B 94 [some (.ref 146), some (.int (s77 162 (s77 146 40).toNatClampNeg)), none] (v.toList ++ []) t))
    (k67 : (s 146 40) < (s 146 38) → ¬ (s 162 (s 146 40).toNatClampNeg) = 32 → ¬ (s 162 (s 146 40).toNatClampNeg) = 10 → ∀ s77 : jg_H, s77 = jg_up s 146 41 (s 146 40) → (s77 146 40) < (s77 146 38) → ¬ (s77 162 (s77 146 40).toNatClampNeg) = (-1) → ¬ (s77 162 (s77 146 40).toNatClampNeg) < 97 → ¬ (s77 162 (s77 146 40).toNatClampNeg) ≤ 122 → (s77 162 (s77 146 40).toNatClampNeg) < 48 → (s77 162 (s77 146 40).toNatClampNeg) = 40 → ∀ s115 : jg_H, s115 = jg_up s77 146 42 (s77 162 (s77 146 40).toNatClampNeg) → ∀ s116 : jg_H, s116 = jg_up s115 146 40 ((s115 146 40) + 1) → B none s116)
    (k68 : (s 146 40) < (s 146 38) → ¬ (s 162 (s 146 40).toNatClampNeg) = 32 → ¬ (s 162 (s 146 40).toNatClampNeg) = 10 → ∀ s77 : jg_H, s77 = jg_up s 146 41 (s 146 40) → (s77 146 40) < (s77 146 38) → ¬ (s77 162 (s77 146 40).toNatClampNeg) = (-1) → ¬ (s77 162 (s77 146 40).toNatClampNeg) < 97 → ¬ (s77 162 (s77 146 40).toNatClampNeg) ≤ 122 → (s77 162 (s77 146 40).toNatClampNeg) < 48 → ¬ (s77 162 (s77 146 40).toNatClampNeg) = 40 → (s77 162 (s77 146 40).toNatClampNeg) = 41 → ∀ s117 : jg_H, s117 = jg_up s77 146 42 (s77 162 (s77 146 40).toNatClampNeg) → ∀ s118 : jg_H, s118 = jg_up s117 146 40 ((s117 146 40) + 1) → B none s118)
    (k69 : (s 146 40) < (s 146 38) → ¬ (s 162 (s 146 40).toNatClampNeg) = 32 → ¬ (s 162 (s 146 40).toNatClampNeg) = 10 → ∀ s77 : jg_H, s77 = jg_up s 146 41 (s 146 40) → (s77 146 40) < (s77 146 38) → ¬ (s77 162 (s77 146 40).toNatClampNeg) = (-1) → ¬ (s77 162 (s77 146 40).toNatClampNeg) < 97 → ¬ (s77 162 (s77 146 40).toNatClampNeg) ≤ 122 → (s77 162 (s77 146 40).toNatClampNeg) < 48 → ¬ (s77 162 (s77 146 40).toNatClampNeg) = 40 → ¬ (s77 162 (s77 146 40).toNatClampNeg) = 41 → (s77 162 (s77 146 40).toNatClampNeg) = 59 → ∀ s119 : jg_H, s119 = jg_up s77 146 42 (s77 162 (s77 146 40).toNatClampNeg) → ∀ s120 : jg_H, s120 = jg_up s119 146 40 ((s119 146 40) + 1) → B none s120)
    (k70 : (s 146 40) < (s 146 38) → ¬ (s 162 (s 146 40).toNatClampNeg) = 32 → ¬ (s 162 (s 146 40).toNatClampNeg) = 10 → ∀ s77 : jg_H, s77 = jg_up s 146 41 (s 146 40) → (s77 146 40) < (s77 146 38) → ¬ (s77 162 (s77 146 40).toNatClampNeg) = (-1) → ¬ (s77 162 (s77 146 40).toNatClampNeg) < 97 → ¬ (s77 162 (s77 146 40).toNatClampNeg) ≤ 122 → (s77 162 (s77 146 40).toNatClampNeg) < 48 → ¬ (s77 162 (s77 146 40).toNatClampNeg) = 40 → ¬ (s77 162 (s77 146 40).toNatClampNeg) = 41 → ¬ (s77 162 (s77 146 40).toNatClampNeg) = 59 → (s77 162 (s77 146 40).toNatClampNeg) = 43 → ∀ s121 : jg_H, s121 = jg_up s77 146 42 (s77 162 (s77 146 40).toNatClampNeg) → ∀ s122 : jg_H, s122 = jg_up s121 146 40 ((s121 146 40) + 1) → B none s122)
    (k71 : (s 146 40) < (s 146 38) → ¬ (s 162 (s 146 40).toNatClampNeg) = 32 → ¬ (s 162 (s 146 40).toNatClampNeg) = 10 → ∀ s77 : jg_H, s77 = jg_up s 146 41 (s 146 40) → (s77 146 40) < (s77 146 38) → ¬ (s77 162 (s77 146 40).toNatClampNeg) = (-1) → ¬ (s77 162 (s77 146 40).toNatClampNeg) < 97 → ¬ (s77 162 (s77 146 40).toNatClampNeg) ≤ 122 → (s77 162 (s77 146 40).toNatClampNeg) < 48 → ¬ (s77 162 (s77 146 40).toNatClampNeg) = 40 → ¬ (s77 162 (s77 146 40).toNatClampNeg) = 41 → ¬ (s77 162 (s77 146 40).toNatClampNeg) = 59 → ¬ (s77 162 (s77 146 40).toNatClampNeg) = 43 → (s77 162 (s77 146 40).toNatClampNeg) = 45 → ∀ s123 : jg_H, s123 = jg_up s77 146 42 (s77 162 (s77 146 40).toNatClampNeg) → ∀ s124 : jg_H, s124 = jg_up s123 146 40 ((s123 146 40) + 1) → B none s124)
    (k72 : (s 146 40) < (s 146 38) → ¬ (s 162 (s 146 40).toNatClampNeg) = 32 → ¬ (s 162 (s 146 40).toNatClampNeg) = 10 → ∀ s77 : jg_H, s77 = jg_up s 146 41 (s 146 40) → (s77 146 40) < (s77 146 38) → ¬ (s77 162 (s77 146 40).toNatClampNeg) = (-1) → ¬ (s77 162 (s77 146 40).toNatClampNeg) < 97 → ¬ (s77 162 (s77 146 40).toNatClampNeg) ≤ 122 → (s77 162 (s77 146 40).toNatClampNeg) < 48 → ¬ (s77 162 (s77 146 40).toNatClampNeg) = 40 → ¬ (s77 162 (s77 146 40).toNatClampNeg) = 41 → ¬ (s77 162 (s77 146 40).toNatClampNeg) = 59 → ¬ (s77 162 (s77 146 40).toNatClampNeg) = 43 → ¬ (s77 162 (s77 146 40).toNatClampNeg) = 45 → (s77 162 (s77 146 40).toNatClampNeg) = 42 → ∀ s125 : jg_H, s125 = jg_up s77 146 42 (s77 162 (s77 146 40).toNatClampNeg) → ∀ s126 : jg_H, s126 = jg_up s125 146 40 ((s125 146 40) + 1) → B none s126)
    (k73 : (s 146 40) < (s 146 38) → ¬ (s 162 (s 146 40).toNatClampNeg) = 32 → ¬ (s 162 (s 146 40).toNatClampNeg) = 10 → ∀ s77 : jg_H, s77 = jg_up s 146 41 (s 146 40) → (s77 146 40) < (s77 146 38) → ¬ (s77 162 (s77 146 40).toNatClampNeg) = (-1) → ¬ (s77 162 (s77 146 40).toNatClampNeg) < 97 → ¬ (s77 162 (s77 146 40).toNatClampNeg) ≤ 122 → (s77 162 (s77 146 40).toNatClampNeg) < 48 → ¬ (s77 162 (s77 146 40).toNatClampNeg) = 40 → ¬ (s77 162 (s77 146 40).toNatClampNeg) = 41 → ¬ (s77 162 (s77 146 40).toNatClampNeg) = 59 → ¬ (s77 162 (s77 146 40).toNatClampNeg) = 43 → ¬ (s77 162 (s77 146 40).toNatClampNeg) = 45 → ¬ (s77 162 (s77 146 40).toNatClampNeg) = 42 → (s77 162 (s77 146 40).toNatClampNeg) = 60 → ∀ s127 : jg_H, s127 = jg_up s77 146 42 (s77 162 (s77 146 40).toNatClampNeg) → ∀ s128 : jg_H, s128 = jg_up s127 146 40 ((s127 146 40) + 1) → B none s128)
    (k74 : (s 146 40) < (s 146 38) → ¬ (s 162 (s 146 40).toNatClampNeg) = 32 → ¬ (s 162 (s 146 40).toNatClampNeg) = 10 → ∀ s77 : jg_H, s77 = jg_up s 146 41 (s 146 40) → (s77 146 40) < (s77 146 38) → ¬ (s77 162 (s77 146 40).toNatClampNeg) = (-1) → ¬ (s77 162 (s77 146 40).toNatClampNeg) < 97 → ¬ (s77 162 (s77 146 40).toNatClampNeg) ≤ 122 → (s77 162 (s77 146 40).toNatClampNeg) < 48 → ¬ (s77 162 (s77 146 40).toNatClampNeg) = 40 → ¬ (s77 162 (s77 146 40).toNatClampNeg) = 41 → ¬ (s77 162 (s77 146 40).toNatClampNeg) = 59 → ¬ (s77 162 (s77 146 40).toNatClampNeg) = 43 → ¬ (s77 162 (s77 146 40).toNatClampNeg) = 45 → ¬ (s77 162 (s77 146 40).toNatClampNeg) = 42 → ¬ (s77 162 (s77 146 40).toNatClampNeg) = 60 → ¬ (s77 162 (s77 146 40).toNatClampNeg) = 61 → ∀ s129 : jg_H, s129 = jg_up s77 146 42 2 → ∀ s130 : jg_H, s130 = jg_up s129 146 40 ((s129 146 40) + 1) → B none s130)
    (k75 : (s 146 40) < (s 146 38) → ¬ (s 162 (s 146 40).toNatClampNeg) = 32 → ¬ (s 162 (s 146 40).toNatClampNeg) = 10 → ∀ s77 : jg_H, s77 = jg_up s 146 41 (s 146 40) → (s77 146 40) < (s77 146 38) → ¬ (s77 162 (s77 146 40).toNatClampNeg) = (-1) → ¬ (s77 162 (s77 146 40).toNatClampNeg) < 97 → ¬ (s77 162 (s77 146 40).toNatClampNeg) ≤ 122 → (s77 162 (s77 146 40).toNatClampNeg) < 48 → ¬ (s77 162 (s77 146 40).toNatClampNeg) = 40 → ¬ (s77 162 (s77 146 40).toNatClampNeg) = 41 → ¬ (s77 162 (s77 146 40).toNatClampNeg) = 59 → ¬ (s77 162 (s77 146 40).toNatClampNeg) = 43 → ¬ (s77 162 (s77 146 40).toNatClampNeg) = 45 → ¬ (s77 162 (s77 146 40).toNatClampNeg) = 42 → ¬ (s77 162 (s77 146 40).toNatClampNeg) = 60 → (s77 162 (s77 146 40).toNatClampNeg) = 61 → ∀ s131 : jg_H, s131 = jg_up s77 146 42 (s77 162 (s77 146 40).toNatClampNeg) → ∀ s132 : jg_H, s132 = jg_up s131 146 40 ((s131 146 40) + 1) → B none s132)
    (k76 : (s 146 40) < (s 146 38) → ¬ (s 162 (s 146 40).toNatClampNeg) = 32 → ¬ (s 162 (s 146 40).toNatClampNeg) = 10 → ∀ s77 : jg_H, s77 = jg_up s 146 41 (s 146 40) → (s77 146 40) < (s77 146 38) → ¬ (s77 162 (s77 146 40).toNatClampNeg) = (-1) → ¬ (s77 162 (s77 146 40).toNatClampNeg) < 97 → ¬ (s77 162 (s77 146 40).toNatClampNeg) ≤ 122 → ¬ (s77 162 (s77 146 40).toNatClampNeg) < 48 → ¬ (s77 162 (s77 146 40).toNatClampNeg) ≤ 57 → (s77 162 (s77 146 40).toNatClampNeg) = 40 → ∀ s133 : jg_H, s133 = jg_up s77 146 42 (s77 162 (s77 146 40).toNatClampNeg) → ∀ s134 : jg_H, s134 = jg_up s133 146 40 ((s133 146 40) + 1) → B none s134)
    (k77 : (s 146 40) < (s 146 38) → ¬ (s 162 (s 146 40).toNatClampNeg) = 32 → ¬ (s 162 (s 146 40).toNatClampNeg) = 10 → ∀ s77 : jg_H, s77 = jg_up s 146 41 (s 146 40) → (s77 146 40) < (s77 146 38) → ¬ (s77 162 (s77 146 40).toNatClampNeg) = (-1) → ¬ (s77 162 (s77 146 40).toNatClampNeg) < 97 → ¬ (s77 162 (s77 146 40).toNatClampNeg) ≤ 122 → ¬ (s77 162 (s77 146 40).toNatClampNeg) < 48 → ¬ (s77 162 (s77 146 40).toNatClampNeg) ≤ 57 → ¬ (s77 162 (s77 146 40).toNatClampNeg) = 40 → (s77 162 (s77 146 40).toNatClampNeg) = 41 → ∀ s135 : jg_H, s135 = jg_up s77 146 42 (s77 162 (s77 146 40).toNatClampNeg) → ∀ s136 : jg_H, s136 = jg_up s135 146 40 ((s135 146 40) + 1) → B none s136)
    (k78 : (s 146 40) < (s 146 38) → ¬ (s 162 (s 146 40).toNatClampNeg) = 32 → ¬ (s 162 (s 146 40).toNatClampNeg) = 10 → ∀ s77 : jg_H, s77 = jg_up s 146 41 (s 146 40) → (s77 146 40) < (s77 146 38) → ¬ (s77 162 (s77 146 40).toNatClampNeg) = (-1) → ¬ (s77 162 (s77 146 40).toNatClampNeg) < 97 → ¬ (s77 162 (s77 146 40).toNatClampNeg) ≤ 122 → ¬ (s77 162 (s77 146 40).toNatClampNeg) < 48 → ¬ (s77 162 (s77 146 40).toNatClampNeg) ≤ 57 → ¬ (s77 162 (s77 146 40).toNatClampNeg) = 40 → ¬ (s77 162 (s77 146 40).toNatClampNeg) = 41 → (s77 162 (s77 146 40).toNatClampNeg) = 59 → ∀ s137 : jg_H, s137 = jg_up s77 146 42 (s77 162 (s77 146 40).toNatClampNeg) → ∀ s138 : jg_H, s138 = jg_up s137 146 40 ((s137 146 40) + 1) → B none s138)
    (k79 : (s 146 40) < (s 146 38) → ¬ (s 162 (s 146 40).toNatClampNeg) = 32 → ¬ (s 162 (s 146 40).toNatClampNeg) = 10 → ∀ s77 : jg_H, s77 = jg_up s 146 41 (s 146 40) → (s77 146 40) < (s77 146 38) → ¬ (s77 162 (s77 146 40).toNatClampNeg) = (-1) → ¬ (s77 162 (s77 146 40).toNatClampNeg) < 97 → ¬ (s77 162 (s77 146 40).toNatClampNeg) ≤ 122 → ¬ (s77 162 (s77 146 40).toNatClampNeg) < 48 → ¬ (s77 162 (s77 146 40).toNatClampNeg) ≤ 57 → ¬ (s77 162 (s77 146 40).toNatClampNeg) = 40 → ¬ (s77 162 (s77 146 40).toNatClampNeg) = 41 → ¬ (s77 162 (s77 146 40).toNatClampNeg) = 59 → (s77 162 (s77 146 40).toNatClampNeg) = 43 → ∀ s139 : jg_H, s139 = jg_up s77 146 42 (s77 162 (s77 146 40).toNatClampNeg) → ∀ s140 : jg_H, s140 = jg_up s139 146 40 ((s139 146 40) + 1) → B none s140)
    (k80 : (s 146 40) < (s 146 38) → ¬ (s 162 (s 146 40).toNatClampNeg) = 32 → ¬ (s 162 (s 146 40).toNatClampNeg) = 10 → ∀ s77 : jg_H, s77 = jg_up s 146 41 (s 146 40) → (s77 146 40) < (s77 146 38) → ¬ (s77 162 (s77 146 40).toNatClampNeg) = (-1) → ¬ (s77 162 (s77 146 40).toNatClampNeg) < 97 → ¬ (s77 162 (s77 146 40).toNatClampNeg) ≤ 122 → ¬ (s77 162 (s77 146 40).toNatClampNeg) < 48 → ¬ (s77 162 (s77 146 40).toNatClampNeg) ≤ 57 → ¬ (s77 162 (s77 146 40).toNatClampNeg) = 40 → ¬ (s77 162 (s77 146 40).toNatClampNeg) = 41 → ¬ (s77 162 (s77 146 40).toNatClampNeg) = 59 → ¬ (s77 162 (s77 146 40).toNatClampNeg) = 43 → (s77 162 (s77 146 40).toNatClampNeg) = 45 → ∀ s141 : jg_H, s141 = jg_up s77 146 42 (s77 162 (s77 146 40).toNatClampNeg) → ∀ s142 : jg_H, s142 = jg_up s141 146 40 ((s141 146 40) + 1) → B none s142)
    (k81 : (s 146 40) < (s 146 38) → ¬ (s 162 (s 146 40).toNatClampNeg) = 32 → ¬ (s 162 (s 146 40).toNatClampNeg) = 10 → ∀ s77 : jg_H, s77 = jg_up s 146 41 (s 146 40) → (s77 146 40) < (s77 146 38) → ¬ (s77 162 (s77 146 40).toNatClampNeg) = (-1) → ¬ (s77 162 (s77 146 40).toNatClampNeg) < 97 → ¬ (s77 162 (s77 146 40).toNatClampNeg) ≤ 122 → ¬ (s77 162 (s77 146 40).toNatClampNeg) < 48 → ¬ (s77 162 (s77 146 40).toNatClampNeg) ≤ 57 → ¬ (s77 162 (s77 146 40).toNatClampNeg) = 40 → ¬ (s77 162 (s77 146 40).toNatClampNeg) = 41 → ¬ (s77 162 (s77 146 40).toNatClampNeg) = 59 → ¬ (s77 162 (s77 146 40).toNatClampNeg) = 43 → ¬ (s77 162 (s77 146 40).toNatClampNeg) = 45 → (s77 162 (s77 146 40).toNatClampNeg) = 42 → ∀ s143 : jg_H, s143 = jg_up s77 146 42 (s77 162 (s77 146 40).toNatClampNeg) → ∀ s144 : jg_H, s144 = jg_up s143 146 40 ((s143 146 40) + 1) → B none s144)
    (k82 : (s 146 40) < (s 146 38) → ¬ (s 162 (s 146 40).toNatClampNeg) = 32 → ¬ (s 162 (s 146 40).toNatClampNeg) = 10 → ∀ s77 : jg_H, s77 = jg_up s 146 41 (s 146 40) → (s77 146 40) < (s77 146 38) → ¬ (s77 162 (s77 146 40).toNatClampNeg) = (-1) → ¬ (s77 162 (s77 146 40).toNatClampNeg) < 97 → ¬ (s77 162 (s77 146 40).toNatClampNeg) ≤ 122 → ¬ (s77 162 (s77 146 40).toNatClampNeg) < 48 → ¬ (s77 162 (s77 146 40).toNatClampNeg) ≤ 57 → ¬ (s77 162 (s77 146 40).toNatClampNeg) = 40 → ¬ (s77 162 (s77 146 40).toNatClampNeg) = 41 → ¬ (s77 162 (s77 146 40).toNatClampNeg) = 59 → ¬ (s77 162 (s77 146 40).toNatClampNeg) = 43 → ¬ (s77 162 (s77 146 40).toNatClampNeg) = 45 → ¬ (s77 162 (s77 146 40).toNatClampNeg) = 42 → (s77 162 (s77 146 40).toNatClampNeg) = 60 → ∀ s145 : jg_H, s145 = jg_up s77 146 42 (s77 162 (s77 146 40).toNatClampNeg) → ∀ s146 : jg_H, s146 = jg_up s145 146 40 ((s145 146 40) + 1) → B none s146)
    (k83 : (s 146 40) < (s 146 38) → ¬ (s 162 (s 146 40).toNatClampNeg) = 32 → ¬ (s 162 (s 146 40).toNatClampNeg) = 10 → ∀ s77 : jg_H, s77 = jg_up s 146 41 (s 146 40) → (s77 146 40) < (s77 146 38) → ¬ (s77 162 (s77 146 40).toNatClampNeg) = (-1) → ¬ (s77 162 (s77 146 40).toNatClampNeg) < 97 → ¬ (s77 162 (s77 146 40).toNatClampNeg) ≤ 122 → ¬ (s77 162 (s77 146 40).toNatClampNeg) < 48 → ¬ (s77 162 (s77 146 40).toNatClampNeg) ≤ 57 → ¬ (s77 162 (s77 146 40).toNatClampNeg) = 40 → ¬ (s77 162 (s77 146 40).toNatClampNeg) = 41 → ¬ (s77 162 (s77 146 40).toNatClampNeg) = 59 → ¬ (s77 162 (s77 146 40).toNatClampNeg) = 43 → ¬ (s77 162 (s77 146 40).toNatClampNeg) = 45 → ¬ (s77 162 (s77 146 40).toNatClampNeg) = 42 → ¬ (s77 162 (s77 146 40).toNatClampNeg) = 60 → ¬ (s77 162 (s77 146 40).toNatClampNeg) = 61 → ∀ s147 : jg_H, s147 = jg_up s77 146 42 2 → ∀ s148 : jg_H, s148 = jg_up s147 146 40 ((s147 146 40) + 1) → B none s148)
    (k84 : (s 146 40) < (s 146 38) → ¬ (s 162 (s 146 40).toNatClampNeg) = 32 → ¬ (s 162 (s 146 40).toNatClampNeg) = 10 → ∀ s77 : jg_H, s77 = jg_up s 146 41 (s 146 40) → (s77 146 40) < (s77 146 38) → ¬ (s77 162 (s77 146 40).toNatClampNeg) = (-1) → ¬ (s77 162 (s77 146 40).toNatClampNeg) < 97 → ¬ (s77 162 (s77 146 40).toNatClampNeg) ≤ 122 → ¬ (s77 162 (s77 146 40).toNatClampNeg) < 48 → ¬ (s77 162 (s77 146 40).toNatClampNeg) ≤ 57 → ¬ (s77 162 (s77 146 40).toNatClampNeg) = 40 → ¬ (s77 162 (s77 146 40).toNatClampNeg) = 41 → ¬ (s77 162 (s77 146 40).toNatClampNeg) = 59 → ¬ (s77 162 (s77 146 40).toNatClampNeg) = 43 → ¬ (s77 162 (s77 146 40).toNatClampNeg) = 45 → ¬ (s77 162 (s77 146 40).toNatClampNeg) = 42 → ¬ (s77 162 (s77 146 40).toNatClampNeg) = 60 → (s77 162 (s77 146 40).toNatClampNeg) = 61 → ∀ s149 : jg_H, s149 = jg_up s77 146 42 (s77 162 (s77 146 40).toNatClampNeg) → ∀ s150 : jg_H, s150 = jg_up s149 146 40 ((s149 146 40) + 1) → B none s150)
    (k85 : (s 146 40) < (s 146 38) → ¬ (s 162 (s 146 40).toNatClampNeg) = 32 → ¬ (s 162 (s 146 40).toNatClampNeg) = 10 → ∀ s77 : jg_H, s77 = jg_up s 146 41 (s 146 40) → (s77 146 40) < (s77 146 38) → ¬ (s77 162 (s77 146 40).toNatClampNeg) = (-1) → ¬ (s77 162 (s77 146 40).toNatClampNeg) < 97 → ¬ (s77 162 (s77 146 40).toNatClampNeg) ≤ 122 → ¬ (s77 162 (s77 146 40).toNatClampNeg) < 48 → (s77 162 (s77 146 40).toNatClampNeg) ≤ 57 → q_P G (d + 1) 139 [.ref 146] s77 (fun v t => q_W G (d + 1) jm_M_next B 94 [some (.ref 146), some (.int (s77 162 (s77 146 40).toNatClampNeg)), none] (v.toList ++ []) t))
    (k86 : (s 146 40) < (s 146 38) → ¬ (s 162 (s 146 40).toNatClampNeg) = 32 → ¬ (s 162 (s 146 40).toNatClampNeg) = 10 → ∀ s77 : jg_H, s77 = jg_up s 146 41 (s 146 40) → (s77 146 40) < (s77 146 38) → ¬ (s77 162 (s77 146 40).toNatClampNeg) = (-1) → ¬ (s77 162 (s77 146 40).toNatClampNeg) < 97 → (s77 162 (s77 146 40).toNatClampNeg) ≤ 122 → q_P G (d + 1) 137 [.ref 146] s77 (fun v t => q_W G (d + 1) jm_M_next B 80 [some (.ref 146), some (.int (s77 162 (s77 146 40).toNatClampNeg)), none] (v.toList ++ []) t))
    (k87 : (s 146 40) < (s 146 38) → ¬ (s 162 (s 146 40).toNatClampNeg) = 32 → ¬ (s 162 (s 146 40).toNatClampNeg) = 10 → ∀ s77 : jg_H, s77 = jg_up s 146 41 (s 146 40) → (s77 146 40) < (s77 146 38) → (s77 162 (s77 146 40).toNatClampNeg) = (-1) → ∀ s151 : jg_H, s151 = jg_up s77 146 42 0 → B none s151)
    (k88 : (s 146 40) < (s 146 38) → ¬ (s 162 (s 146 40).toNatClampNeg) = 32 → (s 162 (s 146 40).toNatClampNeg) = 10 → ∀ s152 : jg_H, s152 = jg_up s 146 40 ((s 146 40) + 1) → q_W G (d + 1) jm_M_next B 0 [some (.ref 146), none, none] [] s152) :
    q_W G (d + 1) jm_M_next B 0 [some (.ref 146), none, none] [] s := by
  refine q_aload_n (pc' := 1) ja_M_next_0 rfl rfl ?_
  refine q_aload_n (pc' := 2) ja_M_next_1 rfl rfl ?_
  refine q_getf (pc' := 5) (v := .int (s 146 40)) ja_M_next_2 rfl (by decide) ⟨rfl, by decide⟩ rfl ?_
  refine q_virt (pc' := 8) (c := 146) (as := [.int (s 146 40)]) (r := []) ja_M_next_5 rfl rfl rfl (by decide) ⟨rfl, by decide⟩ ?_
  refine q_in (M := jm_M_byteAt) rfl (Nat.le_of_ble_eq_true rfl) (ls := [some (.ref 146), some (.int (s 146 40))]) rfl ?_
  refine q_iload_n (pc' := 1) ja_M_byteAt_0 rfl rfl ?_
  refine q_aload_n (pc' := 2) ja_M_byteAt_1 rfl rfl ?_
  refine q_getf (pc' := 5) (v := .int (s 146 38)) ja_M_byteAt_2 rfl (by decide) ⟨rfl, by decide⟩ rfl ?_
  refine q_ic_ge (pc' := 8) ja_M_byteAt_5 rfl ?_ ?_
  · intro h1
    refine q_iconst (pc' := 18) ja_M_byteAt_17 rfl (-1) (by decide) ?_
    refine q_iret ja_M_byteAt_18 rfl rfl ?_
    show q_W _ _ _ _ 8 [some (.ref 146), none, none] [.int (-1)] s
    refine q_bipush (pc' := 10) ja_M_next_8 rfl 32 (by decide) ?_
    refine q_ic_eq (pc' := 13) ja_M_next_10 rfl (fun h => absurd h ((by decide : ¬ (-1 : Int32) = 32))) (fun _ => ?_)
    refine q_aload_n (pc' := 14) ja_M_next_13 rfl rfl ?_
    refine q_aload_n (pc' := 15) ja_M_next_14 rfl rfl ?_
    refine q_getf (pc' := 18) (v := .int (s 146 40)) ja_M_next_15 rfl (by decide) ⟨rfl, by decide⟩ rfl ?_
    refine q_virt (pc' := 21) (c := 146) (as := [.int (s 146 40)]) (r := []) ja_M_next_18 rfl rfl rfl (by decide) ⟨rfl, by decide⟩ ?_
    refine q_in (M := jm_M_byteAt) rfl (Nat.le_of_ble_eq_true rfl) (ls := [some (.ref 146), some (.int (s 146 40))]) rfl ?_
    refine q_iload_n (pc' := 1) ja_M_byteAt_0 rfl rfl ?_
    refine q_aload_n (pc' := 2) ja_M_byteAt_1 rfl rfl ?_
    refine q_getf (pc' := 5) (v := .int (s 146 38)) ja_M_byteAt_2 rfl (by decide) ⟨rfl, by decide⟩ rfl ?_
    refine q_ic_ge (pc' := 8) ja_M_byteAt_5 rfl (fun _ => ?_) (fun h => absurd h (h1))
    refine q_iconst (pc' := 18) ja_M_byteAt_17 rfl (-1) (by decide) ?_
    refine q_iret ja_M_byteAt_18 rfl rfl ?_
    show q_W _ _ _ _ 21 [some (.ref 146), none, none] [.int (-1)] s
    refine q_bipush (pc' := 23) ja_M_next_21 rfl 10 (by decide) ?_
    refine q_ic_ne (pc' := 26) ja_M_next_23 rfl (fun _ => ?_) (fun h => absurd h ((by decide : ¬ (-1 : Int32) = 10)))
    refine q_aload_n (pc' := 40) ja_M_next_39 rfl rfl ?_
    refine q_aload_n (pc' := 41) ja_M_next_40 rfl rfl ?_
    refine q_getf (pc' := 44) (v := .int (s 146 40)) ja_M_next_41 rfl (by decide) ⟨rfl, by decide⟩ rfl ?_
    refine q_putf (pc' := 47) ja_M_next_44 rfl (by decide) rfl rfl rfl ?_
    intro s1 e1
    refine q_aload_n (pc' := 48) ja_M_next_47 rfl rfl ?_
    refine q_aload_n (pc' := 49) ja_M_next_48 rfl rfl ?_
    refine q_getf (pc' := 52) (v := .int (s1 146 40)) ja_M_next_49 rfl (by decide) ⟨rfl, by decide⟩ rfl ?_
    refine q_virt (pc' := 55) (c := 146) (as := [.int (s1 146 40)]) (r := []) ja_M_next_52 rfl rfl rfl (by decide) ⟨rfl, by decide⟩ ?_
    refine q_in (M := jm_M_byteAt) rfl (Nat.le_of_ble_eq_true rfl) (ls := [some (.ref 146), some (.int (s1 146 40))]) rfl ?_
    refine q_iload_n (pc' := 1) ja_M_byteAt_0 rfl rfl ?_
    refine q_aload_n (pc' := 2) ja_M_byteAt_1 rfl rfl ?_
    refine q_getf (pc' := 5) (v := .int (s1 146 38)) ja_M_byteAt_2 rfl (by decide) ⟨rfl, by decide⟩ rfl ?_
    refine q_ic_ge (pc' := 8) ja_M_byteAt_5 rfl ?_ ?_
    · intro h2
      refine q_iconst (pc' := 18) ja_M_byteAt_17 rfl (-1) (by decide) ?_
      refine q_iret ja_M_byteAt_18 rfl rfl ?_
      show q_W _ _ _ _ 55 [some (.ref 146), none, none] [.int (-1)] s1
      refine q_istore_n (pc' := 56) (ls' := [some (.ref 146), some (.int (-1)), none]) ja_M_next_55 rfl ⟨Nat.le_of_ble_eq_true rfl, rfl⟩ rfl ?_
      refine q_iload_n (pc' := 57) ja_M_next_56 rfl rfl ?_
      refine q_iconst (pc' := 58) ja_M_next_57 rfl (-1) (by decide) ?_
      refine q_ic_ne (pc' := 61) ja_M_next_58 rfl (fun h => absurd ((by decide : (-1 : Int32) = (-1))) h) (fun _ => ?_)
      refine q_aload_n (pc' := 62) ja_M_next_61 rfl rfl ?_
      refine q_iconst (pc' := 63) ja_M_next_62 rfl 0 (by decide) ?_
      refine q_putf (pc' := 66) ja_M_next_63 rfl (by decide) rfl rfl rfl ?_
      intro s2 e2
      refine q_goto ja_M_next_66 ?_
      exact q_vret ja_M_next_174 rfl (k1 h1 s1 e1 h2 s2 e2)
    · intro h3
      refine q_aload_n (pc' := 9) ja_M_byteAt_8 rfl rfl ?_
      refine q_getf (pc' := 12) (v := .ref 162) ja_M_byteAt_9 rfl (by decide) ⟨rfl, by decide⟩ rfl ?_
      refine q_iload_n (pc' := 13) ja_M_byteAt_12 rfl rfl ?_
      refine q_iald (pc' := 14) (v := .int (s1 162 (s1 146 40).toNatClampNeg)) ja_M_byteAt_13 rfl (by decide) (l := 200) rfl (k2 h1 s1 e1 h3) rfl ?_
      refine q_goto ja_M_byteAt_14 ?_
      refine q_iret ja_M_byteAt_18 rfl rfl ?_
      show q_W _ _ _ _ 55 [some (.ref 146), none, none] [.int (s1 162 (s1 146 40).toNatClampNeg)] s1
      refine q_istore_n (pc' := 56) (ls' := [some (.ref 146), some (.int (s1 162 (s1 146 40).toNatClampNeg)), none]) ja_M_next_55 rfl ⟨Nat.le_of_ble_eq_true rfl, rfl⟩ rfl ?_
      refine q_iload_n (pc' := 57) ja_M_next_56 rfl rfl ?_
      refine q_iconst (pc' := 58) ja_M_next_57 rfl (-1) (by decide) ?_
      refine q_ic_ne (pc' := 61) ja_M_next_58 rfl ?_ ?_
      · intro h4
        refine q_iload_n (pc' := 70) ja_M_next_69 rfl rfl ?_
        refine q_stat (pc' := 73) (as := [.int (s1 162 (s1 146 40).toNatClampNeg)]) (r := []) ja_M_next_70 rfl (by decide) rfl rfl ?_
        refine q_in (M := jm_M_isLetter) rfl (Nat.le_of_ble_eq_true rfl) (ls := [some (.int (s1 162 (s1 146 40).toNatClampNeg))]) rfl ?_
        refine q_iload_n (pc' := 1) ja_M_isLetter_0 rfl rfl ?_
        refine q_bipush (pc' := 3) ja_M_isLetter_1 rfl 97 (by decide) ?_
        refine q_ic_lt (pc' := 6) ja_M_isLetter_3 rfl ?_ ?_
        · intro h5
          refine q_iconst (pc' := 17) ja_M_isLetter_16 rfl 0 (by decide) ?_
          refine q_iret ja_M_isLetter_17 rfl (by decide) ?_
          show q_W _ _ _ _ 73 [some (.ref 146), some (.int (s1 162 (s1 146 40).toNatClampNeg)), none] [.int 0] s1
          refine q_if_eq (pc' := 76) ja_M_next_73 rfl (fun _ => ?_) (fun h => absurd ((by decide : (0 : Int32) = 0)) h)
          refine q_iload_n (pc' := 84) ja_M_next_83 rfl rfl ?_
          refine q_stat (pc' := 87) (as := [.int (s1 162 (s1 146 40).toNatClampNeg)]) (r := []) ja_M_next_84 rfl (by decide) rfl rfl ?_
          refine q_in (M := jm_M_isDigit) rfl (Nat.le_of_ble_eq_true rfl) (ls := [some (.int (s1 162 (s1 146 40).toNatClampNeg))]) rfl ?_
          refine q_iload_n (pc' := 1) ja_M_isDigit_0 rfl rfl ?_
          refine q_bipush (pc' := 3) ja_M_isDigit_1 rfl 48 (by decide) ?_
          refine q_ic_lt (pc' := 6) ja_M_isDigit_3 rfl ?_ ?_
          · intro h6
            refine q_iconst (pc' := 17) ja_M_isDigit_16 rfl 0 (by decide) ?_
            refine q_iret ja_M_isDigit_17 rfl (by decide) ?_
            show q_W _ _ _ _ 87 [some (.ref 146), some (.int (s1 162 (s1 146 40).toNatClampNeg)), none] [.int 0] s1
            refine q_if_eq (pc' := 90) ja_M_next_87 rfl (fun _ => ?_) (fun h => absurd ((by decide : (0 : Int32) = 0)) h)
            refine q_iload_n (pc' := 98) ja_M_next_97 rfl rfl ?_
            refine q_bipush (pc' := 100) ja_M_next_98 rfl 40 (by decide) ?_
            refine q_ic_eq (pc' := 103) ja_M_next_100 rfl ?_ ?_
            · intro h7
              refine q_iconst (pc' := 146) ja_M_next_145 rfl 1 (by decide) ?_
              refine q_goto ja_M_next_146 ?_
              refine q_istore_n (pc' := 151) (ls' := [some (.ref 146), some (.int (s1 162 (s1 146 40).toNatClampNeg)), some (.int 1)]) ja_M_next_150 rfl ⟨Nat.le_of_ble_eq_true rfl, rfl⟩ rfl ?_
              refine q_aload_n (pc' := 152) ja_M_next_151 rfl rfl ?_
              refine q_iload_n (pc' := 153) ja_M_next_152 rfl rfl ?_
              refine q_if_eq (pc' := 156) ja_M_next_153 rfl (fun h => absurd h ((by decide : ¬ (1 : Int32) = 0))) (fun _ => ?_)
              refine q_iload_n (pc' := 157) ja_M_next_156 rfl rfl ?_
              refine q_goto ja_M_next_157 ?_
              refine q_putf (pc' := 164) ja_M_next_161 rfl (by decide) rfl rfl rfl ?_
              intro s3 e3
              refine q_aload_n (pc' := 165) ja_M_next_164 rfl rfl ?_
              refine q_dup (pc' := 166) ja_M_next_165 rfl rfl ?_
              refine q_getf (pc' := 169) (v := .int (s3 146 40)) ja_M_next_166 rfl (by decide) ⟨rfl, by decide⟩ rfl ?_
              refine q_iconst (pc' := 170) ja_M_next_169 rfl 1 (by decide) ?_
              refine q_iadd (pc' := 171) ja_M_next_170 rfl ?_
              refine q_putf (pc' := 174) ja_M_next_171 rfl (by decide) rfl rfl rfl ?_
              intro s4 e4
              exact q_vret ja_M_next_174 rfl (k3 h1 s1 e1 h3 h4 h5 h6 h7 s3 e3 s4 e4)
            · intro h8
              refine q_iload_n (pc' := 104) ja_M_next_103 rfl rfl ?_
              refine q_bipush (pc' := 106) ja_M_next_104 rfl 41 (by decide) ?_
              refine q_ic_eq (pc' := 109) ja_M_next_106 rfl ?_ ?_
              · intro h9
                refine q_iconst (pc' := 146) ja_M_next_145 rfl 1 (by decide) ?_
                refine q_goto ja_M_next_146 ?_
                refine q_istore_n (pc' := 151) (ls' := [some (.ref 146), some (.int (s1 162 (s1 146 40).toNatClampNeg)), some (.int 1)]) ja_M_next_150 rfl ⟨Nat.le_of_ble_eq_true rfl, rfl⟩ rfl ?_
                refine q_aload_n (pc' := 152) ja_M_next_151 rfl rfl ?_
                refine q_iload_n (pc' := 153) ja_M_next_152 rfl rfl ?_
                refine q_if_eq (pc' := 156) ja_M_next_153 rfl (fun h => absurd h ((by decide : ¬ (1 : Int32) = 0))) (fun _ => ?_)
                refine q_iload_n (pc' := 157) ja_M_next_156 rfl rfl ?_
                refine q_goto ja_M_next_157 ?_
                refine q_putf (pc' := 164) ja_M_next_161 rfl (by decide) rfl rfl rfl ?_
                intro s5 e5
                refine q_aload_n (pc' := 165) ja_M_next_164 rfl rfl ?_
                refine q_dup (pc' := 166) ja_M_next_165 rfl rfl ?_
                refine q_getf (pc' := 169) (v := .int (s5 146 40)) ja_M_next_166 rfl (by decide) ⟨rfl, by decide⟩ rfl ?_
                refine q_iconst (pc' := 170) ja_M_next_169 rfl 1 (by decide) ?_
                refine q_iadd (pc' := 171) ja_M_next_170 rfl ?_
                refine q_putf (pc' := 174) ja_M_next_171 rfl (by decide) rfl rfl rfl ?_
                intro s6 e6
                exact q_vret ja_M_next_174 rfl (k4 h1 s1 e1 h3 h4 h5 h6 h8 h9 s5 e5 s6 e6)
              · intro h10
                refine q_iload_n (pc' := 110) ja_M_next_109 rfl rfl ?_
                refine q_bipush (pc' := 112) ja_M_next_110 rfl 59 (by decide) ?_
                refine q_ic_eq (pc' := 115) ja_M_next_112 rfl ?_ ?_
                · intro h11
                  refine q_iconst (pc' := 146) ja_M_next_145 rfl 1 (by decide) ?_
                  refine q_goto ja_M_next_146 ?_
                  refine q_istore_n (pc' := 151) (ls' := [some (.ref 146), some (.int (s1 162 (s1 146 40).toNatClampNeg)), some (.int 1)]) ja_M_next_150 rfl ⟨Nat.le_of_ble_eq_true rfl, rfl⟩ rfl ?_
                  refine q_aload_n (pc' := 152) ja_M_next_151 rfl rfl ?_
                  refine q_iload_n (pc' := 153) ja_M_next_152 rfl rfl ?_
                  refine q_if_eq (pc' := 156) ja_M_next_153 rfl (fun h => absurd h ((by decide : ¬ (1 : Int32) = 0))) (fun _ => ?_)
                  refine q_iload_n (pc' := 157) ja_M_next_156 rfl rfl ?_
                  refine q_goto ja_M_next_157 ?_
                  refine q_putf (pc' := 164) ja_M_next_161 rfl (by decide) rfl rfl rfl ?_
                  intro s7 e7
                  refine q_aload_n (pc' := 165) ja_M_next_164 rfl rfl ?_
                  refine q_dup (pc' := 166) ja_M_next_165 rfl rfl ?_
                  refine q_getf (pc' := 169) (v := .int (s7 146 40)) ja_M_next_166 rfl (by decide) ⟨rfl, by decide⟩ rfl ?_
                  refine q_iconst (pc' := 170) ja_M_next_169 rfl 1 (by decide) ?_
                  refine q_iadd (pc' := 171) ja_M_next_170 rfl ?_
                  refine q_putf (pc' := 174) ja_M_next_171 rfl (by decide) rfl rfl rfl ?_
                  intro s8 e8
                  exact q_vret ja_M_next_174 rfl (k5 h1 s1 e1 h3 h4 h5 h6 h8 h10 h11 s7 e7 s8 e8)
                · intro h12
                  refine q_iload_n (pc' := 116) ja_M_next_115 rfl rfl ?_
                  refine q_bipush (pc' := 118) ja_M_next_116 rfl 43 (by decide) ?_
                  refine q_ic_eq (pc' := 121) ja_M_next_118 rfl ?_ ?_
                  · intro h13
                    refine q_iconst (pc' := 146) ja_M_next_145 rfl 1 (by decide) ?_
                    refine q_goto ja_M_next_146 ?_
                    refine q_istore_n (pc' := 151) (ls' := [some (.ref 146), some (.int (s1 162 (s1 146 40).toNatClampNeg)), some (.int 1)]) ja_M_next_150 rfl ⟨Nat.le_of_ble_eq_true rfl, rfl⟩ rfl ?_
                    refine q_aload_n (pc' := 152) ja_M_next_151 rfl rfl ?_
                    refine q_iload_n (pc' := 153) ja_M_next_152 rfl rfl ?_
                    refine q_if_eq (pc' := 156) ja_M_next_153 rfl (fun h => absurd h ((by decide : ¬ (1 : Int32) = 0))) (fun _ => ?_)
                    refine q_iload_n (pc' := 157) ja_M_next_156 rfl rfl ?_
                    refine q_goto ja_M_next_157 ?_
                    refine q_putf (pc' := 164) ja_M_next_161 rfl (by decide) rfl rfl rfl ?_
                    intro s9 e9
                    refine q_aload_n (pc' := 165) ja_M_next_164 rfl rfl ?_
                    refine q_dup (pc' := 166) ja_M_next_165 rfl rfl ?_
                    refine q_getf (pc' := 169) (v := .int (s9 146 40)) ja_M_next_166 rfl (by decide) ⟨rfl, by decide⟩ rfl ?_
                    refine q_iconst (pc' := 170) ja_M_next_169 rfl 1 (by decide) ?_
                    refine q_iadd (pc' := 171) ja_M_next_170 rfl ?_
                    refine q_putf (pc' := 174) ja_M_next_171 rfl (by decide) rfl rfl rfl ?_
                    intro s10 e10
                    exact q_vret ja_M_next_174 rfl (k6 h1 s1 e1 h3 h4 h5 h6 h8 h10 h12 h13 s9 e9 s10 e10)
                  · intro h14
                    refine q_iload_n (pc' := 122) ja_M_next_121 rfl rfl ?_
                    refine q_bipush (pc' := 124) ja_M_next_122 rfl 45 (by decide) ?_
                    refine q_ic_eq (pc' := 127) ja_M_next_124 rfl ?_ ?_
                    · intro h15
                      refine q_iconst (pc' := 146) ja_M_next_145 rfl 1 (by decide) ?_
                      refine q_goto ja_M_next_146 ?_
                      refine q_istore_n (pc' := 151) (ls' := [some (.ref 146), some (.int (s1 162 (s1 146 40).toNatClampNeg)), some (.int 1)]) ja_M_next_150 rfl ⟨Nat.le_of_ble_eq_true rfl, rfl⟩ rfl ?_
                      refine q_aload_n (pc' := 152) ja_M_next_151 rfl rfl ?_
                      refine q_iload_n (pc' := 153) ja_M_next_152 rfl rfl ?_
                      refine q_if_eq (pc' := 156) ja_M_next_153 rfl (fun h => absurd h ((by decide : ¬ (1 : Int32) = 0))) (fun _ => ?_)
                      refine q_iload_n (pc' := 157) ja_M_next_156 rfl rfl ?_
                      refine q_goto ja_M_next_157 ?_
                      refine q_putf (pc' := 164) ja_M_next_161 rfl (by decide) rfl rfl rfl ?_
                      intro s11 e11
                      refine q_aload_n (pc' := 165) ja_M_next_164 rfl rfl ?_
                      refine q_dup (pc' := 166) ja_M_next_165 rfl rfl ?_
                      refine q_getf (pc' := 169) (v := .int (s11 146 40)) ja_M_next_166 rfl (by decide) ⟨rfl, by decide⟩ rfl ?_
                      refine q_iconst (pc' := 170) ja_M_next_169 rfl 1 (by decide) ?_
                      refine q_iadd (pc' := 171) ja_M_next_170 rfl ?_
                      refine q_putf (pc' := 174) ja_M_next_171 rfl (by decide) rfl rfl rfl ?_
                      intro s12 e12
                      exact q_vret ja_M_next_174 rfl (k7 h1 s1 e1 h3 h4 h5 h6 h8 h10 h12 h14 h15 s11 e11 s12 e12)
                    · intro h16
                      refine q_iload_n (pc' := 128) ja_M_next_127 rfl rfl ?_
                      refine q_bipush (pc' := 130) ja_M_next_128 rfl 42 (by decide) ?_
                      refine q_ic_eq (pc' := 133) ja_M_next_130 rfl ?_ ?_
                      · intro h17
                        refine q_iconst (pc' := 146) ja_M_next_145 rfl 1 (by decide) ?_
                        refine q_goto ja_M_next_146 ?_
                        refine q_istore_n (pc' := 151) (ls' := [some (.ref 146), some (.int (s1 162 (s1 146 40).toNatClampNeg)), some (.int 1)]) ja_M_next_150 rfl ⟨Nat.le_of_ble_eq_true rfl, rfl⟩ rfl ?_
                        refine q_aload_n (pc' := 152) ja_M_next_151 rfl rfl ?_
                        refine q_iload_n (pc' := 153) ja_M_next_152 rfl rfl ?_
                        refine q_if_eq (pc' := 156) ja_M_next_153 rfl (fun h => absurd h ((by decide : ¬ (1 : Int32) = 0))) (fun _ => ?_)
                        refine q_iload_n (pc' := 157) ja_M_next_156 rfl rfl ?_
                        refine q_goto ja_M_next_157 ?_
                        refine q_putf (pc' := 164) ja_M_next_161 rfl (by decide) rfl rfl rfl ?_
                        intro s13 e13
                        refine q_aload_n (pc' := 165) ja_M_next_164 rfl rfl ?_
                        refine q_dup (pc' := 166) ja_M_next_165 rfl rfl ?_
                        refine q_getf (pc' := 169) (v := .int (s13 146 40)) ja_M_next_166 rfl (by decide) ⟨rfl, by decide⟩ rfl ?_
                        refine q_iconst (pc' := 170) ja_M_next_169 rfl 1 (by decide) ?_
                        refine q_iadd (pc' := 171) ja_M_next_170 rfl ?_
                        refine q_putf (pc' := 174) ja_M_next_171 rfl (by decide) rfl rfl rfl ?_
                        intro s14 e14
                        exact q_vret ja_M_next_174 rfl (k8 h1 s1 e1 h3 h4 h5 h6 h8 h10 h12 h14 h16 h17 s13 e13 s14 e14)
                      · intro h18
                        refine q_iload_n (pc' := 134) ja_M_next_133 rfl rfl ?_
                        refine q_bipush (pc' := 136) ja_M_next_134 rfl 60 (by decide) ?_
                        refine q_ic_eq (pc' := 139) ja_M_next_136 rfl ?_ ?_
                        · intro h19
                          refine q_iconst (pc' := 146) ja_M_next_145 rfl 1 (by decide) ?_
                          refine q_goto ja_M_next_146 ?_
                          refine q_istore_n (pc' := 151) (ls' := [some (.ref 146), some (.int (s1 162 (s1 146 40).toNatClampNeg)), some (.int 1)]) ja_M_next_150 rfl ⟨Nat.le_of_ble_eq_true rfl, rfl⟩ rfl ?_
                          refine q_aload_n (pc' := 152) ja_M_next_151 rfl rfl ?_
                          refine q_iload_n (pc' := 153) ja_M_next_152 rfl rfl ?_
                          refine q_if_eq (pc' := 156) ja_M_next_153 rfl (fun h => absurd h ((by decide : ¬ (1 : Int32) = 0))) (fun _ => ?_)
                          refine q_iload_n (pc' := 157) ja_M_next_156 rfl rfl ?_
                          refine q_goto ja_M_next_157 ?_
                          refine q_putf (pc' := 164) ja_M_next_161 rfl (by decide) rfl rfl rfl ?_
                          intro s15 e15
                          refine q_aload_n (pc' := 165) ja_M_next_164 rfl rfl ?_
                          refine q_dup (pc' := 166) ja_M_next_165 rfl rfl ?_
                          refine q_getf (pc' := 169) (v := .int (s15 146 40)) ja_M_next_166 rfl (by decide) ⟨rfl, by decide⟩ rfl ?_
                          refine q_iconst (pc' := 170) ja_M_next_169 rfl 1 (by decide) ?_
                          refine q_iadd (pc' := 171) ja_M_next_170 rfl ?_
                          refine q_putf (pc' := 174) ja_M_next_171 rfl (by decide) rfl rfl rfl ?_
                          intro s16 e16
                          exact q_vret ja_M_next_174 rfl (k9 h1 s1 e1 h3 h4 h5 h6 h8 h10 h12 h14 h16 h18 h19 s15 e15 s16 e16)
                        · intro h20
                          refine q_iload_n (pc' := 140) ja_M_next_139 rfl rfl ?_
                          refine q_bipush (pc' := 142) ja_M_next_140 rfl 61 (by decide) ?_
                          refine q_ic_ne (pc' := 145) ja_M_next_142 rfl ?_ ?_
                          · intro h21
                            refine q_iconst (pc' := 150) ja_M_next_149 rfl 0 (by decide) ?_
                            refine q_istore_n (pc' := 151) (ls' := [some (.ref 146), some (.int (s1 162 (s1 146 40).toNatClampNeg)), some (.int 0)]) ja_M_next_150 rfl ⟨Nat.le_of_ble_eq_true rfl, rfl⟩ rfl ?_
                            refine q_aload_n (pc' := 152) ja_M_next_151 rfl rfl ?_
                            refine q_iload_n (pc' := 153) ja_M_next_152 rfl rfl ?_
                            refine q_if_eq (pc' := 156) ja_M_next_153 rfl (fun _ => ?_) (fun h => absurd ((by decide : (0 : Int32) = 0)) h)
                            refine q_iconst (pc' := 161) ja_M_next_160 rfl 2 (by decide) ?_
                            refine q_putf (pc' := 164) ja_M_next_161 rfl (by decide) rfl rfl rfl ?_
                            intro s17 e17
                            refine q_aload_n (pc' := 165) ja_M_next_164 rfl rfl ?_
                            refine q_dup (pc' := 166) ja_M_next_165 rfl rfl ?_
                            refine q_getf (pc' := 169) (v := .int (s17 146 40)) ja_M_next_166 rfl (by decide) ⟨rfl, by decide⟩ rfl ?_
                            refine q_iconst (pc' := 170) ja_M_next_169 rfl 1 (by decide) ?_
                            refine q_iadd (pc' := 171) ja_M_next_170 rfl ?_
                            refine q_putf (pc' := 174) ja_M_next_171 rfl (by decide) rfl rfl rfl ?_
                            intro s18 e18
                            exact q_vret ja_M_next_174 rfl (k10 h1 s1 e1 h3 h4 h5 h6 h8 h10 h12 h14 h16 h18 h20 h21 s17 e17 s18 e18)
                          · intro h22
                            refine q_iconst (pc' := 146) ja_M_next_145 rfl 1 (by decide) ?_
                            refine q_goto ja_M_next_146 ?_
                            refine q_istore_n (pc' := 151) (ls' := [some (.ref 146), some (.int (s1 162 (s1 146 40).toNatClampNeg)), some (.int 1)]) ja_M_next_150 rfl ⟨Nat.le_of_ble_eq_true rfl, rfl⟩ rfl ?_
                            refine q_aload_n (pc' := 152) ja_M_next_151 rfl rfl ?_
                            refine q_iload_n (pc' := 153) ja_M_next_152 rfl rfl ?_
                            refine q_if_eq (pc' := 156) ja_M_next_153 rfl (fun h => absurd h ((by decide : ¬ (1 : Int32) = 0))) (fun _ => ?_)
                            refine q_iload_n (pc' := 157) ja_M_next_156 rfl rfl ?_
                            refine q_goto ja_M_next_157 ?_
                            refine q_putf (pc' := 164) ja_M_next_161 rfl (by decide) rfl rfl rfl ?_
                            intro s19 e19
                            refine q_aload_n (pc' := 165) ja_M_next_164 rfl rfl ?_
                            refine q_dup (pc' := 166) ja_M_next_165 rfl rfl ?_
                            refine q_getf (pc' := 169) (v := .int (s19 146 40)) ja_M_next_166 rfl (by decide) ⟨rfl, by decide⟩ rfl ?_
                            refine q_iconst (pc' := 170) ja_M_next_169 rfl 1 (by decide) ?_
                            refine q_iadd (pc' := 171) ja_M_next_170 rfl ?_
                            refine q_putf (pc' := 174) ja_M_next_171 rfl (by decide) rfl rfl rfl ?_
                            intro s20 e20
                            exact q_vret ja_M_next_174 rfl (k11 h1 s1 e1 h3 h4 h5 h6 h8 h10 h12 h14 h16 h18 h20 h22 s19 e19 s20 e20)
          · intro h23
            refine q_iload_n (pc' := 7) ja_M_isDigit_6 rfl rfl ?_
            refine q_bipush (pc' := 9) ja_M_isDigit_7 rfl 57 (by decide) ?_
            refine q_ic_gt (pc' := 12) ja_M_isDigit_9 rfl ?_ ?_
            · intro h24
              refine q_iconst (pc' := 17) ja_M_isDigit_16 rfl 0 (by decide) ?_
              refine q_iret ja_M_isDigit_17 rfl (by decide) ?_
              show q_W _ _ _ _ 87 [some (.ref 146), some (.int (s1 162 (s1 146 40).toNatClampNeg)), none] [.int 0] s1
              refine q_if_eq (pc' := 90) ja_M_next_87 rfl (fun _ => ?_) (fun h => absurd ((by decide : (0 : Int32) = 0)) h)
              refine q_iload_n (pc' := 98) ja_M_next_97 rfl rfl ?_
              refine q_bipush (pc' := 100) ja_M_next_98 rfl 40 (by decide) ?_
              refine q_ic_eq (pc' := 103) ja_M_next_100 rfl ?_ ?_
              · intro h25
                refine q_iconst (pc' := 146) ja_M_next_145 rfl 1 (by decide) ?_
                refine q_goto ja_M_next_146 ?_
                refine q_istore_n (pc' := 151) (ls' := [some (.ref 146), some (.int (s1 162 (s1 146 40).toNatClampNeg)), some (.int 1)]) ja_M_next_150 rfl ⟨Nat.le_of_ble_eq_true rfl, rfl⟩ rfl ?_
                refine q_aload_n (pc' := 152) ja_M_next_151 rfl rfl ?_
                refine q_iload_n (pc' := 153) ja_M_next_152 rfl rfl ?_
                refine q_if_eq (pc' := 156) ja_M_next_153 rfl (fun h => absurd h ((by decide : ¬ (1 : Int32) = 0))) (fun _ => ?_)
                refine q_iload_n (pc' := 157) ja_M_next_156 rfl rfl ?_
                refine q_goto ja_M_next_157 ?_
                refine q_putf (pc' := 164) ja_M_next_161 rfl (by decide) rfl rfl rfl ?_
                intro s21 e21
                refine q_aload_n (pc' := 165) ja_M_next_164 rfl rfl ?_
                refine q_dup (pc' := 166) ja_M_next_165 rfl rfl ?_
                refine q_getf (pc' := 169) (v := .int (s21 146 40)) ja_M_next_166 rfl (by decide) ⟨rfl, by decide⟩ rfl ?_
                refine q_iconst (pc' := 170) ja_M_next_169 rfl 1 (by decide) ?_
                refine q_iadd (pc' := 171) ja_M_next_170 rfl ?_
                refine q_putf (pc' := 174) ja_M_next_171 rfl (by decide) rfl rfl rfl ?_
                intro s22 e22
                exact q_vret ja_M_next_174 rfl (k12 h1 s1 e1 h3 h4 h5 h23 h24 h25 s21 e21 s22 e22)
              · intro h26
                refine q_iload_n (pc' := 104) ja_M_next_103 rfl rfl ?_
                refine q_bipush (pc' := 106) ja_M_next_104 rfl 41 (by decide) ?_
                refine q_ic_eq (pc' := 109) ja_M_next_106 rfl ?_ ?_
                · intro h27
                  refine q_iconst (pc' := 146) ja_M_next_145 rfl 1 (by decide) ?_
                  refine q_goto ja_M_next_146 ?_
                  refine q_istore_n (pc' := 151) (ls' := [some (.ref 146), some (.int (s1 162 (s1 146 40).toNatClampNeg)), some (.int 1)]) ja_M_next_150 rfl ⟨Nat.le_of_ble_eq_true rfl, rfl⟩ rfl ?_
                  refine q_aload_n (pc' := 152) ja_M_next_151 rfl rfl ?_
                  refine q_iload_n (pc' := 153) ja_M_next_152 rfl rfl ?_
                  refine q_if_eq (pc' := 156) ja_M_next_153 rfl (fun h => absurd h ((by decide : ¬ (1 : Int32) = 0))) (fun _ => ?_)
                  refine q_iload_n (pc' := 157) ja_M_next_156 rfl rfl ?_
                  refine q_goto ja_M_next_157 ?_
                  refine q_putf (pc' := 164) ja_M_next_161 rfl (by decide) rfl rfl rfl ?_
                  intro s23 e23
                  refine q_aload_n (pc' := 165) ja_M_next_164 rfl rfl ?_
                  refine q_dup (pc' := 166) ja_M_next_165 rfl rfl ?_
                  refine q_getf (pc' := 169) (v := .int (s23 146 40)) ja_M_next_166 rfl (by decide) ⟨rfl, by decide⟩ rfl ?_
                  refine q_iconst (pc' := 170) ja_M_next_169 rfl 1 (by decide) ?_
                  refine q_iadd (pc' := 171) ja_M_next_170 rfl ?_
                  refine q_putf (pc' := 174) ja_M_next_171 rfl (by decide) rfl rfl rfl ?_
                  intro s24 e24
                  exact q_vret ja_M_next_174 rfl (k13 h1 s1 e1 h3 h4 h5 h23 h24 h26 h27 s23 e23 s24 e24)
                · intro h28
                  refine q_iload_n (pc' := 110) ja_M_next_109 rfl rfl ?_
                  refine q_bipush (pc' := 112) ja_M_next_110 rfl 59 (by decide) ?_
                  refine q_ic_eq (pc' := 115) ja_M_next_112 rfl ?_ ?_
                  · intro h29
                    refine q_iconst (pc' := 146) ja_M_next_145 rfl 1 (by decide) ?_
                    refine q_goto ja_M_next_146 ?_
                    refine q_istore_n (pc' := 151) (ls' := [some (.ref 146), some (.int (s1 162 (s1 146 40).toNatClampNeg)), some (.int 1)]) ja_M_next_150 rfl ⟨Nat.le_of_ble_eq_true rfl, rfl⟩ rfl ?_
                    refine q_aload_n (pc' := 152) ja_M_next_151 rfl rfl ?_
                    refine q_iload_n (pc' := 153) ja_M_next_152 rfl rfl ?_
                    refine q_if_eq (pc' := 156) ja_M_next_153 rfl (fun h => absurd h ((by decide : ¬ (1 : Int32) = 0))) (fun _ => ?_)
                    refine q_iload_n (pc' := 157) ja_M_next_156 rfl rfl ?_
                    refine q_goto ja_M_next_157 ?_
                    refine q_putf (pc' := 164) ja_M_next_161 rfl (by decide) rfl rfl rfl ?_
                    intro s25 e25
                    refine q_aload_n (pc' := 165) ja_M_next_164 rfl rfl ?_
                    refine q_dup (pc' := 166) ja_M_next_165 rfl rfl ?_
                    refine q_getf (pc' := 169) (v := .int (s25 146 40)) ja_M_next_166 rfl (by decide) ⟨rfl, by decide⟩ rfl ?_
                    refine q_iconst (pc' := 170) ja_M_next_169 rfl 1 (by decide) ?_
                    refine q_iadd (pc' := 171) ja_M_next_170 rfl ?_
                    refine q_putf (pc' := 174) ja_M_next_171 rfl (by decide) rfl rfl rfl ?_
                    intro s26 e26
                    exact q_vret ja_M_next_174 rfl (k14 h1 s1 e1 h3 h4 h5 h23 h24 h26 h28 h29 s25 e25 s26 e26)
                  · intro h30
                    refine q_iload_n (pc' := 116) ja_M_next_115 rfl rfl ?_
                    refine q_bipush (pc' := 118) ja_M_next_116 rfl 43 (by decide) ?_
                    refine q_ic_eq (pc' := 121) ja_M_next_118 rfl ?_ ?_
                    · intro h31
                      refine q_iconst (pc' := 146) ja_M_next_145 rfl 1 (by decide) ?_
                      refine q_goto ja_M_next_146 ?_
                      refine q_istore_n (pc' := 151) (ls' := [some (.ref 146), some (.int (s1 162 (s1 146 40).toNatClampNeg)), some (.int 1)]) ja_M_next_150 rfl ⟨Nat.le_of_ble_eq_true rfl, rfl⟩ rfl ?_
                      refine q_aload_n (pc' := 152) ja_M_next_151 rfl rfl ?_
                      refine q_iload_n (pc' := 153) ja_M_next_152 rfl rfl ?_
                      refine q_if_eq (pc' := 156) ja_M_next_153 rfl (fun h => absurd h ((by decide : ¬ (1 : Int32) = 0))) (fun _ => ?_)
                      refine q_iload_n (pc' := 157) ja_M_next_156 rfl rfl ?_
                      refine q_goto ja_M_next_157 ?_
                      refine q_putf (pc' := 164) ja_M_next_161 rfl (by decide) rfl rfl rfl ?_
                      intro s27 e27
                      refine q_aload_n (pc' := 165) ja_M_next_164 rfl rfl ?_
                      refine q_dup (pc' := 166) ja_M_next_165 rfl rfl ?_
                      refine q_getf (pc' := 169) (v := .int (s27 146 40)) ja_M_next_166 rfl (by decide) ⟨rfl, by decide⟩ rfl ?_
                      refine q_iconst (pc' := 170) ja_M_next_169 rfl 1 (by decide) ?_
                      refine q_iadd (pc' := 171) ja_M_next_170 rfl ?_
                      refine q_putf (pc' := 174) ja_M_next_171 rfl (by decide) rfl rfl rfl ?_
                      intro s28 e28
                      exact q_vret ja_M_next_174 rfl (k15 h1 s1 e1 h3 h4 h5 h23 h24 h26 h28 h30 h31 s27 e27 s28 e28)
                    · intro h32
                      refine q_iload_n (pc' := 122) ja_M_next_121 rfl rfl ?_
                      refine q_bipush (pc' := 124) ja_M_next_122 rfl 45 (by decide) ?_
                      refine q_ic_eq (pc' := 127) ja_M_next_124 rfl ?_ ?_
                      · intro h33
                        refine q_iconst (pc' := 146) ja_M_next_145 rfl 1 (by decide) ?_
                        refine q_goto ja_M_next_146 ?_
                        refine q_istore_n (pc' := 151) (ls' := [some (.ref 146), some (.int (s1 162 (s1 146 40).toNatClampNeg)), some (.int 1)]) ja_M_next_150 rfl ⟨Nat.le_of_ble_eq_true rfl, rfl⟩ rfl ?_
                        refine q_aload_n (pc' := 152) ja_M_next_151 rfl rfl ?_
                        refine q_iload_n (pc' := 153) ja_M_next_152 rfl rfl ?_
                        refine q_if_eq (pc' := 156) ja_M_next_153 rfl (fun h => absurd h ((by decide : ¬ (1 : Int32) = 0))) (fun _ => ?_)
                        refine q_iload_n (pc' := 157) ja_M_next_156 rfl rfl ?_
                        refine q_goto ja_M_next_157 ?_
                        refine q_putf (pc' := 164) ja_M_next_161 rfl (by decide) rfl rfl rfl ?_
                        intro s29 e29
                        refine q_aload_n (pc' := 165) ja_M_next_164 rfl rfl ?_
                        refine q_dup (pc' := 166) ja_M_next_165 rfl rfl ?_
                        refine q_getf (pc' := 169) (v := .int (s29 146 40)) ja_M_next_166 rfl (by decide) ⟨rfl, by decide⟩ rfl ?_
                        refine q_iconst (pc' := 170) ja_M_next_169 rfl 1 (by decide) ?_
                        refine q_iadd (pc' := 171) ja_M_next_170 rfl ?_
                        refine q_putf (pc' := 174) ja_M_next_171 rfl (by decide) rfl rfl rfl ?_
                        intro s30 e30
                        exact q_vret ja_M_next_174 rfl (k16 h1 s1 e1 h3 h4 h5 h23 h24 h26 h28 h30 h32 h33 s29 e29 s30 e30)
                      · intro h34
                        refine q_iload_n (pc' := 128) ja_M_next_127 rfl rfl ?_
                        refine q_bipush (pc' := 130) ja_M_next_128 rfl 42 (by decide) ?_
                        refine q_ic_eq (pc' := 133) ja_M_next_130 rfl ?_ ?_
                        · intro h35
                          refine q_iconst (pc' := 146) ja_M_next_145 rfl 1 (by decide) ?_
                          refine q_goto ja_M_next_146 ?_
                          refine q_istore_n (pc' := 151) (ls' := [some (.ref 146), some (.int (s1 162 (s1 146 40).toNatClampNeg)), some (.int 1)]) ja_M_next_150 rfl ⟨Nat.le_of_ble_eq_true rfl, rfl⟩ rfl ?_
                          refine q_aload_n (pc' := 152) ja_M_next_151 rfl rfl ?_
                          refine q_iload_n (pc' := 153) ja_M_next_152 rfl rfl ?_
                          refine q_if_eq (pc' := 156) ja_M_next_153 rfl (fun h => absurd h ((by decide : ¬ (1 : Int32) = 0))) (fun _ => ?_)
                          refine q_iload_n (pc' := 157) ja_M_next_156 rfl rfl ?_
                          refine q_goto ja_M_next_157 ?_
                          refine q_putf (pc' := 164) ja_M_next_161 rfl (by decide) rfl rfl rfl ?_
                          intro s31 e31
                          refine q_aload_n (pc' := 165) ja_M_next_164 rfl rfl ?_
                          refine q_dup (pc' := 166) ja_M_next_165 rfl rfl ?_
                          refine q_getf (pc' := 169) (v := .int (s31 146 40)) ja_M_next_166 rfl (by decide) ⟨rfl, by decide⟩ rfl ?_
                          refine q_iconst (pc' := 170) ja_M_next_169 rfl 1 (by decide) ?_
                          refine q_iadd (pc' := 171) ja_M_next_170 rfl ?_
                          refine q_putf (pc' := 174) ja_M_next_171 rfl (by decide) rfl rfl rfl ?_
                          intro s32 e32
                          exact q_vret ja_M_next_174 rfl (k17 h1 s1 e1 h3 h4 h5 h23 h24 h26 h28 h30 h32 h34 h35 s31 e31 s32 e32)
                        · intro h36
                          refine q_iload_n (pc' := 134) ja_M_next_133 rfl rfl ?_
                          refine q_bipush (pc' := 136) ja_M_next_134 rfl 60 (by decide) ?_
                          refine q_ic_eq (pc' := 139) ja_M_next_136 rfl ?_ ?_
                          · intro h37
                            refine q_iconst (pc' := 146) ja_M_next_145 rfl 1 (by decide) ?_
                            refine q_goto ja_M_next_146 ?_
                            refine q_istore_n (pc' := 151) (ls' := [some (.ref 146), some (.int (s1 162 (s1 146 40).toNatClampNeg)), some (.int 1)]) ja_M_next_150 rfl ⟨Nat.le_of_ble_eq_true rfl, rfl⟩ rfl ?_
                            refine q_aload_n (pc' := 152) ja_M_next_151 rfl rfl ?_
                            refine q_iload_n (pc' := 153) ja_M_next_152 rfl rfl ?_
                            refine q_if_eq (pc' := 156) ja_M_next_153 rfl (fun h => absurd h ((by decide : ¬ (1 : Int32) = 0))) (fun _ => ?_)
                            refine q_iload_n (pc' := 157) ja_M_next_156 rfl rfl ?_
                            refine q_goto ja_M_next_157 ?_
                            refine q_putf (pc' := 164) ja_M_next_161 rfl (by decide) rfl rfl rfl ?_
                            intro s33 e33
                            refine q_aload_n (pc' := 165) ja_M_next_164 rfl rfl ?_
                            refine q_dup (pc' := 166) ja_M_next_165 rfl rfl ?_
                            refine q_getf (pc' := 169) (v := .int (s33 146 40)) ja_M_next_166 rfl (by decide) ⟨rfl, by decide⟩ rfl ?_
                            refine q_iconst (pc' := 170) ja_M_next_169 rfl 1 (by decide) ?_
                            refine q_iadd (pc' := 171) ja_M_next_170 rfl ?_
                            refine q_putf (pc' := 174) ja_M_next_171 rfl (by decide) rfl rfl rfl ?_
                            intro s34 e34
                            exact q_vret ja_M_next_174 rfl (k18 h1 s1 e1 h3 h4 h5 h23 h24 h26 h28 h30 h32 h34 h36 h37 s33 e33 s34 e34)
                          · intro h38
                            refine q_iload_n (pc' := 140) ja_M_next_139 rfl rfl ?_
                            refine q_bipush (pc' := 142) ja_M_next_140 rfl 61 (by decide) ?_
                            refine q_ic_ne (pc' := 145) ja_M_next_142 rfl ?_ ?_
                            · intro h39
                              refine q_iconst (pc' := 150) ja_M_next_149 rfl 0 (by decide) ?_
                              refine q_istore_n (pc' := 151) (ls' := [some (.ref 146), some (.int (s1 162 (s1 146 40).toNatClampNeg)), some (.int 0)]) ja_M_next_150 rfl ⟨Nat.le_of_ble_eq_true rfl, rfl⟩ rfl ?_
                              refine q_aload_n (pc' := 152) ja_M_next_151 rfl rfl ?_
                              refine q_iload_n (pc' := 153) ja_M_next_152 rfl rfl ?_
                              refine q_if_eq (pc' := 156) ja_M_next_153 rfl (fun _ => ?_) (fun h => absurd ((by decide : (0 : Int32) = 0)) h)
                              refine q_iconst (pc' := 161) ja_M_next_160 rfl 2 (by decide) ?_
                              refine q_putf (pc' := 164) ja_M_next_161 rfl (by decide) rfl rfl rfl ?_
                              intro s35 e35
                              refine q_aload_n (pc' := 165) ja_M_next_164 rfl rfl ?_
                              refine q_dup (pc' := 166) ja_M_next_165 rfl rfl ?_
                              refine q_getf (pc' := 169) (v := .int (s35 146 40)) ja_M_next_166 rfl (by decide) ⟨rfl, by decide⟩ rfl ?_
                              refine q_iconst (pc' := 170) ja_M_next_169 rfl 1 (by decide) ?_
                              refine q_iadd (pc' := 171) ja_M_next_170 rfl ?_
                              refine q_putf (pc' := 174) ja_M_next_171 rfl (by decide) rfl rfl rfl ?_
                              intro s36 e36
                              exact q_vret ja_M_next_174 rfl (k19 h1 s1 e1 h3 h4 h5 h23 h24 h26 h28 h30 h32 h34 h36 h38 h39 s35 e35 s36 e36)
                            · intro h40
                              refine q_iconst (pc' := 146) ja_M_next_145 rfl 1 (by decide) ?_
                              refine q_goto ja_M_next_146 ?_
                              refine q_istore_n (pc' := 151) (ls' := [some (.ref 146), some (.int (s1 162 (s1 146 40).toNatClampNeg)), some (.int 1)]) ja_M_next_150 rfl ⟨Nat.le_of_ble_eq_true rfl, rfl⟩ rfl ?_
                              refine q_aload_n (pc' := 152) ja_M_next_151 rfl rfl ?_
                              refine q_iload_n (pc' := 153) ja_M_next_152 rfl rfl ?_
                              refine q_if_eq (pc' := 156) ja_M_next_153 rfl (fun h => absurd h ((by decide : ¬ (1 : Int32) = 0))) (fun _ => ?_)
                              refine q_iload_n (pc' := 157) ja_M_next_156 rfl rfl ?_
                              refine q_goto ja_M_next_157 ?_
                              refine q_putf (pc' := 164) ja_M_next_161 rfl (by decide) rfl rfl rfl ?_
                              intro s37 e37
                              refine q_aload_n (pc' := 165) ja_M_next_164 rfl rfl ?_
                              refine q_dup (pc' := 166) ja_M_next_165 rfl rfl ?_
                              refine q_getf (pc' := 169) (v := .int (s37 146 40)) ja_M_next_166 rfl (by decide) ⟨rfl, by decide⟩ rfl ?_
                              refine q_iconst (pc' := 170) ja_M_next_169 rfl 1 (by decide) ?_
                              refine q_iadd (pc' := 171) ja_M_next_170 rfl ?_
                              refine q_putf (pc' := 174) ja_M_next_171 rfl (by decide) rfl rfl rfl ?_
                              intro s38 e38
                              exact q_vret ja_M_next_174 rfl (k20 h1 s1 e1 h3 h4 h5 h23 h24 h26 h28 h30 h32 h34 h36 h38 h40 s37 e37 s38 e38)
            · intro h41
              refine q_iconst (pc' := 13) ja_M_isDigit_12 rfl 1 (by decide) ?_
              refine q_goto ja_M_isDigit_13 ?_
              refine q_iret ja_M_isDigit_17 rfl (by decide) ?_
              show q_W _ _ _ _ 87 [some (.ref 146), some (.int (s1 162 (s1 146 40).toNatClampNeg)), none] [.int 1] s1
              refine q_if_eq (pc' := 90) ja_M_next_87 rfl (fun h => absurd h ((by decide : ¬ (1 : Int32) = 0))) (fun _ => ?_)
              refine q_aload_n (pc' := 91) ja_M_next_90 rfl rfl ?_
              refine q_virt (pc' := 94) (c := 146) (as := []) (r := []) ja_M_next_91 rfl rfl rfl (by decide) ⟨rfl, by decide⟩ ?_
              exact (k21 h1 s1 e1 h3 h4 h5 h23 h41)
        · intro h42
          refine q_iload_n (pc' := 7) ja_M_isLetter_6 rfl rfl ?_
          refine q_bipush (pc' := 9) ja_M_isLetter_7 rfl 122 (by decide) ?_
          refine q_ic_gt (pc' := 12) ja_M_isLetter_9 rfl ?_ ?_
          · intro h43
            refine q_iconst (pc' := 17) ja_M_isLetter_16 rfl 0 (by decide) ?_
            refine q_iret ja_M_isLetter_17 rfl (by decide) ?_
            show q_W _ _ _ _ 73 [some (.ref 146), some (.int (s1 162 (s1 146 40).toNatClampNeg)), none] [.int 0] s1
            refine q_if_eq (pc' := 76) ja_M_next_73 rfl (fun _ => ?_) (fun h => absurd ((by decide : (0 : Int32) = 0)) h)
            refine q_iload_n (pc' := 84) ja_M_next_83 rfl rfl ?_
            refine q_stat (pc' := 87) (as := [.int (s1 162 (s1 146 40).toNatClampNeg)]) (r := []) ja_M_next_84 rfl (by decide) rfl rfl ?_
            refine q_in (M := jm_M_isDigit) rfl (Nat.le_of_ble_eq_true rfl) (ls := [some (.int (s1 162 (s1 146 40).toNatClampNeg))]) rfl ?_
            refine q_iload_n (pc' := 1) ja_M_isDigit_0 rfl rfl ?_
            refine q_bipush (pc' := 3) ja_M_isDigit_1 rfl 48 (by decide) ?_
            refine q_ic_lt (pc' := 6) ja_M_isDigit_3 rfl ?_ ?_
            · intro h44
              refine q_iconst (pc' := 17) ja_M_isDigit_16 rfl 0 (by decide) ?_
              refine q_iret ja_M_isDigit_17 rfl (by decide) ?_
              show q_W _ _ _ _ 87 [some (.ref 146), some (.int (s1 162 (s1 146 40).toNatClampNeg)), none] [.int 0] s1
              refine q_if_eq (pc' := 90) ja_M_next_87 rfl (fun _ => ?_) (fun h => absurd ((by decide : (0 : Int32) = 0)) h)
              refine q_iload_n (pc' := 98) ja_M_next_97 rfl rfl ?_
              refine q_bipush (pc' := 100) ja_M_next_98 rfl 40 (by decide) ?_
              refine q_ic_eq (pc' := 103) ja_M_next_100 rfl ?_ ?_
              · intro h45
                refine q_iconst (pc' := 146) ja_M_next_145 rfl 1 (by decide) ?_
                refine q_goto ja_M_next_146 ?_
                refine q_istore_n (pc' := 151) (ls' := [some (.ref 146), some (.int (s1 162 (s1 146 40).toNatClampNeg)), some (.int 1)]) ja_M_next_150 rfl ⟨Nat.le_of_ble_eq_true rfl, rfl⟩ rfl ?_
                refine q_aload_n (pc' := 152) ja_M_next_151 rfl rfl ?_
                refine q_iload_n (pc' := 153) ja_M_next_152 rfl rfl ?_
                refine q_if_eq (pc' := 156) ja_M_next_153 rfl (fun h => absurd h ((by decide : ¬ (1 : Int32) = 0))) (fun _ => ?_)
                refine q_iload_n (pc' := 157) ja_M_next_156 rfl rfl ?_
                refine q_goto ja_M_next_157 ?_
                refine q_putf (pc' := 164) ja_M_next_161 rfl (by decide) rfl rfl rfl ?_
                intro s39 e39
                refine q_aload_n (pc' := 165) ja_M_next_164 rfl rfl ?_
                refine q_dup (pc' := 166) ja_M_next_165 rfl rfl ?_
                refine q_getf (pc' := 169) (v := .int (s39 146 40)) ja_M_next_166 rfl (by decide) ⟨rfl, by decide⟩ rfl ?_
                refine q_iconst (pc' := 170) ja_M_next_169 rfl 1 (by decide) ?_
                refine q_iadd (pc' := 171) ja_M_next_170 rfl ?_
                refine q_putf (pc' := 174) ja_M_next_171 rfl (by decide) rfl rfl rfl ?_
                intro s40 e40
                exact q_vret ja_M_next_174 rfl (k22 h1 s1 e1 h3 h4 h42 h43 h44 h45 s39 e39 s40 e40)
              · intro h46
                refine q_iload_n (pc' := 104) ja_M_next_103 rfl rfl ?_
                refine q_bipush (pc' := 106) ja_M_next_104 rfl 41 (by decide) ?_
                refine q_ic_eq (pc' := 109) ja_M_next_106 rfl ?_ ?_
                · intro h47
                  refine q_iconst (pc' := 146) ja_M_next_145 rfl 1 (by decide) ?_
                  refine q_goto ja_M_next_146 ?_
                  refine q_istore_n (pc' := 151) (ls' := [some (.ref 146), some (.int (s1 162 (s1 146 40).toNatClampNeg)), some (.int 1)]) ja_M_next_150 rfl ⟨Nat.le_of_ble_eq_true rfl, rfl⟩ rfl ?_
                  refine q_aload_n (pc' := 152) ja_M_next_151 rfl rfl ?_
                  refine q_iload_n (pc' := 153) ja_M_next_152 rfl rfl ?_
                  refine q_if_eq (pc' := 156) ja_M_next_153 rfl (fun h => absurd h ((by decide : ¬ (1 : Int32) = 0))) (fun _ => ?_)
                  refine q_iload_n (pc' := 157) ja_M_next_156 rfl rfl ?_
                  refine q_goto ja_M_next_157 ?_
                  refine q_putf (pc' := 164) ja_M_next_161 rfl (by decide) rfl rfl rfl ?_
                  intro s41 e41
                  refine q_aload_n (pc' := 165) ja_M_next_164 rfl rfl ?_
                  refine q_dup (pc' := 166) ja_M_next_165 rfl rfl ?_
                  refine q_getf (pc' := 169) (v := .int (s41 146 40)) ja_M_next_166 rfl (by decide) ⟨rfl, by decide⟩ rfl ?_
                  refine q_iconst (pc' := 170) ja_M_next_169 rfl 1 (by decide) ?_
                  refine q_iadd (pc' := 171) ja_M_next_170 rfl ?_
                  refine q_putf (pc' := 174) ja_M_next_171 rfl (by decide) rfl rfl rfl ?_
                  intro s42 e42
                  exact q_vret ja_M_next_174 rfl (k23 h1 s1 e1 h3 h4 h42 h43 h44 h46 h47 s41 e41 s42 e42)
                · intro h48
                  refine q_iload_n (pc' := 110) ja_M_next_109 rfl rfl ?_
                  refine q_bipush (pc' := 112) ja_M_next_110 rfl 59 (by decide) ?_
                  refine q_ic_eq (pc' := 115) ja_M_next_112 rfl ?_ ?_
                  · intro h49
                    refine q_iconst (pc' := 146) ja_M_next_145 rfl 1 (by decide) ?_
                    refine q_goto ja_M_next_146 ?_
                    refine q_istore_n (pc' := 151) (ls' := [some (.ref 146), some (.int (s1 162 (s1 146 40).toNatClampNeg)), some (.int 1)]) ja_M_next_150 rfl ⟨Nat.le_of_ble_eq_true rfl, rfl⟩ rfl ?_
                    refine q_aload_n (pc' := 152) ja_M_next_151 rfl rfl ?_
                    refine q_iload_n (pc' := 153) ja_M_next_152 rfl rfl ?_
                    refine q_if_eq (pc' := 156) ja_M_next_153 rfl (fun h => absurd h ((by decide : ¬ (1 : Int32) = 0))) (fun _ => ?_)
                    refine q_iload_n (pc' := 157) ja_M_next_156 rfl rfl ?_
                    refine q_goto ja_M_next_157 ?_
                    refine q_putf (pc' := 164) ja_M_next_161 rfl (by decide) rfl rfl rfl ?_
                    intro s43 e43
                    refine q_aload_n (pc' := 165) ja_M_next_164 rfl rfl ?_
                    refine q_dup (pc' := 166) ja_M_next_165 rfl rfl ?_
                    refine q_getf (pc' := 169) (v := .int (s43 146 40)) ja_M_next_166 rfl (by decide) ⟨rfl, by decide⟩ rfl ?_
                    refine q_iconst (pc' := 170) ja_M_next_169 rfl 1 (by decide) ?_
                    refine q_iadd (pc' := 171) ja_M_next_170 rfl ?_
                    refine q_putf (pc' := 174) ja_M_next_171 rfl (by decide) rfl rfl rfl ?_
                    intro s44 e44
                    exact q_vret ja_M_next_174 rfl (k24 h1 s1 e1 h3 h4 h42 h43 h44 h46 h48 h49 s43 e43 s44 e44)
                  · intro h50
                    refine q_iload_n (pc' := 116) ja_M_next_115 rfl rfl ?_
                    refine q_bipush (pc' := 118) ja_M_next_116 rfl 43 (by decide) ?_
                    refine q_ic_eq (pc' := 121) ja_M_next_118 rfl ?_ ?_
                    · intro h51
                      refine q_iconst (pc' := 146) ja_M_next_145 rfl 1 (by decide) ?_
                      refine q_goto ja_M_next_146 ?_
                      refine q_istore_n (pc' := 151) (ls' := [some (.ref 146), some (.int (s1 162 (s1 146 40).toNatClampNeg)), some (.int 1)]) ja_M_next_150 rfl ⟨Nat.le_of_ble_eq_true rfl, rfl⟩ rfl ?_
                      refine q_aload_n (pc' := 152) ja_M_next_151 rfl rfl ?_
                      refine q_iload_n (pc' := 153) ja_M_next_152 rfl rfl ?_
                      refine q_if_eq (pc' := 156) ja_M_next_153 rfl (fun h => absurd h ((by decide : ¬ (1 : Int32) = 0))) (fun _ => ?_)
                      refine q_iload_n (pc' := 157) ja_M_next_156 rfl rfl ?_
                      refine q_goto ja_M_next_157 ?_
                      refine q_putf (pc' := 164) ja_M_next_161 rfl (by decide) rfl rfl rfl ?_
                      intro s45 e45
                      refine q_aload_n (pc' := 165) ja_M_next_164 rfl rfl ?_
                      refine q_dup (pc' := 166) ja_M_next_165 rfl rfl ?_
                      refine q_getf (pc' := 169) (v := .int (s45 146 40)) ja_M_next_166 rfl (by decide) ⟨rfl, by decide⟩ rfl ?_
                      refine q_iconst (pc' := 170) ja_M_next_169 rfl 1 (by decide) ?_
                      refine q_iadd (pc' := 171) ja_M_next_170 rfl ?_
                      refine q_putf (pc' := 174) ja_M_next_171 rfl (by decide) rfl rfl rfl ?_
                      intro s46 e46
                      exact q_vret ja_M_next_174 rfl (k25 h1 s1 e1 h3 h4 h42 h43 h44 h46 h48 h50 h51 s45 e45 s46 e46)
                    · intro h52
                      refine q_iload_n (pc' := 122) ja_M_next_121 rfl rfl ?_
                      refine q_bipush (pc' := 124) ja_M_next_122 rfl 45 (by decide) ?_
                      refine q_ic_eq (pc' := 127) ja_M_next_124 rfl ?_ ?_
                      · intro h53
                        refine q_iconst (pc' := 146) ja_M_next_145 rfl 1 (by decide) ?_
                        refine q_goto ja_M_next_146 ?_
                        refine q_istore_n (pc' := 151) (ls' := [some (.ref 146), some (.int (s1 162 (s1 146 40).toNatClampNeg)), some (.int 1)]) ja_M_next_150 rfl ⟨Nat.le_of_ble_eq_true rfl, rfl⟩ rfl ?_
                        refine q_aload_n (pc' := 152) ja_M_next_151 rfl rfl ?_
                        refine q_iload_n (pc' := 153) ja_M_next_152 rfl rfl ?_
                        refine q_if_eq (pc' := 156) ja_M_next_153 rfl (fun h => absurd h ((by decide : ¬ (1 : Int32) = 0))) (fun _ => ?_)
                        refine q_iload_n (pc' := 157) ja_M_next_156 rfl rfl ?_
                        refine q_goto ja_M_next_157 ?_
                        refine q_putf (pc' := 164) ja_M_next_161 rfl (by decide) rfl rfl rfl ?_
                        intro s47 e47
                        refine q_aload_n (pc' := 165) ja_M_next_164 rfl rfl ?_
                        refine q_dup (pc' := 166) ja_M_next_165 rfl rfl ?_
                        refine q_getf (pc' := 169) (v := .int (s47 146 40)) ja_M_next_166 rfl (by decide) ⟨rfl, by decide⟩ rfl ?_
                        refine q_iconst (pc' := 170) ja_M_next_169 rfl 1 (by decide) ?_
                        refine q_iadd (pc' := 171) ja_M_next_170 rfl ?_
                        refine q_putf (pc' := 174) ja_M_next_171 rfl (by decide) rfl rfl rfl ?_
                        intro s48 e48
                        exact q_vret ja_M_next_174 rfl (k26 h1 s1 e1 h3 h4 h42 h43 h44 h46 h48 h50 h52 h53 s47 e47 s48 e48)
                      · intro h54
                        refine q_iload_n (pc' := 128) ja_M_next_127 rfl rfl ?_
                        refine q_bipush (pc' := 130) ja_M_next_128 rfl 42 (by decide) ?_
                        refine q_ic_eq (pc' := 133) ja_M_next_130 rfl ?_ ?_
                        · intro h55
                          refine q_iconst (pc' := 146) ja_M_next_145 rfl 1 (by decide) ?_
                          refine q_goto ja_M_next_146 ?_
                          refine q_istore_n (pc' := 151) (ls' := [some (.ref 146), some (.int (s1 162 (s1 146 40).toNatClampNeg)), some (.int 1)]) ja_M_next_150 rfl ⟨Nat.le_of_ble_eq_true rfl, rfl⟩ rfl ?_
                          refine q_aload_n (pc' := 152) ja_M_next_151 rfl rfl ?_
                          refine q_iload_n (pc' := 153) ja_M_next_152 rfl rfl ?_
                          refine q_if_eq (pc' := 156) ja_M_next_153 rfl (fun h => absurd h ((by decide : ¬ (1 : Int32) = 0))) (fun _ => ?_)
                          refine q_iload_n (pc' := 157) ja_M_next_156 rfl rfl ?_
                          refine q_goto ja_M_next_157 ?_
                          refine q_putf (pc' := 164) ja_M_next_161 rfl (by decide) rfl rfl rfl ?_
                          intro s49 e49
                          refine q_aload_n (pc' := 165) ja_M_next_164 rfl rfl ?_
                          refine q_dup (pc' := 166) ja_M_next_165 rfl rfl ?_
                          refine q_getf (pc' := 169) (v := .int (s49 146 40)) ja_M_next_166 rfl (by decide) ⟨rfl, by decide⟩ rfl ?_
                          refine q_iconst (pc' := 170) ja_M_next_169 rfl 1 (by decide) ?_
                          refine q_iadd (pc' := 171) ja_M_next_170 rfl ?_
                          refine q_putf (pc' := 174) ja_M_next_171 rfl (by decide) rfl rfl rfl ?_
                          intro s50 e50
                          exact q_vret ja_M_next_174 rfl (k27 h1 s1 e1 h3 h4 h42 h43 h44 h46 h48 h50 h52 h54 h55 s49 e49 s50 e50)
                        · intro h56
                          refine q_iload_n (pc' := 134) ja_M_next_133 rfl rfl ?_
                          refine q_bipush (pc' := 136) ja_M_next_134 rfl 60 (by decide) ?_
                          refine q_ic_eq (pc' := 139) ja_M_next_136 rfl ?_ ?_
                          · intro h57
                            refine q_iconst (pc' := 146) ja_M_next_145 rfl 1 (by decide) ?_
                            refine q_goto ja_M_next_146 ?_
                            refine q_istore_n (pc' := 151) (ls' := [some (.ref 146), some (.int (s1 162 (s1 146 40).toNatClampNeg)), some (.int 1)]) ja_M_next_150 rfl ⟨Nat.le_of_ble_eq_true rfl, rfl⟩ rfl ?_
                            refine q_aload_n (pc' := 152) ja_M_next_151 rfl rfl ?_
                            refine q_iload_n (pc' := 153) ja_M_next_152 rfl rfl ?_
                            refine q_if_eq (pc' := 156) ja_M_next_153 rfl (fun h => absurd h ((by decide : ¬ (1 : Int32) = 0))) (fun _ => ?_)
                            refine q_iload_n (pc' := 157) ja_M_next_156 rfl rfl ?_
                            refine q_goto ja_M_next_157 ?_
                            refine q_putf (pc' := 164) ja_M_next_161 rfl (by decide) rfl rfl rfl ?_
                            intro s51 e51
                            refine q_aload_n (pc' := 165) ja_M_next_164 rfl rfl ?_
                            refine q_dup (pc' := 166) ja_M_next_165 rfl rfl ?_
                            refine q_getf (pc' := 169) (v := .int (s51 146 40)) ja_M_next_166 rfl (by decide) ⟨rfl, by decide⟩ rfl ?_
                            refine q_iconst (pc' := 170) ja_M_next_169 rfl 1 (by decide) ?_
                            refine q_iadd (pc' := 171) ja_M_next_170 rfl ?_
                            refine q_putf (pc' := 174) ja_M_next_171 rfl (by decide) rfl rfl rfl ?_
                            intro s52 e52
                            exact q_vret ja_M_next_174 rfl (k28 h1 s1 e1 h3 h4 h42 h43 h44 h46 h48 h50 h52 h54 h56 h57 s51 e51 s52 e52)
                          · intro h58
                            refine q_iload_n (pc' := 140) ja_M_next_139 rfl rfl ?_
                            refine q_bipush (pc' := 142) ja_M_next_140 rfl 61 (by decide) ?_
                            refine q_ic_ne (pc' := 145) ja_M_next_142 rfl ?_ ?_
                            · intro h59
                              refine q_iconst (pc' := 150) ja_M_next_149 rfl 0 (by decide) ?_
                              refine q_istore_n (pc' := 151) (ls' := [some (.ref 146), some (.int (s1 162 (s1 146 40).toNatClampNeg)), some (.int 0)]) ja_M_next_150 rfl ⟨Nat.le_of_ble_eq_true rfl, rfl⟩ rfl ?_
                              refine q_aload_n (pc' := 152) ja_M_next_151 rfl rfl ?_
                              refine q_iload_n (pc' := 153) ja_M_next_152 rfl rfl ?_
                              refine q_if_eq (pc' := 156) ja_M_next_153 rfl (fun _ => ?_) (fun h => absurd ((by decide : (0 : Int32) = 0)) h)
                              refine q_iconst (pc' := 161) ja_M_next_160 rfl 2 (by decide) ?_
                              refine q_putf (pc' := 164) ja_M_next_161 rfl (by decide) rfl rfl rfl ?_
                              intro s53 e53
                              refine q_aload_n (pc' := 165) ja_M_next_164 rfl rfl ?_
                              refine q_dup (pc' := 166) ja_M_next_165 rfl rfl ?_
                              refine q_getf (pc' := 169) (v := .int (s53 146 40)) ja_M_next_166 rfl (by decide) ⟨rfl, by decide⟩ rfl ?_
                              refine q_iconst (pc' := 170) ja_M_next_169 rfl 1 (by decide) ?_
                              refine q_iadd (pc' := 171) ja_M_next_170 rfl ?_
                              refine q_putf (pc' := 174) ja_M_next_171 rfl (by decide) rfl rfl rfl ?_
                              intro s54 e54
                              exact q_vret ja_M_next_174 rfl (k29 h1 s1 e1 h3 h4 h42 h43 h44 h46 h48 h50 h52 h54 h56 h58 h59 s53 e53 s54 e54)
                            · intro h60
                              refine q_iconst (pc' := 146) ja_M_next_145 rfl 1 (by decide) ?_
                              refine q_goto ja_M_next_146 ?_
                              refine q_istore_n (pc' := 151) (ls' := [some (.ref 146), some (.int (s1 162 (s1 146 40).toNatClampNeg)), some (.int 1)]) ja_M_next_150 rfl ⟨Nat.le_of_ble_eq_true rfl, rfl⟩ rfl ?_
                              refine q_aload_n (pc' := 152) ja_M_next_151 rfl rfl ?_
                              refine q_iload_n (pc' := 153) ja_M_next_152 rfl rfl ?_
                              refine q_if_eq (pc' := 156) ja_M_next_153 rfl (fun h => absurd h ((by decide : ¬ (1 : Int32) = 0))) (fun _ => ?_)
                              refine q_iload_n (pc' := 157) ja_M_next_156 rfl rfl ?_
                              refine q_goto ja_M_next_157 ?_
                              refine q_putf (pc' := 164) ja_M_next_161 rfl (by decide) rfl rfl rfl ?_
                              intro s55 e55
                              refine q_aload_n (pc' := 165) ja_M_next_164 rfl rfl ?_
                              refine q_dup (pc' := 166) ja_M_next_165 rfl rfl ?_
                              refine q_getf (pc' := 169) (v := .int (s55 146 40)) ja_M_next_166 rfl (by decide) ⟨rfl, by decide⟩ rfl ?_
                              refine q_iconst (pc' := 170) ja_M_next_169 rfl 1 (by decide) ?_
                              refine q_iadd (pc' := 171) ja_M_next_170 rfl ?_
                              refine q_putf (pc' := 174) ja_M_next_171 rfl (by decide) rfl rfl rfl ?_
                              intro s56 e56
                              exact q_vret ja_M_next_174 rfl (k30 h1 s1 e1 h3 h4 h42 h43 h44 h46 h48 h50 h52 h54 h56 h58 h60 s55 e55 s56 e56)
            · intro h61
              refine q_iload_n (pc' := 7) ja_M_isDigit_6 rfl rfl ?_
              refine q_bipush (pc' := 9) ja_M_isDigit_7 rfl 57 (by decide) ?_
              refine q_ic_gt (pc' := 12) ja_M_isDigit_9 rfl ?_ ?_
              · intro h62
                refine q_iconst (pc' := 17) ja_M_isDigit_16 rfl 0 (by decide) ?_
                refine q_iret ja_M_isDigit_17 rfl (by decide) ?_
                show q_W _ _ _ _ 87 [some (.ref 146), some (.int (s1 162 (s1 146 40).toNatClampNeg)), none] [.int 0] s1
                refine q_if_eq (pc' := 90) ja_M_next_87 rfl (fun _ => ?_) (fun h => absurd ((by decide : (0 : Int32) = 0)) h)
                refine q_iload_n (pc' := 98) ja_M_next_97 rfl rfl ?_
                refine q_bipush (pc' := 100) ja_M_next_98 rfl 40 (by decide) ?_
                refine q_ic_eq (pc' := 103) ja_M_next_100 rfl ?_ ?_
                · intro h63
                  refine q_iconst (pc' := 146) ja_M_next_145 rfl 1 (by decide) ?_
                  refine q_goto ja_M_next_146 ?_
                  refine q_istore_n (pc' := 151) (ls' := [some (.ref 146), some (.int (s1 162 (s1 146 40).toNatClampNeg)), some (.int 1)]) ja_M_next_150 rfl ⟨Nat.le_of_ble_eq_true rfl, rfl⟩ rfl ?_
                  refine q_aload_n (pc' := 152) ja_M_next_151 rfl rfl ?_
                  refine q_iload_n (pc' := 153) ja_M_next_152 rfl rfl ?_
                  refine q_if_eq (pc' := 156) ja_M_next_153 rfl (fun h => absurd h ((by decide : ¬ (1 : Int32) = 0))) (fun _ => ?_)
                  refine q_iload_n (pc' := 157) ja_M_next_156 rfl rfl ?_
                  refine q_goto ja_M_next_157 ?_
                  refine q_putf (pc' := 164) ja_M_next_161 rfl (by decide) rfl rfl rfl ?_
                  intro s57 e57
                  refine q_aload_n (pc' := 165) ja_M_next_164 rfl rfl ?_
                  refine q_dup (pc' := 166) ja_M_next_165 rfl rfl ?_
                  refine q_getf (pc' := 169) (v := .int (s57 146 40)) ja_M_next_166 rfl (by decide) ⟨rfl, by decide⟩ rfl ?_
                  refine q_iconst (pc' := 170) ja_M_next_169 rfl 1 (by decide) ?_
                  refine q_iadd (pc' := 171) ja_M_next_170 rfl ?_
                  refine q_putf (pc' := 174) ja_M_next_171 rfl (by decide) rfl rfl rfl ?_
                  intro s58 e58
                  exact q_vret ja_M_next_174 rfl (k31 h1 s1 e1 h3 h4 h42 h43 h61 h62 h63 s57 e57 s58 e58)
                · intro h64
                  refine q_iload_n (pc' := 104) ja_M_next_103 rfl rfl ?_
                  refine q_bipush (pc' := 106) ja_M_next_104 rfl 41 (by decide) ?_
                  refine q_ic_eq (pc' := 109) ja_M_next_106 rfl ?_ ?_
                  · intro h65
                    refine q_iconst (pc' := 146) ja_M_next_145 rfl 1 (by decide) ?_
                    refine q_goto ja_M_next_146 ?_
                    refine q_istore_n (pc' := 151) (ls' := [some (.ref 146), some (.int (s1 162 (s1 146 40).toNatClampNeg)), some (.int 1)]) ja_M_next_150 rfl ⟨Nat.le_of_ble_eq_true rfl, rfl⟩ rfl ?_
                    refine q_aload_n (pc' := 152) ja_M_next_151 rfl rfl ?_
                    refine q_iload_n (pc' := 153) ja_M_next_152 rfl rfl ?_
                    refine q_if_eq (pc' := 156) ja_M_next_153 rfl (fun h => absurd h ((by decide : ¬ (1 : Int32) = 0))) (fun _ => ?_)
                    refine q_iload_n (pc' := 157) ja_M_next_156 rfl rfl ?_
                    refine q_goto ja_M_next_157 ?_
                    refine q_putf (pc' := 164) ja_M_next_161 rfl (by decide) rfl rfl rfl ?_
                    intro s59 e59
                    refine q_aload_n (pc' := 165) ja_M_next_164 rfl rfl ?_
                    refine q_dup (pc' := 166) ja_M_next_165 rfl rfl ?_
                    refine q_getf (pc' := 169) (v := .int (s59 146 40)) ja_M_next_166 rfl (by decide) ⟨rfl, by decide⟩ rfl ?_
                    refine q_iconst (pc' := 170) ja_M_next_169 rfl 1 (by decide) ?_
                    refine q_iadd (pc' := 171) ja_M_next_170 rfl ?_
                    refine q_putf (pc' := 174) ja_M_next_171 rfl (by decide) rfl rfl rfl ?_
                    intro s60 e60
                    exact q_vret ja_M_next_174 rfl (k32 h1 s1 e1 h3 h4 h42 h43 h61 h62 h64 h65 s59 e59 s60 e60)
                  · intro h66
                    refine q_iload_n (pc' := 110) ja_M_next_109 rfl rfl ?_
                    refine q_bipush (pc' := 112) ja_M_next_110 rfl 59 (by decide) ?_
                    refine q_ic_eq (pc' := 115) ja_M_next_112 rfl ?_ ?_
                    · intro h67
                      refine q_iconst (pc' := 146) ja_M_next_145 rfl 1 (by decide) ?_
                      refine q_goto ja_M_next_146 ?_
                      refine q_istore_n (pc' := 151) (ls' := [some (.ref 146), some (.int (s1 162 (s1 146 40).toNatClampNeg)), some (.int 1)]) ja_M_next_150 rfl ⟨Nat.le_of_ble_eq_true rfl, rfl⟩ rfl ?_
                      refine q_aload_n (pc' := 152) ja_M_next_151 rfl rfl ?_
                      refine q_iload_n (pc' := 153) ja_M_next_152 rfl rfl ?_
                      refine q_if_eq (pc' := 156) ja_M_next_153 rfl (fun h => absurd h ((by decide : ¬ (1 : Int32) = 0))) (fun _ => ?_)
                      refine q_iload_n (pc' := 157) ja_M_next_156 rfl rfl ?_
                      refine q_goto ja_M_next_157 ?_
                      refine q_putf (pc' := 164) ja_M_next_161 rfl (by decide) rfl rfl rfl ?_
                      intro s61 e61
                      refine q_aload_n (pc' := 165) ja_M_next_164 rfl rfl ?_
                      refine q_dup (pc' := 166) ja_M_next_165 rfl rfl ?_
                      refine q_getf (pc' := 169) (v := .int (s61 146 40)) ja_M_next_166 rfl (by decide) ⟨rfl, by decide⟩ rfl ?_
                      refine q_iconst (pc' := 170) ja_M_next_169 rfl 1 (by decide) ?_
                      refine q_iadd (pc' := 171) ja_M_next_170 rfl ?_
                      refine q_putf (pc' := 174) ja_M_next_171 rfl (by decide) rfl rfl rfl ?_
                      intro s62 e62
                      exact q_vret ja_M_next_174 rfl (k33 h1 s1 e1 h3 h4 h42 h43 h61 h62 h64 h66 h67 s61 e61 s62 e62)
                    · intro h68
                      refine q_iload_n (pc' := 116) ja_M_next_115 rfl rfl ?_
                      refine q_bipush (pc' := 118) ja_M_next_116 rfl 43 (by decide) ?_
                      refine q_ic_eq (pc' := 121) ja_M_next_118 rfl ?_ ?_
                      · intro h69
                        refine q_iconst (pc' := 146) ja_M_next_145 rfl 1 (by decide) ?_
                        refine q_goto ja_M_next_146 ?_
                        refine q_istore_n (pc' := 151) (ls' := [some (.ref 146), some (.int (s1 162 (s1 146 40).toNatClampNeg)), some (.int 1)]) ja_M_next_150 rfl ⟨Nat.le_of_ble_eq_true rfl, rfl⟩ rfl ?_
                        refine q_aload_n (pc' := 152) ja_M_next_151 rfl rfl ?_
                        refine q_iload_n (pc' := 153) ja_M_next_152 rfl rfl ?_
                        refine q_if_eq (pc' := 156) ja_M_next_153 rfl (fun h => absurd h ((by decide : ¬ (1 : Int32) = 0))) (fun _ => ?_)
                        refine q_iload_n (pc' := 157) ja_M_next_156 rfl rfl ?_
                        refine q_goto ja_M_next_157 ?_
                        refine q_putf (pc' := 164) ja_M_next_161 rfl (by decide) rfl rfl rfl ?_
                        intro s63 e63
                        refine q_aload_n (pc' := 165) ja_M_next_164 rfl rfl ?_
                        refine q_dup (pc' := 166) ja_M_next_165 rfl rfl ?_
                        refine q_getf (pc' := 169) (v := .int (s63 146 40)) ja_M_next_166 rfl (by decide) ⟨rfl, by decide⟩ rfl ?_
                        refine q_iconst (pc' := 170) ja_M_next_169 rfl 1 (by decide) ?_
                        refine q_iadd (pc' := 171) ja_M_next_170 rfl ?_
                        refine q_putf (pc' := 174) ja_M_next_171 rfl (by decide) rfl rfl rfl ?_
                        intro s64 e64
                        exact q_vret ja_M_next_174 rfl (k34 h1 s1 e1 h3 h4 h42 h43 h61 h62 h64 h66 h68 h69 s63 e63 s64 e64)
                      · intro h70
                        refine q_iload_n (pc' := 122) ja_M_next_121 rfl rfl ?_
                        refine q_bipush (pc' := 124) ja_M_next_122 rfl 45 (by decide) ?_
                        refine q_ic_eq (pc' := 127) ja_M_next_124 rfl ?_ ?_
                        · intro h71
                          refine q_iconst (pc' := 146) ja_M_next_145 rfl 1 (by decide) ?_
                          refine q_goto ja_M_next_146 ?_
                          refine q_istore_n (pc' := 151) (ls' := [some (.ref 146), some (.int (s1 162 (s1 146 40).toNatClampNeg)), some (.int 1)]) ja_M_next_150 rfl ⟨Nat.le_of_ble_eq_true rfl, rfl⟩ rfl ?_
                          refine q_aload_n (pc' := 152) ja_M_next_151 rfl rfl ?_
                          refine q_iload_n (pc' := 153) ja_M_next_152 rfl rfl ?_
                          refine q_if_eq (pc' := 156) ja_M_next_153 rfl (fun h => absurd h ((by decide : ¬ (1 : Int32) = 0))) (fun _ => ?_)
                          refine q_iload_n (pc' := 157) ja_M_next_156 rfl rfl ?_
                          refine q_goto ja_M_next_157 ?_
                          refine q_putf (pc' := 164) ja_M_next_161 rfl (by decide) rfl rfl rfl ?_
                          intro s65 e65
                          refine q_aload_n (pc' := 165) ja_M_next_164 rfl rfl ?_
                          refine q_dup (pc' := 166) ja_M_next_165 rfl rfl ?_
                          refine q_getf (pc' := 169) (v := .int (s65 146 40)) ja_M_next_166 rfl (by decide) ⟨rfl, by decide⟩ rfl ?_
                          refine q_iconst (pc' := 170) ja_M_next_169 rfl 1 (by decide) ?_
                          refine q_iadd (pc' := 171) ja_M_next_170 rfl ?_
                          refine q_putf (pc' := 174) ja_M_next_171 rfl (by decide) rfl rfl rfl ?_
                          intro s66 e66
                          exact q_vret ja_M_next_174 rfl (k35 h1 s1 e1 h3 h4 h42 h43 h61 h62 h64 h66 h68 h70 h71 s65 e65 s66 e66)
                        · intro h72
                          refine q_iload_n (pc' := 128) ja_M_next_127 rfl rfl ?_
                          refine q_bipush (pc' := 130) ja_M_next_128 rfl 42 (by decide) ?_
                          refine q_ic_eq (pc' := 133) ja_M_next_130 rfl ?_ ?_
                          · intro h73
                            refine q_iconst (pc' := 146) ja_M_next_145 rfl 1 (by decide) ?_
                            refine q_goto ja_M_next_146 ?_
                            refine q_istore_n (pc' := 151) (ls' := [some (.ref 146), some (.int (s1 162 (s1 146 40).toNatClampNeg)), some (.int 1)]) ja_M_next_150 rfl ⟨Nat.le_of_ble_eq_true rfl, rfl⟩ rfl ?_
                            refine q_aload_n (pc' := 152) ja_M_next_151 rfl rfl ?_
                            refine q_iload_n (pc' := 153) ja_M_next_152 rfl rfl ?_
                            refine q_if_eq (pc' := 156) ja_M_next_153 rfl (fun h => absurd h ((by decide : ¬ (1 : Int32) = 0))) (fun _ => ?_)
                            refine q_iload_n (pc' := 157) ja_M_next_156 rfl rfl ?_
                            refine q_goto ja_M_next_157 ?_
                            refine q_putf (pc' := 164) ja_M_next_161 rfl (by decide) rfl rfl rfl ?_
                            intro s67 e67
                            refine q_aload_n (pc' := 165) ja_M_next_164 rfl rfl ?_
                            refine q_dup (pc' := 166) ja_M_next_165 rfl rfl ?_
                            refine q_getf (pc' := 169) (v := .int (s67 146 40)) ja_M_next_166 rfl (by decide) ⟨rfl, by decide⟩ rfl ?_
                            refine q_iconst (pc' := 170) ja_M_next_169 rfl 1 (by decide) ?_
                            refine q_iadd (pc' := 171) ja_M_next_170 rfl ?_
                            refine q_putf (pc' := 174) ja_M_next_171 rfl (by decide) rfl rfl rfl ?_
                            intro s68 e68
                            exact q_vret ja_M_next_174 rfl (k36 h1 s1 e1 h3 h4 h42 h43 h61 h62 h64 h66 h68 h70 h72 h73 s67 e67 s68 e68)
                          · intro h74
                            refine q_iload_n (pc' := 134) ja_M_next_133 rfl rfl ?_
                            refine q_bipush (pc' := 136) ja_M_next_134 rfl 60 (by decide) ?_
                            refine q_ic_eq (pc' := 139) ja_M_next_136 rfl ?_ ?_
                            · intro h75
                              refine q_iconst (pc' := 146) ja_M_next_145 rfl 1 (by decide) ?_
                              refine q_goto ja_M_next_146 ?_
                              refine q_istore_n (pc' := 151) (ls' := [some (.ref 146), some (.int (s1 162 (s1 146 40).toNatClampNeg)), some (.int 1)]) ja_M_next_150 rfl ⟨Nat.le_of_ble_eq_true rfl, rfl⟩ rfl ?_
                              refine q_aload_n (pc' := 152) ja_M_next_151 rfl rfl ?_
                              refine q_iload_n (pc' := 153) ja_M_next_152 rfl rfl ?_
                              refine q_if_eq (pc' := 156) ja_M_next_153 rfl (fun h => absurd h ((by decide : ¬ (1 : Int32) = 0))) (fun _ => ?_)
                              refine q_iload_n (pc' := 157) ja_M_next_156 rfl rfl ?_
                              refine q_goto ja_M_next_157 ?_
                              refine q_putf (pc' := 164) ja_M_next_161 rfl (by decide) rfl rfl rfl ?_
                              intro s69 e69
                              refine q_aload_n (pc' := 165) ja_M_next_164 rfl rfl ?_
                              refine q_dup (pc' := 166) ja_M_next_165 rfl rfl ?_
                              refine q_getf (pc' := 169) (v := .int (s69 146 40)) ja_M_next_166 rfl (by decide) ⟨rfl, by decide⟩ rfl ?_
                              refine q_iconst (pc' := 170) ja_M_next_169 rfl 1 (by decide) ?_
                              refine q_iadd (pc' := 171) ja_M_next_170 rfl ?_
                              refine q_putf (pc' := 174) ja_M_next_171 rfl (by decide) rfl rfl rfl ?_
                              intro s70 e70
                              exact q_vret ja_M_next_174 rfl (k37 h1 s1 e1 h3 h4 h42 h43 h61 h62 h64 h66 h68 h70 h72 h74 h75 s69 e69 s70 e70)
                            · intro h76
                              refine q_iload_n (pc' := 140) ja_M_next_139 rfl rfl ?_
                              refine q_bipush (pc' := 142) ja_M_next_140 rfl 61 (by decide) ?_
                              refine q_ic_ne (pc' := 145) ja_M_next_142 rfl ?_ ?_
                              · intro h77
                                refine q_iconst (pc' := 150) ja_M_next_149 rfl 0 (by decide) ?_
                                refine q_istore_n (pc' := 151) (ls' := [some (.ref 146), some (.int (s1 162 (s1 146 40).toNatClampNeg)), some (.int 0)]) ja_M_next_150 rfl ⟨Nat.le_of_ble_eq_true rfl, rfl⟩ rfl ?_
                                refine q_aload_n (pc' := 152) ja_M_next_151 rfl rfl ?_
                                refine q_iload_n (pc' := 153) ja_M_next_152 rfl rfl ?_
                                refine q_if_eq (pc' := 156) ja_M_next_153 rfl (fun _ => ?_) (fun h => absurd ((by decide : (0 : Int32) = 0)) h)
                                refine q_iconst (pc' := 161) ja_M_next_160 rfl 2 (by decide) ?_
                                refine q_putf (pc' := 164) ja_M_next_161 rfl (by decide) rfl rfl rfl ?_
                                intro s71 e71
                                refine q_aload_n (pc' := 165) ja_M_next_164 rfl rfl ?_
                                refine q_dup (pc' := 166) ja_M_next_165 rfl rfl ?_
                                refine q_getf (pc' := 169) (v := .int (s71 146 40)) ja_M_next_166 rfl (by decide) ⟨rfl, by decide⟩ rfl ?_
                                refine q_iconst (pc' := 170) ja_M_next_169 rfl 1 (by decide) ?_
                                refine q_iadd (pc' := 171) ja_M_next_170 rfl ?_
                                refine q_putf (pc' := 174) ja_M_next_171 rfl (by decide) rfl rfl rfl ?_
                                intro s72 e72
                                exact q_vret ja_M_next_174 rfl (k38 h1 s1 e1 h3 h4 h42 h43 h61 h62 h64 h66 h68 h70 h72 h74 h76 h77 s71 e71 s72 e72)
                              · intro h78
                                refine q_iconst (pc' := 146) ja_M_next_145 rfl 1 (by decide) ?_
                                refine q_goto ja_M_next_146 ?_
                                refine q_istore_n (pc' := 151) (ls' := [some (.ref 146), some (.int (s1 162 (s1 146 40).toNatClampNeg)), some (.int 1)]) ja_M_next_150 rfl ⟨Nat.le_of_ble_eq_true rfl, rfl⟩ rfl ?_
                                refine q_aload_n (pc' := 152) ja_M_next_151 rfl rfl ?_
                                refine q_iload_n (pc' := 153) ja_M_next_152 rfl rfl ?_
                                refine q_if_eq (pc' := 156) ja_M_next_153 rfl (fun h => absurd h ((by decide : ¬ (1 : Int32) = 0))) (fun _ => ?_)
                                refine q_iload_n (pc' := 157) ja_M_next_156 rfl rfl ?_
                                refine q_goto ja_M_next_157 ?_
                                refine q_putf (pc' := 164) ja_M_next_161 rfl (by decide) rfl rfl rfl ?_
                                intro s73 e73
                                refine q_aload_n (pc' := 165) ja_M_next_164 rfl rfl ?_
                                refine q_dup (pc' := 166) ja_M_next_165 rfl rfl ?_
                                refine q_getf (pc' := 169) (v := .int (s73 146 40)) ja_M_next_166 rfl (by decide) ⟨rfl, by decide⟩ rfl ?_
                                refine q_iconst (pc' := 170) ja_M_next_169 rfl 1 (by decide) ?_
                                refine q_iadd (pc' := 171) ja_M_next_170 rfl ?_
                                refine q_putf (pc' := 174) ja_M_next_171 rfl (by decide) rfl rfl rfl ?_
                                intro s74 e74
                                exact q_vret ja_M_next_174 rfl (k39 h1 s1 e1 h3 h4 h42 h43 h61 h62 h64 h66 h68 h70 h72 h74 h76 h78 s73 e73 s74 e74)
              · intro h79
                refine q_iconst (pc' := 13) ja_M_isDigit_12 rfl 1 (by decide) ?_
                refine q_goto ja_M_isDigit_13 ?_
                refine q_iret ja_M_isDigit_17 rfl (by decide) ?_
                show q_W _ _ _ _ 87 [some (.ref 146), some (.int (s1 162 (s1 146 40).toNatClampNeg)), none] [.int 1] s1
                refine q_if_eq (pc' := 90) ja_M_next_87 rfl (fun h => absurd h ((by decide : ¬ (1 : Int32) = 0))) (fun _ => ?_)
                refine q_aload_n (pc' := 91) ja_M_next_90 rfl rfl ?_
                refine q_virt (pc' := 94) (c := 146) (as := []) (r := []) ja_M_next_91 rfl rfl rfl (by decide) ⟨rfl, by decide⟩ ?_
                exact (k40 h1 s1 e1 h3 h4 h42 h43 h61 h79)
          · intro h80
            refine q_iconst (pc' := 13) ja_M_isLetter_12 rfl 1 (by decide) ?_
            refine q_goto ja_M_isLetter_13 ?_
            refine q_iret ja_M_isLetter_17 rfl (by decide) ?_
            show q_W _ _ _ _ 73 [some (.ref 146), some (.int (s1 162 (s1 146 40).toNatClampNeg)), none] [.int 1] s1
            refine q_if_eq (pc' := 76) ja_M_next_73 rfl (fun h => absurd h ((by decide : ¬ (1 : Int32) = 0))) (fun _ => ?_)
            refine q_aload_n (pc' := 77) ja_M_next_76 rfl rfl ?_
            refine q_virt (pc' := 80) (c := 146) (as := []) (r := []) ja_M_next_77 rfl rfl rfl (by decide) ⟨rfl, by decide⟩ ?_
            exact (k41 h1 s1 e1 h3 h4 h42 h80)
      · intro h81
        refine q_aload_n (pc' := 62) ja_M_next_61 rfl rfl ?_
        refine q_iconst (pc' := 63) ja_M_next_62 rfl 0 (by decide) ?_
        refine q_putf (pc' := 66) ja_M_next_63 rfl (by decide) rfl rfl rfl ?_
        intro s75 e75
        refine q_goto ja_M_next_66 ?_
        exact q_vret ja_M_next_174 rfl (k42 h1 s1 e1 h3 h81 s75 e75)
  · intro h82
    refine q_aload_n (pc' := 9) ja_M_byteAt_8 rfl rfl ?_
    refine q_getf (pc' := 12) (v := .ref 162) ja_M_byteAt_9 rfl (by decide) ⟨rfl, by decide⟩ rfl ?_
    refine q_iload_n (pc' := 13) ja_M_byteAt_12 rfl rfl ?_
    refine q_iald (pc' := 14) (v := .int (s 162 (s 146 40).toNatClampNeg)) ja_M_byteAt_13 rfl (by decide) (l := 200) rfl (k43 h82) rfl ?_
    refine q_goto ja_M_byteAt_14 ?_
    refine q_iret ja_M_byteAt_18 rfl rfl ?_
    show q_W _ _ _ _ 8 [some (.ref 146), none, none] [.int (s 162 (s 146 40).toNatClampNeg)] s
    refine q_bipush (pc' := 10) ja_M_next_8 rfl 32 (by decide) ?_
    refine q_ic_eq (pc' := 13) ja_M_next_10 rfl ?_ ?_
    · intro h83
      refine q_aload_n (pc' := 27) ja_M_next_26 rfl rfl ?_
      refine q_dup (pc' := 28) ja_M_next_27 rfl rfl ?_
      refine q_getf (pc' := 31) (v := .int (s 146 40)) ja_M_next_28 rfl (by decide) ⟨rfl, by decide⟩ rfl ?_
      refine q_iconst (pc' := 32) ja_M_next_31 rfl 1 (by decide) ?_
      refine q_iadd (pc' := 33) ja_M_next_32 rfl ?_
      refine q_putf (pc' := 36) ja_M_next_33 rfl (by decide) rfl rfl rfl ?_
      intro s76 e76
      refine q_goto ja_M_next_36 ?_
      exact (k44 h82 h83 s76 e76)
    · intro h84
      refine q_aload_n (pc' := 14) ja_M_next_13 rfl rfl ?_
      refine q_aload_n (pc' := 15) ja_M_next_14 rfl rfl ?_
      refine q_getf (pc' := 18) (v := .int (s 146 40)) ja_M_next_15 rfl (by decide) ⟨rfl, by decide⟩ rfl ?_
      refine q_virt (pc' := 21) (c := 146) (as := [.int (s 146 40)]) (r := []) ja_M_next_18 rfl rfl rfl (by decide) ⟨rfl, by decide⟩ ?_
      refine q_in (M := jm_M_byteAt) rfl (Nat.le_of_ble_eq_true rfl) (ls := [some (.ref 146), some (.int (s 146 40))]) rfl ?_
      refine q_iload_n (pc' := 1) ja_M_byteAt_0 rfl rfl ?_
      refine q_aload_n (pc' := 2) ja_M_byteAt_1 rfl rfl ?_
      refine q_getf (pc' := 5) (v := .int (s 146 38)) ja_M_byteAt_2 rfl (by decide) ⟨rfl, by decide⟩ rfl ?_
      refine q_ic_ge (pc' := 8) ja_M_byteAt_5 rfl (fun h => absurd (h82) h) (fun _ => ?_)
      refine q_aload_n (pc' := 9) ja_M_byteAt_8 rfl rfl ?_
      refine q_getf (pc' := 12) (v := .ref 162) ja_M_byteAt_9 rfl (by decide) ⟨rfl, by decide⟩ rfl ?_
      refine q_iload_n (pc' := 13) ja_M_byteAt_12 rfl rfl ?_
      refine q_iald (pc' := 14) (v := .int (s 162 (s 146 40).toNatClampNeg)) ja_M_byteAt_13 rfl (by decide) (l := 200) rfl (k45 h82 h84) rfl ?_
      refine q_goto ja_M_byteAt_14 ?_
      refine q_iret ja_M_byteAt_18 rfl rfl ?_
      show q_W _ _ _ _ 21 [some (.ref 146), none, none] [.int (s 162 (s 146 40).toNatClampNeg)] s
      refine q_bipush (pc' := 23) ja_M_next_21 rfl 10 (by decide) ?_
      refine q_ic_ne (pc' := 26) ja_M_next_23 rfl ?_ ?_
      · intro h85
        refine q_aload_n (pc' := 40) ja_M_next_39 rfl rfl ?_
        refine q_aload_n (pc' := 41) ja_M_next_40 rfl rfl ?_
        refine q_getf (pc' := 44) (v := .int (s 146 40)) ja_M_next_41 rfl (by decide) ⟨rfl, by decide⟩ rfl ?_
        refine q_putf (pc' := 47) ja_M_next_44 rfl (by decide) rfl rfl rfl ?_
        intro s77 e77
        refine q_aload_n (pc' := 48) ja_M_next_47 rfl rfl ?_
        refine q_aload_n (pc' := 49) ja_M_next_48 rfl rfl ?_
        refine q_getf (pc' := 52) (v := .int (s77 146 40)) ja_M_next_49 rfl (by decide) ⟨rfl, by decide⟩ rfl ?_
        refine q_virt (pc' := 55) (c := 146) (as := [.int (s77 146 40)]) (r := []) ja_M_next_52 rfl rfl rfl (by decide) ⟨rfl, by decide⟩ ?_
        refine q_in (M := jm_M_byteAt) rfl (Nat.le_of_ble_eq_true rfl) (ls := [some (.ref 146), some (.int (s77 146 40))]) rfl ?_
        refine q_iload_n (pc' := 1) ja_M_byteAt_0 rfl rfl ?_
        refine q_aload_n (pc' := 2) ja_M_byteAt_1 rfl rfl ?_
        refine q_getf (pc' := 5) (v := .int (s77 146 38)) ja_M_byteAt_2 rfl (by decide) ⟨rfl, by decide⟩ rfl ?_
        refine q_ic_ge (pc' := 8) ja_M_byteAt_5 rfl ?_ ?_
        · intro h86
          refine q_iconst (pc' := 18) ja_M_byteAt_17 rfl (-1) (by decide) ?_
          refine q_iret ja_M_byteAt_18 rfl rfl ?_
          show q_W _ _ _ _ 55 [some (.ref 146), none, none] [.int (-1)] s77
          refine q_istore_n (pc' := 56) (ls' := [some (.ref 146), some (.int (-1)), none]) ja_M_next_55 rfl ⟨Nat.le_of_ble_eq_true rfl, rfl⟩ rfl ?_
          refine q_iload_n (pc' := 57) ja_M_next_56 rfl rfl ?_
          refine q_iconst (pc' := 58) ja_M_next_57 rfl (-1) (by decide) ?_
          refine q_ic_ne (pc' := 61) ja_M_next_58 rfl (fun h => absurd ((by decide : (-1 : Int32) = (-1))) h) (fun _ => ?_)
          refine q_aload_n (pc' := 62) ja_M_next_61 rfl rfl ?_
          refine q_iconst (pc' := 63) ja_M_next_62 rfl 0 (by decide) ?_
          refine q_putf (pc' := 66) ja_M_next_63 rfl (by decide) rfl rfl rfl ?_
          intro s78 e78
          refine q_goto ja_M_next_66 ?_
          exact q_vret ja_M_next_174 rfl (k46 h82 h84 h85 s77 e77 h86 s78 e78)
        · intro h87
          refine q_aload_n (pc' := 9) ja_M_byteAt_8 rfl rfl ?_
          refine q_getf (pc' := 12) (v := .ref 162) ja_M_byteAt_9 rfl (by decide) ⟨rfl, by decide⟩ rfl ?_
          refine q_iload_n (pc' := 13) ja_M_byteAt_12 rfl rfl ?_
          refine q_iald (pc' := 14) (v := .int (s77 162 (s77 146 40).toNatClampNeg)) ja_M_byteAt_13 rfl (by decide) (l := 200) rfl (k47 h82 h84 h85 s77 e77 h87) rfl ?_
          refine q_goto ja_M_byteAt_14 ?_
          refine q_iret ja_M_byteAt_18 rfl rfl ?_
          show q_W _ _ _ _ 55 [some (.ref 146), none, none] [.int (s77 162 (s77 146 40).toNatClampNeg)] s77
          refine q_istore_n (pc' := 56) (ls' := [some (.ref 146), some (.int (s77 162 (s77 146 40).toNatClampNeg)), none]) ja_M_next_55 rfl ⟨Nat.le_of_ble_eq_true rfl, rfl⟩ rfl ?_
          refine q_iload_n (pc' := 57) ja_M_next_56 rfl rfl ?_
          refine q_iconst (pc' := 58) ja_M_next_57 rfl (-1) (by decide) ?_
          refine q_ic_ne (pc' := 61) ja_M_next_58 rfl ?_ ?_
          · intro h88
            refine q_iload_n (pc' := 70) ja_M_next_69 rfl rfl ?_
            refine q_stat (pc' := 73) (as := [.int (s77 162 (s77 146 40).toNatClampNeg)]) (r := []) ja_M_next_70 rfl (by decide) rfl rfl ?_
            refine q_in (M := jm_M_isLetter) rfl (Nat.le_of_ble_eq_true rfl) (ls := [some (.int (s77 162 (s77 146 40).toNatClampNeg))]) rfl ?_
            refine q_iload_n (pc' := 1) ja_M_isLetter_0 rfl rfl ?_
            refine q_bipush (pc' := 3) ja_M_isLetter_1 rfl 97 (by decide) ?_
            refine q_ic_lt (pc' := 6) ja_M_isLetter_3 rfl ?_ ?_
            · intro h89
              refine q_iconst (pc' := 17) ja_M_isLetter_16 rfl 0 (by decide) ?_
              refine q_iret ja_M_isLetter_17 rfl (by decide) ?_
              show q_W _ _ _ _ 73 [some (.ref 146), some (.int (s77 162 (s77 146 40).toNatClampNeg)), none] [.int 0] s77
              refine q_if_eq (pc' := 76) ja_M_next_73 rfl (fun _ => ?_) (fun h => absurd ((by decide : (0 : Int32) = 0)) h)
              refine q_iload_n (pc' := 84) ja_M_next_83 rfl rfl ?_
              refine q_stat (pc' := 87) (as := [.int (s77 162 (s77 146 40).toNatClampNeg)]) (r := []) ja_M_next_84 rfl (by decide) rfl rfl ?_
              refine q_in (M := jm_M_isDigit) rfl (Nat.le_of_ble_eq_true rfl) (ls := [some (.int (s77 162 (s77 146 40).toNatClampNeg))]) rfl ?_
              refine q_iload_n (pc' := 1) ja_M_isDigit_0 rfl rfl ?_
              refine q_bipush (pc' := 3) ja_M_isDigit_1 rfl 48 (by decide) ?_
              refine q_ic_lt (pc' := 6) ja_M_isDigit_3 rfl ?_ ?_
              · intro h90
                refine q_iconst (pc' := 17) ja_M_isDigit_16 rfl 0 (by decide) ?_
                refine q_iret ja_M_isDigit_17 rfl (by decide) ?_
                show q_W _ _ _ _ 87 [some (.ref 146), some (.int (s77 162 (s77 146 40).toNatClampNeg)), none] [.int 0] s77
                refine q_if_eq (pc' := 90) ja_M_next_87 rfl (fun _ => ?_) (fun h => absurd ((by decide : (0 : Int32) = 0)) h)
                refine q_iload_n (pc' := 98) ja_M_next_97 rfl rfl ?_
                refine q_bipush (pc' := 100) ja_M_next_98 rfl 40 (by decide) ?_
                refine q_ic_eq (pc' := 103) ja_M_next_100 rfl ?_ ?_
                · intro h91
                  refine q_iconst (pc' := 146) ja_M_next_145 rfl 1 (by decide) ?_
                  refine q_goto ja_M_next_146 ?_
                  refine q_istore_n (pc' := 151) (ls' := [some (.ref 146), some (.int (s77 162 (s77 146 40).toNatClampNeg)), some (.int 1)]) ja_M_next_150 rfl ⟨Nat.le_of_ble_eq_true rfl, rfl⟩ rfl ?_
                  refine q_aload_n (pc' := 152) ja_M_next_151 rfl rfl ?_
                  refine q_iload_n (pc' := 153) ja_M_next_152 rfl rfl ?_
                  refine q_if_eq (pc' := 156) ja_M_next_153 rfl (fun h => absurd h ((by decide : ¬ (1 : Int32) = 0))) (fun _ => ?_)
                  refine q_iload_n (pc' := 157) ja_M_next_156 rfl rfl ?_
                  refine q_goto ja_M_next_157 ?_
                  refine q_putf (pc' := 164) ja_M_next_161 rfl (by decide) rfl rfl rfl ?_
                  intro s79 e79
                  refine q_aload_n (pc' := 165) ja_M_next_164 rfl rfl ?_
                  refine q_dup (pc' := 166) ja_M_next_165 rfl rfl ?_
                  refine q_getf (pc' := 169) (v := .int (s79 146 40)) ja_M_next_166 rfl (by decide) ⟨rfl, by decide⟩ rfl ?_
                  refine q_iconst (pc' := 170) ja_M_next_169 rfl 1 (by decide) ?_
                  refine q_iadd (pc' := 171) ja_M_next_170 rfl ?_
                  refine q_putf (pc' := 174) ja_M_next_171 rfl (by decide) rfl rfl rfl ?_
                  intro s80 e80
                  exact q_vret ja_M_next_174 rfl (k48 h82 h84 h85 s77 e77 h87 h88 h89 h90 h91 s79 e79 s80 e80)
                · intro h92
                  refine q_iload_n (pc' := 104) ja_M_next_103 rfl rfl ?_
                  refine q_bipush (pc' := 106) ja_M_next_104 rfl 41 (by decide) ?_
                  refine q_ic_eq (pc' := 109) ja_M_next_106 rfl ?_ ?_
                  · intro h93
                    refine q_iconst (pc' := 146) ja_M_next_145 rfl 1 (by decide) ?_
                    refine q_goto ja_M_next_146 ?_
                    refine q_istore_n (pc' := 151) (ls' := [some (.ref 146), some (.int (s77 162 (s77 146 40).toNatClampNeg)), some (.int 1)]) ja_M_next_150 rfl ⟨Nat.le_of_ble_eq_true rfl, rfl⟩ rfl ?_
                    refine q_aload_n (pc' := 152) ja_M_next_151 rfl rfl ?_
                    refine q_iload_n (pc' := 153) ja_M_next_152 rfl rfl ?_
                    refine q_if_eq (pc' := 156) ja_M_next_153 rfl (fun h => absurd h ((by decide : ¬ (1 : Int32) = 0))) (fun _ => ?_)
                    refine q_iload_n (pc' := 157) ja_M_next_156 rfl rfl ?_
                    refine q_goto ja_M_next_157 ?_
                    refine q_putf (pc' := 164) ja_M_next_161 rfl (by decide) rfl rfl rfl ?_
                    intro s81 e81
                    refine q_aload_n (pc' := 165) ja_M_next_164 rfl rfl ?_
                    refine q_dup (pc' := 166) ja_M_next_165 rfl rfl ?_
                    refine q_getf (pc' := 169) (v := .int (s81 146 40)) ja_M_next_166 rfl (by decide) ⟨rfl, by decide⟩ rfl ?_
                    refine q_iconst (pc' := 170) ja_M_next_169 rfl 1 (by decide) ?_
                    refine q_iadd (pc' := 171) ja_M_next_170 rfl ?_
                    refine q_putf (pc' := 174) ja_M_next_171 rfl (by decide) rfl rfl rfl ?_
                    intro s82 e82
                    exact q_vret ja_M_next_174 rfl (k49 h82 h84 h85 s77 e77 h87 h88 h89 h90 h92 h93 s81 e81 s82 e82)
                  · intro h94
                    refine q_iload_n (pc' := 110) ja_M_next_109 rfl rfl ?_
                    refine q_bipush (pc' := 112) ja_M_next_110 rfl 59 (by decide) ?_
                    refine q_ic_eq (pc' := 115) ja_M_next_112 rfl ?_ ?_
                    · intro h95
                      refine q_iconst (pc' := 146) ja_M_next_145 rfl 1 (by decide) ?_
                      refine q_goto ja_M_next_146 ?_
                      refine q_istore_n (pc' := 151) (ls' := [some (.ref 146), some (.int (s77 162 (s77 146 40).toNatClampNeg)), some (.int 1)]) ja_M_next_150 rfl ⟨Nat.le_of_ble_eq_true rfl, rfl⟩ rfl ?_
                      refine q_aload_n (pc' := 152) ja_M_next_151 rfl rfl ?_
                      refine q_iload_n (pc' := 153) ja_M_next_152 rfl rfl ?_
                      refine q_if_eq (pc' := 156) ja_M_next_153 rfl (fun h => absurd h ((by decide : ¬ (1 : Int32) = 0))) (fun _ => ?_)
                      refine q_iload_n (pc' := 157) ja_M_next_156 rfl rfl ?_
                      refine q_goto ja_M_next_157 ?_
                      refine q_putf (pc' := 164) ja_M_next_161 rfl (by decide) rfl rfl rfl ?_
                      intro s83 e83
                      refine q_aload_n (pc' := 165) ja_M_next_164 rfl rfl ?_
                      refine q_dup (pc' := 166) ja_M_next_165 rfl rfl ?_
                      refine q_getf (pc' := 169) (v := .int (s83 146 40)) ja_M_next_166 rfl (by decide) ⟨rfl, by decide⟩ rfl ?_
                      refine q_iconst (pc' := 170) ja_M_next_169 rfl 1 (by decide) ?_
                      refine q_iadd (pc' := 171) ja_M_next_170 rfl ?_
                      refine q_putf (pc' := 174) ja_M_next_171 rfl (by decide) rfl rfl rfl ?_
                      intro s84 e84
                      exact q_vret ja_M_next_174 rfl (k50 h82 h84 h85 s77 e77 h87 h88 h89 h90 h92 h94 h95 s83 e83 s84 e84)
                    · intro h96
                      refine q_iload_n (pc' := 116) ja_M_next_115 rfl rfl ?_
                      refine q_bipush (pc' := 118) ja_M_next_116 rfl 43 (by decide) ?_
                      refine q_ic_eq (pc' := 121) ja_M_next_118 rfl ?_ ?_
                      · intro h97
                        refine q_iconst (pc' := 146) ja_M_next_145 rfl 1 (by decide) ?_
                        refine q_goto ja_M_next_146 ?_
                        refine q_istore_n (pc' := 151) (ls' := [some (.ref 146), some (.int (s77 162 (s77 146 40).toNatClampNeg)), some (.int 1)]) ja_M_next_150 rfl ⟨Nat.le_of_ble_eq_true rfl, rfl⟩ rfl ?_
                        refine q_aload_n (pc' := 152) ja_M_next_151 rfl rfl ?_
                        refine q_iload_n (pc' := 153) ja_M_next_152 rfl rfl ?_
                        refine q_if_eq (pc' := 156) ja_M_next_153 rfl (fun h => absurd h ((by decide : ¬ (1 : Int32) = 0))) (fun _ => ?_)
                        refine q_iload_n (pc' := 157) ja_M_next_156 rfl rfl ?_
                        refine q_goto ja_M_next_157 ?_
                        refine q_putf (pc' := 164) ja_M_next_161 rfl (by decide) rfl rfl rfl ?_
                        intro s85 e85
                        refine q_aload_n (pc' := 165) ja_M_next_164 rfl rfl ?_
                        refine q_dup (pc' := 166) ja_M_next_165 rfl rfl ?_
                        refine q_getf (pc' := 169) (v := .int (s85 146 40)) ja_M_next_166 rfl (by decide) ⟨rfl, by decide⟩ rfl ?_
                        refine q_iconst (pc' := 170) ja_M_next_169 rfl 1 (by decide) ?_
                        refine q_iadd (pc' := 171) ja_M_next_170 rfl ?_
                        refine q_putf (pc' := 174) ja_M_next_171 rfl (by decide) rfl rfl rfl ?_
                        intro s86 e86
                        exact q_vret ja_M_next_174 rfl (k51 h82 h84 h85 s77 e77 h87 h88 h89 h90 h92 h94 h96 h97 s85 e85 s86 e86)
                      · intro h98
                        refine q_iload_n (pc' := 122) ja_M_next_121 rfl rfl ?_
                        refine q_bipush (pc' := 124) ja_M_next_122 rfl 45 (by decide) ?_
                        refine q_ic_eq (pc' := 127) ja_M_next_124 rfl ?_ ?_
                        · intro h99
                          refine q_iconst (pc' := 146) ja_M_next_145 rfl 1 (by decide) ?_
                          refine q_goto ja_M_next_146 ?_
                          refine q_istore_n (pc' := 151) (ls' := [some (.ref 146), some (.int (s77 162 (s77 146 40).toNatClampNeg)), some (.int 1)]) ja_M_next_150 rfl ⟨Nat.le_of_ble_eq_true rfl, rfl⟩ rfl ?_
                          refine q_aload_n (pc' := 152) ja_M_next_151 rfl rfl ?_
                          refine q_iload_n (pc' := 153) ja_M_next_152 rfl rfl ?_
                          refine q_if_eq (pc' := 156) ja_M_next_153 rfl (fun h => absurd h ((by decide : ¬ (1 : Int32) = 0))) (fun _ => ?_)
                          refine q_iload_n (pc' := 157) ja_M_next_156 rfl rfl ?_
                          refine q_goto ja_M_next_157 ?_
                          refine q_putf (pc' := 164) ja_M_next_161 rfl (by decide) rfl rfl rfl ?_
                          intro s87 e87
                          refine q_aload_n (pc' := 165) ja_M_next_164 rfl rfl ?_
                          refine q_dup (pc' := 166) ja_M_next_165 rfl rfl ?_
                          refine q_getf (pc' := 169) (v := .int (s87 146 40)) ja_M_next_166 rfl (by decide) ⟨rfl, by decide⟩ rfl ?_
                          refine q_iconst (pc' := 170) ja_M_next_169 rfl 1 (by decide) ?_
                          refine q_iadd (pc' := 171) ja_M_next_170 rfl ?_
                          refine q_putf (pc' := 174) ja_M_next_171 rfl (by decide) rfl rfl rfl ?_
                          intro s88 e88
                          exact q_vret ja_M_next_174 rfl (k52 h82 h84 h85 s77 e77 h87 h88 h89 h90 h92 h94 h96 h98 h99 s87 e87 s88 e88)
                        · intro h100
                          refine q_iload_n (pc' := 128) ja_M_next_127 rfl rfl ?_
                          refine q_bipush (pc' := 130) ja_M_next_128 rfl 42 (by decide) ?_
                          refine q_ic_eq (pc' := 133) ja_M_next_130 rfl ?_ ?_
                          · intro h101
                            refine q_iconst (pc' := 146) ja_M_next_145 rfl 1 (by decide) ?_
                            refine q_goto ja_M_next_146 ?_
                            refine q_istore_n (pc' := 151) (ls' := [some (.ref 146), some (.int (s77 162 (s77 146 40).toNatClampNeg)), some (.int 1)]) ja_M_next_150 rfl ⟨Nat.le_of_ble_eq_true rfl, rfl⟩ rfl ?_
                            refine q_aload_n (pc' := 152) ja_M_next_151 rfl rfl ?_
                            refine q_iload_n (pc' := 153) ja_M_next_152 rfl rfl ?_
                            refine q_if_eq (pc' := 156) ja_M_next_153 rfl (fun h => absurd h ((by decide : ¬ (1 : Int32) = 0))) (fun _ => ?_)
                            refine q_iload_n (pc' := 157) ja_M_next_156 rfl rfl ?_
                            refine q_goto ja_M_next_157 ?_
                            refine q_putf (pc' := 164) ja_M_next_161 rfl (by decide) rfl rfl rfl ?_
                            intro s89 e89
                            refine q_aload_n (pc' := 165) ja_M_next_164 rfl rfl ?_
                            refine q_dup (pc' := 166) ja_M_next_165 rfl rfl ?_
                            refine q_getf (pc' := 169) (v := .int (s89 146 40)) ja_M_next_166 rfl (by decide) ⟨rfl, by decide⟩ rfl ?_
                            refine q_iconst (pc' := 170) ja_M_next_169 rfl 1 (by decide) ?_
                            refine q_iadd (pc' := 171) ja_M_next_170 rfl ?_
                            refine q_putf (pc' := 174) ja_M_next_171 rfl (by decide) rfl rfl rfl ?_
                            intro s90 e90
                            exact q_vret ja_M_next_174 rfl (k53 h82 h84 h85 s77 e77 h87 h88 h89 h90 h92 h94 h96 h98 h100 h101 s89 e89 s90 e90)
                          · intro h102
                            refine q_iload_n (pc' := 134) ja_M_next_133 rfl rfl ?_
                            refine q_bipush (pc' := 136) ja_M_next_134 rfl 60 (by decide) ?_
                            refine q_ic_eq (pc' := 139) ja_M_next_136 rfl ?_ ?_
                            · intro h103
                              refine q_iconst (pc' := 146) ja_M_next_145 rfl 1 (by decide) ?_
                              refine q_goto ja_M_next_146 ?_
                              refine q_istore_n (pc' := 151) (ls' := [some (.ref 146), some (.int (s77 162 (s77 146 40).toNatClampNeg)), some (.int 1)]) ja_M_next_150 rfl ⟨Nat.le_of_ble_eq_true rfl, rfl⟩ rfl ?_
                              refine q_aload_n (pc' := 152) ja_M_next_151 rfl rfl ?_
                              refine q_iload_n (pc' := 153) ja_M_next_152 rfl rfl ?_
                              refine q_if_eq (pc' := 156) ja_M_next_153 rfl (fun h => absurd h ((by decide : ¬ (1 : Int32) = 0))) (fun _ => ?_)
                              refine q_iload_n (pc' := 157) ja_M_next_156 rfl rfl ?_
                              refine q_goto ja_M_next_157 ?_
                              refine q_putf (pc' := 164) ja_M_next_161 rfl (by decide) rfl rfl rfl ?_
                              intro s91 e91
                              refine q_aload_n (pc' := 165) ja_M_next_164 rfl rfl ?_
                              refine q_dup (pc' := 166) ja_M_next_165 rfl rfl ?_
                              refine q_getf (pc' := 169) (v := .int (s91 146 40)) ja_M_next_166 rfl (by decide) ⟨rfl, by decide⟩ rfl ?_
                              refine q_iconst (pc' := 170) ja_M_next_169 rfl 1 (by decide) ?_
                              refine q_iadd (pc' := 171) ja_M_next_170 rfl ?_
                              refine q_putf (pc' := 174) ja_M_next_171 rfl (by decide) rfl rfl rfl ?_
                              intro s92 e92
                              exact q_vret ja_M_next_174 rfl (k54 h82 h84 h85 s77 e77 h87 h88 h89 h90 h92 h94 h96 h98 h100 h102 h103 s91 e91 s92 e92)
                            · intro h104
                              refine q_iload_n (pc' := 140) ja_M_next_139 rfl rfl ?_
                              refine q_bipush (pc' := 142) ja_M_next_140 rfl 61 (by decide) ?_
                              refine q_ic_ne (pc' := 145) ja_M_next_142 rfl ?_ ?_
                              · intro h105
                                refine q_iconst (pc' := 150) ja_M_next_149 rfl 0 (by decide) ?_
                                refine q_istore_n (pc' := 151) (ls' := [some (.ref 146), some (.int (s77 162 (s77 146 40).toNatClampNeg)), some (.int 0)]) ja_M_next_150 rfl ⟨Nat.le_of_ble_eq_true rfl, rfl⟩ rfl ?_
                                refine q_aload_n (pc' := 152) ja_M_next_151 rfl rfl ?_
                                refine q_iload_n (pc' := 153) ja_M_next_152 rfl rfl ?_
                                refine q_if_eq (pc' := 156) ja_M_next_153 rfl (fun _ => ?_) (fun h => absurd ((by decide : (0 : Int32) = 0)) h)
                                refine q_iconst (pc' := 161) ja_M_next_160 rfl 2 (by decide) ?_
                                refine q_putf (pc' := 164) ja_M_next_161 rfl (by decide) rfl rfl rfl ?_
                                intro s93 e93
                                refine q_aload_n (pc' := 165) ja_M_next_164 rfl rfl ?_
                                refine q_dup (pc' := 166) ja_M_next_165 rfl rfl ?_
                                refine q_getf (pc' := 169) (v := .int (s93 146 40)) ja_M_next_166 rfl (by decide) ⟨rfl, by decide⟩ rfl ?_
                                refine q_iconst (pc' := 170) ja_M_next_169 rfl 1 (by decide) ?_
                                refine q_iadd (pc' := 171) ja_M_next_170 rfl ?_
                                refine q_putf (pc' := 174) ja_M_next_171 rfl (by decide) rfl rfl rfl ?_
                                intro s94 e94
                                exact q_vret ja_M_next_174 rfl (k55 h82 h84 h85 s77 e77 h87 h88 h89 h90 h92 h94 h96 h98 h100 h102 h104 h105 s93 e93 s94 e94)
                              · intro h106
                                refine q_iconst (pc' := 146) ja_M_next_145 rfl 1 (by decide) ?_
                                refine q_goto ja_M_next_146 ?_
                                refine q_istore_n (pc' := 151) (ls' := [some (.ref 146), some (.int (s77 162 (s77 146 40).toNatClampNeg)), some (.int 1)]) ja_M_next_150 rfl ⟨Nat.le_of_ble_eq_true rfl, rfl⟩ rfl ?_
                                refine q_aload_n (pc' := 152) ja_M_next_151 rfl rfl ?_
                                refine q_iload_n (pc' := 153) ja_M_next_152 rfl rfl ?_
                                refine q_if_eq (pc' := 156) ja_M_next_153 rfl (fun h => absurd h ((by decide : ¬ (1 : Int32) = 0))) (fun _ => ?_)
                                refine q_iload_n (pc' := 157) ja_M_next_156 rfl rfl ?_
                                refine q_goto ja_M_next_157 ?_
                                refine q_putf (pc' := 164) ja_M_next_161 rfl (by decide) rfl rfl rfl ?_
                                intro s95 e95
                                refine q_aload_n (pc' := 165) ja_M_next_164 rfl rfl ?_
                                refine q_dup (pc' := 166) ja_M_next_165 rfl rfl ?_
                                refine q_getf (pc' := 169) (v := .int (s95 146 40)) ja_M_next_166 rfl (by decide) ⟨rfl, by decide⟩ rfl ?_
                                refine q_iconst (pc' := 170) ja_M_next_169 rfl 1 (by decide) ?_
                                refine q_iadd (pc' := 171) ja_M_next_170 rfl ?_
                                refine q_putf (pc' := 174) ja_M_next_171 rfl (by decide) rfl rfl rfl ?_
                                intro s96 e96
                                exact q_vret ja_M_next_174 rfl (k56 h82 h84 h85 s77 e77 h87 h88 h89 h90 h92 h94 h96 h98 h100 h102 h104 h106 s95 e95 s96 e96)
              · intro h107
                refine q_iload_n (pc' := 7) ja_M_isDigit_6 rfl rfl ?_
                refine q_bipush (pc' := 9) ja_M_isDigit_7 rfl 57 (by decide) ?_
                refine q_ic_gt (pc' := 12) ja_M_isDigit_9 rfl ?_ ?_
                · intro h108
                  refine q_iconst (pc' := 17) ja_M_isDigit_16 rfl 0 (by decide) ?_
                  refine q_iret ja_M_isDigit_17 rfl (by decide) ?_
                  show q_W _ _ _ _ 87 [some (.ref 146), some (.int (s77 162 (s77 146 40).toNatClampNeg)), none] [.int 0] s77
                  refine q_if_eq (pc' := 90) ja_M_next_87 rfl (fun _ => ?_) (fun h => absurd ((by decide : (0 : Int32) = 0)) h)
                  refine q_iload_n (pc' := 98) ja_M_next_97 rfl rfl ?_
                  refine q_bipush (pc' := 100) ja_M_next_98 rfl 40 (by decide) ?_
                  refine q_ic_eq (pc' := 103) ja_M_next_100 rfl ?_ ?_
                  · intro h109
                    refine q_iconst (pc' := 146) ja_M_next_145 rfl 1 (by decide) ?_
                    refine q_goto ja_M_next_146 ?_
                    refine q_istore_n (pc' := 151) (ls' := [some (.ref 146), some (.int (s77 162 (s77 146 40).toNatClampNeg)), some (.int 1)]) ja_M_next_150 rfl ⟨Nat.le_of_ble_eq_true rfl, rfl⟩ rfl ?_
                    refine q_aload_n (pc' := 152) ja_M_next_151 rfl rfl ?_
                    refine q_iload_n (pc' := 153) ja_M_next_152 rfl rfl ?_
                    refine q_if_eq (pc' := 156) ja_M_next_153 rfl (fun h => absurd h ((by decide : ¬ (1 : Int32) = 0))) (fun _ => ?_)
                    refine q_iload_n (pc' := 157) ja_M_next_156 rfl rfl ?_
                    refine q_goto ja_M_next_157 ?_
                    refine q_putf (pc' := 164) ja_M_next_161 rfl (by decide) rfl rfl rfl ?_
                    intro s97 e97
                    refine q_aload_n (pc' := 165) ja_M_next_164 rfl rfl ?_
                    refine q_dup (pc' := 166) ja_M_next_165 rfl rfl ?_
                    refine q_getf (pc' := 169) (v := .int (s97 146 40)) ja_M_next_166 rfl (by decide) ⟨rfl, by decide⟩ rfl ?_
                    refine q_iconst (pc' := 170) ja_M_next_169 rfl 1 (by decide) ?_
                    refine q_iadd (pc' := 171) ja_M_next_170 rfl ?_
                    refine q_putf (pc' := 174) ja_M_next_171 rfl (by decide) rfl rfl rfl ?_
                    intro s98 e98
                    exact q_vret ja_M_next_174 rfl (k57 h82 h84 h85 s77 e77 h87 h88 h89 h107 h108 h109 s97 e97 s98 e98)
                  · intro h110
                    refine q_iload_n (pc' := 104) ja_M_next_103 rfl rfl ?_
                    refine q_bipush (pc' := 106) ja_M_next_104 rfl 41 (by decide) ?_
                    refine q_ic_eq (pc' := 109) ja_M_next_106 rfl ?_ ?_
                    · intro h111
                      refine q_iconst (pc' := 146) ja_M_next_145 rfl 1 (by decide) ?_
                      refine q_goto ja_M_next_146 ?_
                      refine q_istore_n (pc' := 151) (ls' := [some (.ref 146), some (.int (s77 162 (s77 146 40).toNatClampNeg)), some (.int 1)]) ja_M_next_150 rfl ⟨Nat.le_of_ble_eq_true rfl, rfl⟩ rfl ?_
                      refine q_aload_n (pc' := 152) ja_M_next_151 rfl rfl ?_
                      refine q_iload_n (pc' := 153) ja_M_next_152 rfl rfl ?_
                      refine q_if_eq (pc' := 156) ja_M_next_153 rfl (fun h => absurd h ((by decide : ¬ (1 : Int32) = 0))) (fun _ => ?_)
                      refine q_iload_n (pc' := 157) ja_M_next_156 rfl rfl ?_
                      refine q_goto ja_M_next_157 ?_
                      refine q_putf (pc' := 164) ja_M_next_161 rfl (by decide) rfl rfl rfl ?_
                      intro s99 e99
                      refine q_aload_n (pc' := 165) ja_M_next_164 rfl rfl ?_
                      refine q_dup (pc' := 166) ja_M_next_165 rfl rfl ?_
                      refine q_getf (pc' := 169) (v := .int (s99 146 40)) ja_M_next_166 rfl (by decide) ⟨rfl, by decide⟩ rfl ?_
                      refine q_iconst (pc' := 170) ja_M_next_169 rfl 1 (by decide) ?_
                      refine q_iadd (pc' := 171) ja_M_next_170 rfl ?_
                      refine q_putf (pc' := 174) ja_M_next_171 rfl (by decide) rfl rfl rfl ?_
                      intro s100 e100
                      exact q_vret ja_M_next_174 rfl (k58 h82 h84 h85 s77 e77 h87 h88 h89 h107 h108 h110 h111 s99 e99 s100 e100)
                    · intro h112
                      refine q_iload_n (pc' := 110) ja_M_next_109 rfl rfl ?_
                      refine q_bipush (pc' := 112) ja_M_next_110 rfl 59 (by decide) ?_
                      refine q_ic_eq (pc' := 115) ja_M_next_112 rfl ?_ ?_
                      · intro h113
                        refine q_iconst (pc' := 146) ja_M_next_145 rfl 1 (by decide) ?_
                        refine q_goto ja_M_next_146 ?_
                        refine q_istore_n (pc' := 151) (ls' := [some (.ref 146), some (.int (s77 162 (s77 146 40).toNatClampNeg)), some (.int 1)]) ja_M_next_150 rfl ⟨Nat.le_of_ble_eq_true rfl, rfl⟩ rfl ?_
                        refine q_aload_n (pc' := 152) ja_M_next_151 rfl rfl ?_
                        refine q_iload_n (pc' := 153) ja_M_next_152 rfl rfl ?_
                        refine q_if_eq (pc' := 156) ja_M_next_153 rfl (fun h => absurd h ((by decide : ¬ (1 : Int32) = 0))) (fun _ => ?_)
                        refine q_iload_n (pc' := 157) ja_M_next_156 rfl rfl ?_
                        refine q_goto ja_M_next_157 ?_
                        refine q_putf (pc' := 164) ja_M_next_161 rfl (by decide) rfl rfl rfl ?_
                        intro s101 e101
                        refine q_aload_n (pc' := 165) ja_M_next_164 rfl rfl ?_
                        refine q_dup (pc' := 166) ja_M_next_165 rfl rfl ?_
                        refine q_getf (pc' := 169) (v := .int (s101 146 40)) ja_M_next_166 rfl (by decide) ⟨rfl, by decide⟩ rfl ?_
                        refine q_iconst (pc' := 170) ja_M_next_169 rfl 1 (by decide) ?_
                        refine q_iadd (pc' := 171) ja_M_next_170 rfl ?_
                        refine q_putf (pc' := 174) ja_M_next_171 rfl (by decide) rfl rfl rfl ?_
                        intro s102 e102
                        exact q_vret ja_M_next_174 rfl (k59 h82 h84 h85 s77 e77 h87 h88 h89 h107 h108 h110 h112 h113 s101 e101 s102 e102)
                      · intro h114
                        refine q_iload_n (pc' := 116) ja_M_next_115 rfl rfl ?_
                        refine q_bipush (pc' := 118) ja_M_next_116 rfl 43 (by decide) ?_
                        refine q_ic_eq (pc' := 121) ja_M_next_118 rfl ?_ ?_
                        · intro h115
                          refine q_iconst (pc' := 146) ja_M_next_145 rfl 1 (by decide) ?_
                          refine q_goto ja_M_next_146 ?_
                          refine q_istore_n (pc' := 151) (ls' := [some (.ref 146), some (.int (s77 162 (s77 146 40).toNatClampNeg)), some (.int 1)]) ja_M_next_150 rfl ⟨Nat.le_of_ble_eq_true rfl, rfl⟩ rfl ?_
                          refine q_aload_n (pc' := 152) ja_M_next_151 rfl rfl ?_
                          refine q_iload_n (pc' := 153) ja_M_next_152 rfl rfl ?_
                          refine q_if_eq (pc' := 156) ja_M_next_153 rfl (fun h => absurd h ((by decide : ¬ (1 : Int32) = 0))) (fun _ => ?_)
                          refine q_iload_n (pc' := 157) ja_M_next_156 rfl rfl ?_
                          refine q_goto ja_M_next_157 ?_
                          refine q_putf (pc' := 164) ja_M_next_161 rfl (by decide) rfl rfl rfl ?_
                          intro s103 e103
                          refine q_aload_n (pc' := 165) ja_M_next_164 rfl rfl ?_
                          refine q_dup (pc' := 166) ja_M_next_165 rfl rfl ?_
                          refine q_getf (pc' := 169) (v := .int (s103 146 40)) ja_M_next_166 rfl (by decide) ⟨rfl, by decide⟩ rfl ?_
                          refine q_iconst (pc' := 170) ja_M_next_169 rfl 1 (by decide) ?_
                          refine q_iadd (pc' := 171) ja_M_next_170 rfl ?_
                          refine q_putf (pc' := 174) ja_M_next_171 rfl (by decide) rfl rfl rfl ?_
                          intro s104 e104
                          exact q_vret ja_M_next_174 rfl (k60 h82 h84 h85 s77 e77 h87 h88 h89 h107 h108 h110 h112 h114 h115 s103 e103 s104 e104)
                        · intro h116
                          refine q_iload_n (pc' := 122) ja_M_next_121 rfl rfl ?_
                          refine q_bipush (pc' := 124) ja_M_next_122 rfl 45 (by decide) ?_
                          refine q_ic_eq (pc' := 127) ja_M_next_124 rfl ?_ ?_
                          · intro h117
                            refine q_iconst (pc' := 146) ja_M_next_145 rfl 1 (by decide) ?_
                            refine q_goto ja_M_next_146 ?_
                            refine q_istore_n (pc' := 151) (ls' := [some (.ref 146), some (.int (s77 162 (s77 146 40).toNatClampNeg)), some (.int 1)]) ja_M_next_150 rfl ⟨Nat.le_of_ble_eq_true rfl, rfl⟩ rfl ?_
                            refine q_aload_n (pc' := 152) ja_M_next_151 rfl rfl ?_
                            refine q_iload_n (pc' := 153) ja_M_next_152 rfl rfl ?_
                            refine q_if_eq (pc' := 156) ja_M_next_153 rfl (fun h => absurd h ((by decide : ¬ (1 : Int32) = 0))) (fun _ => ?_)
                            refine q_iload_n (pc' := 157) ja_M_next_156 rfl rfl ?_
                            refine q_goto ja_M_next_157 ?_
                            refine q_putf (pc' := 164) ja_M_next_161 rfl (by decide) rfl rfl rfl ?_
                            intro s105 e105
                            refine q_aload_n (pc' := 165) ja_M_next_164 rfl rfl ?_
                            refine q_dup (pc' := 166) ja_M_next_165 rfl rfl ?_
                            refine q_getf (pc' := 169) (v := .int (s105 146 40)) ja_M_next_166 rfl (by decide) ⟨rfl, by decide⟩ rfl ?_
                            refine q_iconst (pc' := 170) ja_M_next_169 rfl 1 (by decide) ?_
                            refine q_iadd (pc' := 171) ja_M_next_170 rfl ?_
                            refine q_putf (pc' := 174) ja_M_next_171 rfl (by decide) rfl rfl rfl ?_
                            intro s106 e106
                            exact q_vret ja_M_next_174 rfl (k61 h82 h84 h85 s77 e77 h87 h88 h89 h107 h108 h110 h112 h114 h116 h117 s105 e105 s106 e106)
                          · intro h118
                            refine q_iload_n (pc' := 128) ja_M_next_127 rfl rfl ?_
                            refine q_bipush (pc' := 130) ja_M_next_128 rfl 42 (by decide) ?_
                            refine q_ic_eq (pc' := 133) ja_M_next_130 rfl ?_ ?_
                            · intro h119
                              refine q_iconst (pc' := 146) ja_M_next_145 rfl 1 (by decide) ?_
                              refine q_goto ja_M_next_146 ?_
                              refine q_istore_n (pc' := 151) (ls' := [some (.ref 146), some (.int (s77 162 (s77 146 40).toNatClampNeg)), some (.int 1)]) ja_M_next_150 rfl ⟨Nat.le_of_ble_eq_true rfl, rfl⟩ rfl ?_
                              refine q_aload_n (pc' := 152) ja_M_next_151 rfl rfl ?_
                              refine q_iload_n (pc' := 153) ja_M_next_152 rfl rfl ?_
                              refine q_if_eq (pc' := 156) ja_M_next_153 rfl (fun h => absurd h ((by decide : ¬ (1 : Int32) = 0))) (fun _ => ?_)
                              refine q_iload_n (pc' := 157) ja_M_next_156 rfl rfl ?_
                              refine q_goto ja_M_next_157 ?_
                              refine q_putf (pc' := 164) ja_M_next_161 rfl (by decide) rfl rfl rfl ?_
                              intro s107 e107
                              refine q_aload_n (pc' := 165) ja_M_next_164 rfl rfl ?_
                              refine q_dup (pc' := 166) ja_M_next_165 rfl rfl ?_
                              refine q_getf (pc' := 169) (v := .int (s107 146 40)) ja_M_next_166 rfl (by decide) ⟨rfl, by decide⟩ rfl ?_
                              refine q_iconst (pc' := 170) ja_M_next_169 rfl 1 (by decide) ?_
                              refine q_iadd (pc' := 171) ja_M_next_170 rfl ?_
                              refine q_putf (pc' := 174) ja_M_next_171 rfl (by decide) rfl rfl rfl ?_
                              intro s108 e108
                              exact q_vret ja_M_next_174 rfl (k62 h82 h84 h85 s77 e77 h87 h88 h89 h107 h108 h110 h112 h114 h116 h118 h119 s107 e107 s108 e108)
                            · intro h120
                              refine q_iload_n (pc' := 134) ja_M_next_133 rfl rfl ?_
                              refine q_bipush (pc' := 136) ja_M_next_134 rfl 60 (by decide) ?_
                              refine q_ic_eq (pc' := 139) ja_M_next_136 rfl ?_ ?_
                              · intro h121
                                refine q_iconst (pc' := 146) ja_M_next_145 rfl 1 (by decide) ?_
                                refine q_goto ja_M_next_146 ?_
                                refine q_istore_n (pc' := 151) (ls' := [some (.ref 146), some (.int (s77 162 (s77 146 40).toNatClampNeg)), some (.int 1)]) ja_M_next_150 rfl ⟨Nat.le_of_ble_eq_true rfl, rfl⟩ rfl ?_
                                refine q_aload_n (pc' := 152) ja_M_next_151 rfl rfl ?_
                                refine q_iload_n (pc' := 153) ja_M_next_152 rfl rfl ?_
                                refine q_if_eq (pc' := 156) ja_M_next_153 rfl (fun h => absurd h ((by decide : ¬ (1 : Int32) = 0))) (fun _ => ?_)
                                refine q_iload_n (pc' := 157) ja_M_next_156 rfl rfl ?_
                                refine q_goto ja_M_next_157 ?_
                                refine q_putf (pc' := 164) ja_M_next_161 rfl (by decide) rfl rfl rfl ?_
                                intro s109 e109
                                refine q_aload_n (pc' := 165) ja_M_next_164 rfl rfl ?_
                                refine q_dup (pc' := 166) ja_M_next_165 rfl rfl ?_
                                refine q_getf (pc' := 169) (v := .int (s109 146 40)) ja_M_next_166 rfl (by decide) ⟨rfl, by decide⟩ rfl ?_
                                refine q_iconst (pc' := 170) ja_M_next_169 rfl 1 (by decide) ?_
                                refine q_iadd (pc' := 171) ja_M_next_170 rfl ?_
                                refine q_putf (pc' := 174) ja_M_next_171 rfl (by decide) rfl rfl rfl ?_
                                intro s110 e110
                                exact q_vret ja_M_next_174 rfl (k63 h82 h84 h85 s77 e77 h87 h88 h89 h107 h108 h110 h112 h114 h116 h118 h120 h121 s109 e109 s110 e110)
                              · intro h122
                                refine q_iload_n (pc' := 140) ja_M_next_139 rfl rfl ?_
                                refine q_bipush (pc' := 142) ja_M_next_140 rfl 61 (by decide) ?_
                                refine q_ic_ne (pc' := 145) ja_M_next_142 rfl ?_ ?_
                                · intro h123
                                  refine q_iconst (pc' := 150) ja_M_next_149 rfl 0 (by decide) ?_
                                  refine q_istore_n (pc' := 151) (ls' := [some (.ref 146), some (.int (s77 162 (s77 146 40).toNatClampNeg)), some (.int 0)]) ja_M_next_150 rfl ⟨Nat.le_of_ble_eq_true rfl, rfl⟩ rfl ?_
                                  refine q_aload_n (pc' := 152) ja_M_next_151 rfl rfl ?_
                                  refine q_iload_n (pc' := 153) ja_M_next_152 rfl rfl ?_
                                  refine q_if_eq (pc' := 156) ja_M_next_153 rfl (fun _ => ?_) (fun h => absurd ((by decide : (0 : Int32) = 0)) h)
                                  refine q_iconst (pc' := 161) ja_M_next_160 rfl 2 (by decide) ?_
                                  refine q_putf (pc' := 164) ja_M_next_161 rfl (by decide) rfl rfl rfl ?_
                                  intro s111 e111
                                  refine q_aload_n (pc' := 165) ja_M_next_164 rfl rfl ?_
                                  refine q_dup (pc' := 166) ja_M_next_165 rfl rfl ?_
                                  refine q_getf (pc' := 169) (v := .int (s111 146 40)) ja_M_next_166 rfl (by decide) ⟨rfl, by decide⟩ rfl ?_
                                  refine q_iconst (pc' := 170) ja_M_next_169 rfl 1 (by decide) ?_
                                  refine q_iadd (pc' := 171) ja_M_next_170 rfl ?_
                                  refine q_putf (pc' := 174) ja_M_next_171 rfl (by decide) rfl rfl rfl ?_
                                  intro s112 e112
                                  exact q_vret ja_M_next_174 rfl (k64 h82 h84 h85 s77 e77 h87 h88 h89 h107 h108 h110 h112 h114 h116 h118 h120 h122 h123 s111 e111 s112 e112)
                                · intro h124
                                  refine q_iconst (pc' := 146) ja_M_next_145 rfl 1 (by decide) ?_
                                  refine q_goto ja_M_next_146 ?_
                                  refine q_istore_n (pc' := 151) (ls' := [some (.ref 146), some (.int (s77 162 (s77 146 40).toNatClampNeg)), some (.int 1)]) ja_M_next_150 rfl ⟨Nat.le_of_ble_eq_true rfl, rfl⟩ rfl ?_
                                  refine q_aload_n (pc' := 152) ja_M_next_151 rfl rfl ?_
                                  refine q_iload_n (pc' := 153) ja_M_next_152 rfl rfl ?_
                                  refine q_if_eq (pc' := 156) ja_M_next_153 rfl (fun h => absurd h ((by decide : ¬ (1 : Int32) = 0))) (fun _ => ?_)
                                  refine q_iload_n (pc' := 157) ja_M_next_156 rfl rfl ?_
                                  refine q_goto ja_M_next_157 ?_
                                  refine q_putf (pc' := 164) ja_M_next_161 rfl (by decide) rfl rfl rfl ?_
                                  intro s113 e113
                                  refine q_aload_n (pc' := 165) ja_M_next_164 rfl rfl ?_
                                  refine q_dup (pc' := 166) ja_M_next_165 rfl rfl ?_
                                  refine q_getf (pc' := 169) (v := .int (s113 146 40)) ja_M_next_166 rfl (by decide) ⟨rfl, by decide⟩ rfl ?_
                                  refine q_iconst (pc' := 170) ja_M_next_169 rfl 1 (by decide) ?_
                                  refine q_iadd (pc' := 171) ja_M_next_170 rfl ?_
                                  refine q_putf (pc' := 174) ja_M_next_171 rfl (by decide) rfl rfl rfl ?_
                                  intro s114 e114
                                  exact q_vret ja_M_next_174 rfl (k65 h82 h84 h85 s77 e77 h87 h88 h89 h107 h108 h110 h112 h114 h116 h118 h120 h122 h124 s113 e113 s114 e114)
                · intro h125
                  refine q_iconst (pc' := 13) ja_M_isDigit_12 rfl 1 (by decide) ?_
                  refine q_goto ja_M_isDigit_13 ?_
                  refine q_iret ja_M_isDigit_17 rfl (by decide) ?_
                  show q_W _ _ _ _ 87 [some (.ref 146), some (.int (s77 162 (s77 146 40).toNatClampNeg)), none] [.int 1] s77
                  refine q_if_eq (pc' := 90) ja_M_next_87 rfl (fun h => absurd h ((by decide : ¬ (1 : Int32) = 0))) (fun _ => ?_)
                  refine q_aload_n (pc' := 91) ja_M_next_90 rfl rfl ?_
                  refine q_virt (pc' := 94) (c := 146) (as := []) (r := []) ja_M_next_91 rfl rfl rfl (by decide) ⟨rfl, by decide⟩ ?_
                  exact (k66 h82 h84 h85 s77 e77 h87 h88 h89 h107 h125)
            · intro h126
              refine q_iload_n (pc' := 7) ja_M_isLetter_6 rfl rfl ?_
              refine q_bipush (pc' := 9) ja_M_isLetter_7 rfl 122 (by decide) ?_
              refine q_ic_gt (pc' := 12) ja_M_isLetter_9 rfl ?_ ?_
              · intro h127
                refine q_iconst (pc' := 17) ja_M_isLetter_16 rfl 0 (by decide) ?_
                refine q_iret ja_M_isLetter_17 rfl (by decide) ?_
                show q_W _ _ _ _ 73 [some (.ref 146), some (.int (s77 162 (s77 146 40).toNatClampNeg)), none] [.int 0] s77
                refine q_if_eq (pc' := 76) ja_M_next_73 rfl (fun _ => ?_) (fun h => absurd ((by decide : (0 : Int32) = 0)) h)
                refine q_iload_n (pc' := 84) ja_M_next_83 rfl rfl ?_
                refine q_stat (pc' := 87) (as := [.int (s77 162 (s77 146 40).toNatClampNeg)]) (r := []) ja_M_next_84 rfl (by decide) rfl rfl ?_
                refine q_in (M := jm_M_isDigit) rfl (Nat.le_of_ble_eq_true rfl) (ls := [some (.int (s77 162 (s77 146 40).toNatClampNeg))]) rfl ?_
                refine q_iload_n (pc' := 1) ja_M_isDigit_0 rfl rfl ?_
                refine q_bipush (pc' := 3) ja_M_isDigit_1 rfl 48 (by decide) ?_
                refine q_ic_lt (pc' := 6) ja_M_isDigit_3 rfl ?_ ?_
                · intro h128
                  refine q_iconst (pc' := 17) ja_M_isDigit_16 rfl 0 (by decide) ?_
                  refine q_iret ja_M_isDigit_17 rfl (by decide) ?_
                  show q_W _ _ _ _ 87 [some (.ref 146), some (.int (s77 162 (s77 146 40).toNatClampNeg)), none] [.int 0] s77
                  refine q_if_eq (pc' := 90) ja_M_next_87 rfl (fun _ => ?_) (fun h => absurd ((by decide : (0 : Int32) = 0)) h)
                  refine q_iload_n (pc' := 98) ja_M_next_97 rfl rfl ?_
                  refine q_bipush (pc' := 100) ja_M_next_98 rfl 40 (by decide) ?_
                  refine q_ic_eq (pc' := 103) ja_M_next_100 rfl ?_ ?_
                  · intro h129
                    refine q_iconst (pc' := 146) ja_M_next_145 rfl 1 (by decide) ?_
                    refine q_goto ja_M_next_146 ?_
                    refine q_istore_n (pc' := 151) (ls' := [some (.ref 146), some (.int (s77 162 (s77 146 40).toNatClampNeg)), some (.int 1)]) ja_M_next_150 rfl ⟨Nat.le_of_ble_eq_true rfl, rfl⟩ rfl ?_
                    refine q_aload_n (pc' := 152) ja_M_next_151 rfl rfl ?_
                    refine q_iload_n (pc' := 153) ja_M_next_152 rfl rfl ?_
                    refine q_if_eq (pc' := 156) ja_M_next_153 rfl (fun h => absurd h ((by decide : ¬ (1 : Int32) = 0))) (fun _ => ?_)
                    refine q_iload_n (pc' := 157) ja_M_next_156 rfl rfl ?_
                    refine q_goto ja_M_next_157 ?_
                    refine q_putf (pc' := 164) ja_M_next_161 rfl (by decide) rfl rfl rfl ?_
                    intro s115 e115
                    refine q_aload_n (pc' := 165) ja_M_next_164 rfl rfl ?_
                    refine q_dup (pc' := 166) ja_M_next_165 rfl rfl ?_
                    refine q_getf (pc' := 169) (v := .int (s115 146 40)) ja_M_next_166 rfl (by decide) ⟨rfl, by decide⟩ rfl ?_
                    refine q_iconst (pc' := 170) ja_M_next_169 rfl 1 (by decide) ?_
                    refine q_iadd (pc' := 171) ja_M_next_170 rfl ?_
                    refine q_putf (pc' := 174) ja_M_next_171 rfl (by decide) rfl rfl rfl ?_
                    intro s116 e116
                    exact q_vret ja_M_next_174 rfl (k67 h82 h84 h85 s77 e77 h87 h88 h126 h127 h128 h129 s115 e115 s116 e116)
                  · intro h130
                    refine q_iload_n (pc' := 104) ja_M_next_103 rfl rfl ?_
                    refine q_bipush (pc' := 106) ja_M_next_104 rfl 41 (by decide) ?_
                    refine q_ic_eq (pc' := 109) ja_M_next_106 rfl ?_ ?_
                    · intro h131
                      refine q_iconst (pc' := 146) ja_M_next_145 rfl 1 (by decide) ?_
                      refine q_goto ja_M_next_146 ?_
                      refine q_istore_n (pc' := 151) (ls' := [some (.ref 146), some (.int (s77 162 (s77 146 40).toNatClampNeg)), some (.int 1)]) ja_M_next_150 rfl ⟨Nat.le_of_ble_eq_true rfl, rfl⟩ rfl ?_
                      refine q_aload_n (pc' := 152) ja_M_next_151 rfl rfl ?_
                      refine q_iload_n (pc' := 153) ja_M_next_152 rfl rfl ?_
                      refine q_if_eq (pc' := 156) ja_M_next_153 rfl (fun h => absurd h ((by decide : ¬ (1 : Int32) = 0))) (fun _ => ?_)
                      refine q_iload_n (pc' := 157) ja_M_next_156 rfl rfl ?_
                      refine q_goto ja_M_next_157 ?_
                      refine q_putf (pc' := 164) ja_M_next_161 rfl (by decide) rfl rfl rfl ?_
                      intro s117 e117
                      refine q_aload_n (pc' := 165) ja_M_next_164 rfl rfl ?_
                      refine q_dup (pc' := 166) ja_M_next_165 rfl rfl ?_
                      refine q_getf (pc' := 169) (v := .int (s117 146 40)) ja_M_next_166 rfl (by decide) ⟨rfl, by decide⟩ rfl ?_
                      refine q_iconst (pc' := 170) ja_M_next_169 rfl 1 (by decide) ?_
                      refine q_iadd (pc' := 171) ja_M_next_170 rfl ?_
                      refine q_putf (pc' := 174) ja_M_next_171 rfl (by decide) rfl rfl rfl ?_
                      intro s118 e118
                      exact q_vret ja_M_next_174 rfl (k68 h82 h84 h85 s77 e77 h87 h88 h126 h127 h128 h130 h131 s117 e117 s118 e118)
                    · intro h132
                      refine q_iload_n (pc' := 110) ja_M_next_109 rfl rfl ?_
                      refine q_bipush (pc' := 112) ja_M_next_110 rfl 59 (by decide) ?_
                      refine q_ic_eq (pc' := 115) ja_M_next_112 rfl ?_ ?_
                      · intro h133
                        refine q_iconst (pc' := 146) ja_M_next_145 rfl 1 (by decide) ?_
                        refine q_goto ja_M_next_146 ?_
                        refine q_istore_n (pc' := 151) (ls' := [some (.ref 146), some (.int (s77 162 (s77 146 40).toNatClampNeg)), some (.int 1)]) ja_M_next_150 rfl ⟨Nat.le_of_ble_eq_true rfl, rfl⟩ rfl ?_
                        refine q_aload_n (pc' := 152) ja_M_next_151 rfl rfl ?_
                        refine q_iload_n (pc' := 153) ja_M_next_152 rfl rfl ?_
                        refine q_if_eq (pc' := 156) ja_M_next_153 rfl (fun h => absurd h ((by decide : ¬ (1 : Int32) = 0))) (fun _ => ?_)
                        refine q_iload_n (pc' := 157) ja_M_next_156 rfl rfl ?_
                        refine q_goto ja_M_next_157 ?_
                        refine q_putf (pc' := 164) ja_M_next_161 rfl (by decide) rfl rfl rfl ?_
                        intro s119 e119
                        refine q_aload_n (pc' := 165) ja_M_next_164 rfl rfl ?_
                        refine q_dup (pc' := 166) ja_M_next_165 rfl rfl ?_
                        refine q_getf (pc' := 169) (v := .int (s119 146 40)) ja_M_next_166 rfl (by decide) ⟨rfl, by decide⟩ rfl ?_
                        refine q_iconst (pc' := 170) ja_M_next_169 rfl 1 (by decide) ?_
                        refine q_iadd (pc' := 171) ja_M_next_170 rfl ?_
                        refine q_putf (pc' := 174) ja_M_next_171 rfl (by decide) rfl rfl rfl ?_
                        intro s120 e120
                        exact q_vret ja_M_next_174 rfl (k69 h82 h84 h85 s77 e77 h87 h88 h126 h127 h128 h130 h132 h133 s119 e119 s120 e120)
                      · intro h134
                        refine q_iload_n (pc' := 116) ja_M_next_115 rfl rfl ?_
                        refine q_bipush (pc' := 118) ja_M_next_116 rfl 43 (by decide) ?_
                        refine q_ic_eq (pc' := 121) ja_M_next_118 rfl ?_ ?_
                        · intro h135
                          refine q_iconst (pc' := 146) ja_M_next_145 rfl 1 (by decide) ?_
                          refine q_goto ja_M_next_146 ?_
                          refine q_istore_n (pc' := 151) (ls' := [some (.ref 146), some (.int (s77 162 (s77 146 40).toNatClampNeg)), some (.int 1)]) ja_M_next_150 rfl ⟨Nat.le_of_ble_eq_true rfl, rfl⟩ rfl ?_
                          refine q_aload_n (pc' := 152) ja_M_next_151 rfl rfl ?_
                          refine q_iload_n (pc' := 153) ja_M_next_152 rfl rfl ?_
                          refine q_if_eq (pc' := 156) ja_M_next_153 rfl (fun h => absurd h ((by decide : ¬ (1 : Int32) = 0))) (fun _ => ?_)
                          refine q_iload_n (pc' := 157) ja_M_next_156 rfl rfl ?_
                          refine q_goto ja_M_next_157 ?_
                          refine q_putf (pc' := 164) ja_M_next_161 rfl (by decide) rfl rfl rfl ?_
                          intro s121 e121
                          refine q_aload_n (pc' := 165) ja_M_next_164 rfl rfl ?_
                          refine q_dup (pc' := 166) ja_M_next_165 rfl rfl ?_
                          refine q_getf (pc' := 169) (v := .int (s121 146 40)) ja_M_next_166 rfl (by decide) ⟨rfl, by decide⟩ rfl ?_
                          refine q_iconst (pc' := 170) ja_M_next_169 rfl 1 (by decide) ?_
                          refine q_iadd (pc' := 171) ja_M_next_170 rfl ?_
                          refine q_putf (pc' := 174) ja_M_next_171 rfl (by decide) rfl rfl rfl ?_
                          intro s122 e122
                          exact q_vret ja_M_next_174 rfl (k70 h82 h84 h85 s77 e77 h87 h88 h126 h127 h128 h130 h132 h134 h135 s121 e121 s122 e122)
                        · intro h136
                          refine q_iload_n (pc' := 122) ja_M_next_121 rfl rfl ?_
                          refine q_bipush (pc' := 124) ja_M_next_122 rfl 45 (by decide) ?_
                          refine q_ic_eq (pc' := 127) ja_M_next_124 rfl ?_ ?_
                          · intro h137
                            refine q_iconst (pc' := 146) ja_M_next_145 rfl 1 (by decide) ?_
                            refine q_goto ja_M_next_146 ?_
                            refine q_istore_n (pc' := 151) (ls' := [some (.ref 146), some (.int (s77 162 (s77 146 40).toNatClampNeg)), some (.int 1)]) ja_M_next_150 rfl ⟨Nat.le_of_ble_eq_true rfl, rfl⟩ rfl ?_
                            refine q_aload_n (pc' := 152) ja_M_next_151 rfl rfl ?_
                            refine q_iload_n (pc' := 153) ja_M_next_152 rfl rfl ?_
                            refine q_if_eq (pc' := 156) ja_M_next_153 rfl (fun h => absurd h ((by decide : ¬ (1 : Int32) = 0))) (fun _ => ?_)
                            refine q_iload_n (pc' := 157) ja_M_next_156 rfl rfl ?_
                            refine q_goto ja_M_next_157 ?_
                            refine q_putf (pc' := 164) ja_M_next_161 rfl (by decide) rfl rfl rfl ?_
                            intro s123 e123
                            refine q_aload_n (pc' := 165) ja_M_next_164 rfl rfl ?_
                            refine q_dup (pc' := 166) ja_M_next_165 rfl rfl ?_
                            refine q_getf (pc' := 169) (v := .int (s123 146 40)) ja_M_next_166 rfl (by decide) ⟨rfl, by decide⟩ rfl ?_
                            refine q_iconst (pc' := 170) ja_M_next_169 rfl 1 (by decide) ?_
                            refine q_iadd (pc' := 171) ja_M_next_170 rfl ?_
                            refine q_putf (pc' := 174) ja_M_next_171 rfl (by decide) rfl rfl rfl ?_
                            intro s124 e124
                            exact q_vret ja_M_next_174 rfl (k71 h82 h84 h85 s77 e77 h87 h88 h126 h127 h128 h130 h132 h134 h136 h137 s123 e123 s124 e124)
                          · intro h138
                            refine q_iload_n (pc' := 128) ja_M_next_127 rfl rfl ?_
                            refine q_bipush (pc' := 130) ja_M_next_128 rfl 42 (by decide) ?_
                            refine q_ic_eq (pc' := 133) ja_M_next_130 rfl ?_ ?_
                            · intro h139
                              refine q_iconst (pc' := 146) ja_M_next_145 rfl 1 (by decide) ?_
                              refine q_goto ja_M_next_146 ?_
                              refine q_istore_n (pc' := 151) (ls' := [some (.ref 146), some (.int (s77 162 (s77 146 40).toNatClampNeg)), some (.int 1)]) ja_M_next_150 rfl ⟨Nat.le_of_ble_eq_true rfl, rfl⟩ rfl ?_
                              refine q_aload_n (pc' := 152) ja_M_next_151 rfl rfl ?_
                              refine q_iload_n (pc' := 153) ja_M_next_152 rfl rfl ?_
                              refine q_if_eq (pc' := 156) ja_M_next_153 rfl (fun h => absurd h ((by decide : ¬ (1 : Int32) = 0))) (fun _ => ?_)
                              refine q_iload_n (pc' := 157) ja_M_next_156 rfl rfl ?_
                              refine q_goto ja_M_next_157 ?_
                              refine q_putf (pc' := 164) ja_M_next_161 rfl (by decide) rfl rfl rfl ?_
                              intro s125 e125
                              refine q_aload_n (pc' := 165) ja_M_next_164 rfl rfl ?_
                              refine q_dup (pc' := 166) ja_M_next_165 rfl rfl ?_
                              refine q_getf (pc' := 169) (v := .int (s125 146 40)) ja_M_next_166 rfl (by decide) ⟨rfl, by decide⟩ rfl ?_
                              refine q_iconst (pc' := 170) ja_M_next_169 rfl 1 (by decide) ?_
                              refine q_iadd (pc' := 171) ja_M_next_170 rfl ?_
                              refine q_putf (pc' := 174) ja_M_next_171 rfl (by decide) rfl rfl rfl ?_
                              intro s126 e126
                              exact q_vret ja_M_next_174 rfl (k72 h82 h84 h85 s77 e77 h87 h88 h126 h127 h128 h130 h132 h134 h136 h138 h139 s125 e125 s126 e126)
                            · intro h140
                              refine q_iload_n (pc' := 134) ja_M_next_133 rfl rfl ?_
                              refine q_bipush (pc' := 136) ja_M_next_134 rfl 60 (by decide) ?_
                              refine q_ic_eq (pc' := 139) ja_M_next_136 rfl ?_ ?_
                              · intro h141
                                refine q_iconst (pc' := 146) ja_M_next_145 rfl 1 (by decide) ?_
                                refine q_goto ja_M_next_146 ?_
                                refine q_istore_n (pc' := 151) (ls' := [some (.ref 146), some (.int (s77 162 (s77 146 40).toNatClampNeg)), some (.int 1)]) ja_M_next_150 rfl ⟨Nat.le_of_ble_eq_true rfl, rfl⟩ rfl ?_
                                refine q_aload_n (pc' := 152) ja_M_next_151 rfl rfl ?_
                                refine q_iload_n (pc' := 153) ja_M_next_152 rfl rfl ?_
                                refine q_if_eq (pc' := 156) ja_M_next_153 rfl (fun h => absurd h ((by decide : ¬ (1 : Int32) = 0))) (fun _ => ?_)
                                refine q_iload_n (pc' := 157) ja_M_next_156 rfl rfl ?_
                                refine q_goto ja_M_next_157 ?_
                                refine q_putf (pc' := 164) ja_M_next_161 rfl (by decide) rfl rfl rfl ?_
                                intro s127 e127
                                refine q_aload_n (pc' := 165) ja_M_next_164 rfl rfl ?_
                                refine q_dup (pc' := 166) ja_M_next_165 rfl rfl ?_
                                refine q_getf (pc' := 169) (v := .int (s127 146 40)) ja_M_next_166 rfl (by decide) ⟨rfl, by decide⟩ rfl ?_
                                refine q_iconst (pc' := 170) ja_M_next_169 rfl 1 (by decide) ?_
                                refine q_iadd (pc' := 171) ja_M_next_170 rfl ?_
                                refine q_putf (pc' := 174) ja_M_next_171 rfl (by decide) rfl rfl rfl ?_
                                intro s128 e128
                                exact q_vret ja_M_next_174 rfl (k73 h82 h84 h85 s77 e77 h87 h88 h126 h127 h128 h130 h132 h134 h136 h138 h140 h141 s127 e127 s128 e128)
                              · intro h142
                                refine q_iload_n (pc' := 140) ja_M_next_139 rfl rfl ?_
                                refine q_bipush (pc' := 142) ja_M_next_140 rfl 61 (by decide) ?_
                                refine q_ic_ne (pc' := 145) ja_M_next_142 rfl ?_ ?_
                                · intro h143
                                  refine q_iconst (pc' := 150) ja_M_next_149 rfl 0 (by decide) ?_
                                  refine q_istore_n (pc' := 151) (ls' := [some (.ref 146), some (.int (s77 162 (s77 146 40).toNatClampNeg)), some (.int 0)]) ja_M_next_150 rfl ⟨Nat.le_of_ble_eq_true rfl, rfl⟩ rfl ?_
                                  refine q_aload_n (pc' := 152) ja_M_next_151 rfl rfl ?_
                                  refine q_iload_n (pc' := 153) ja_M_next_152 rfl rfl ?_
                                  refine q_if_eq (pc' := 156) ja_M_next_153 rfl (fun _ => ?_) (fun h => absurd ((by decide : (0 : Int32) = 0)) h)
                                  refine q_iconst (pc' := 161) ja_M_next_160 rfl 2 (by decide) ?_
                                  refine q_putf (pc' := 164) ja_M_next_161 rfl (by decide) rfl rfl rfl ?_
                                  intro s129 e129
                                  refine q_aload_n (pc' := 165) ja_M_next_164 rfl rfl ?_
                                  refine q_dup (pc' := 166) ja_M_next_165 rfl rfl ?_
                                  refine q_getf (pc' := 169) (v := .int (s129 146 40)) ja_M_next_166 rfl (by decide) ⟨rfl, by decide⟩ rfl ?_
                                  refine q_iconst (pc' := 170) ja_M_next_169 rfl 1 (by decide) ?_
                                  refine q_iadd (pc' := 171) ja_M_next_170 rfl ?_
                                  refine q_putf (pc' := 174) ja_M_next_171 rfl (by decide) rfl rfl rfl ?_
                                  intro s130 e130
                                  exact q_vret ja_M_next_174 rfl (k74 h82 h84 h85 s77 e77 h87 h88 h126 h127 h128 h130 h132 h134 h136 h138 h140 h142 h143 s129 e129 s130 e130)
                                · intro h144
                                  refine q_iconst (pc' := 146) ja_M_next_145 rfl 1 (by decide) ?_
                                  refine q_goto ja_M_next_146 ?_
                                  refine q_istore_n (pc' := 151) (ls' := [some (.ref 146), some (.int (s77 162 (s77 146 40).toNatClampNeg)), some (.int 1)]) ja_M_next_150 rfl ⟨Nat.le_of_ble_eq_true rfl, rfl⟩ rfl ?_
                                  refine q_aload_n (pc' := 152) ja_M_next_151 rfl rfl ?_
                                  refine q_iload_n (pc' := 153) ja_M_next_152 rfl rfl ?_
                                  refine q_if_eq (pc' := 156) ja_M_next_153 rfl (fun h => absurd h ((by decide : ¬ (1 : Int32) = 0))) (fun _ => ?_)
                                  refine q_iload_n (pc' := 157) ja_M_next_156 rfl rfl ?_
                                  refine q_goto ja_M_next_157 ?_
                                  refine q_putf (pc' := 164) ja_M_next_161 rfl (by decide) rfl rfl rfl ?_
                                  intro s131 e131
                                  refine q_aload_n (pc' := 165) ja_M_next_164 rfl rfl ?_
                                  refine q_dup (pc' := 166) ja_M_next_165 rfl rfl ?_
                                  refine q_getf (pc' := 169) (v := .int (s131 146 40)) ja_M_next_166 rfl (by decide) ⟨rfl, by decide⟩ rfl ?_
                                  refine q_iconst (pc' := 170) ja_M_next_169 rfl 1 (by decide) ?_
                                  refine q_iadd (pc' := 171) ja_M_next_170 rfl ?_
                                  refine q_putf (pc' := 174) ja_M_next_171 rfl (by decide) rfl rfl rfl ?_
                                  intro s132 e132
                                  exact q_vret ja_M_next_174 rfl (k75 h82 h84 h85 s77 e77 h87 h88 h126 h127 h128 h130 h132 h134 h136 h138 h140 h142 h144 s131 e131 s132 e132)
                · intro h145
                  refine q_iload_n (pc' := 7) ja_M_isDigit_6 rfl rfl ?_
                  refine q_bipush (pc' := 9) ja_M_isDigit_7 rfl 57 (by decide) ?_
                  refine q_ic_gt (pc' := 12) ja_M_isDigit_9 rfl ?_ ?_
                  · intro h146
                    refine q_iconst (pc' := 17) ja_M_isDigit_16 rfl 0 (by decide) ?_
                    refine q_iret ja_M_isDigit_17 rfl (by decide) ?_
                    show q_W _ _ _ _ 87 [some (.ref 146), some (.int (s77 162 (s77 146 40).toNatClampNeg)), none] [.int 0] s77
                    refine q_if_eq (pc' := 90) ja_M_next_87 rfl (fun _ => ?_) (fun h => absurd ((by decide : (0 : Int32) = 0)) h)
                    refine q_iload_n (pc' := 98) ja_M_next_97 rfl rfl ?_
                    refine q_bipush (pc' := 100) ja_M_next_98 rfl 40 (by decide) ?_
                    refine q_ic_eq (pc' := 103) ja_M_next_100 rfl ?_ ?_
                    · intro h147
                      refine q_iconst (pc' := 146) ja_M_next_145 rfl 1 (by decide) ?_
                      refine q_goto ja_M_next_146 ?_
                      refine q_istore_n (pc' := 151) (ls' := [some (.ref 146), some (.int (s77 162 (s77 146 40).toNatClampNeg)), some (.int 1)]) ja_M_next_150 rfl ⟨Nat.le_of_ble_eq_true rfl, rfl⟩ rfl ?_
                      refine q_aload_n (pc' := 152) ja_M_next_151 rfl rfl ?_
                      refine q_iload_n (pc' := 153) ja_M_next_152 rfl rfl ?_
                      refine q_if_eq (pc' := 156) ja_M_next_153 rfl (fun h => absurd h ((by decide : ¬ (1 : Int32) = 0))) (fun _ => ?_)
                      refine q_iload_n (pc' := 157) ja_M_next_156 rfl rfl ?_
                      refine q_goto ja_M_next_157 ?_
                      refine q_putf (pc' := 164) ja_M_next_161 rfl (by decide) rfl rfl rfl ?_
                      intro s133 e133
                      refine q_aload_n (pc' := 165) ja_M_next_164 rfl rfl ?_
                      refine q_dup (pc' := 166) ja_M_next_165 rfl rfl ?_
                      refine q_getf (pc' := 169) (v := .int (s133 146 40)) ja_M_next_166 rfl (by decide) ⟨rfl, by decide⟩ rfl ?_
                      refine q_iconst (pc' := 170) ja_M_next_169 rfl 1 (by decide) ?_
                      refine q_iadd (pc' := 171) ja_M_next_170 rfl ?_
                      refine q_putf (pc' := 174) ja_M_next_171 rfl (by decide) rfl rfl rfl ?_
                      intro s134 e134
                      exact q_vret ja_M_next_174 rfl (k76 h82 h84 h85 s77 e77 h87 h88 h126 h127 h145 h146 h147 s133 e133 s134 e134)
                    · intro h148
                      refine q_iload_n (pc' := 104) ja_M_next_103 rfl rfl ?_
                      refine q_bipush (pc' := 106) ja_M_next_104 rfl 41 (by decide) ?_
                      refine q_ic_eq (pc' := 109) ja_M_next_106 rfl ?_ ?_
                      · intro h149
                        refine q_iconst (pc' := 146) ja_M_next_145 rfl 1 (by decide) ?_
                        refine q_goto ja_M_next_146 ?_
                        refine q_istore_n (pc' := 151) (ls' := [some (.ref 146), some (.int (s77 162 (s77 146 40).toNatClampNeg)), some (.int 1)]) ja_M_next_150 rfl ⟨Nat.le_of_ble_eq_true rfl, rfl⟩ rfl ?_
                        refine q_aload_n (pc' := 152) ja_M_next_151 rfl rfl ?_
                        refine q_iload_n (pc' := 153) ja_M_next_152 rfl rfl ?_
                        refine q_if_eq (pc' := 156) ja_M_next_153 rfl (fun h => absurd h ((by decide : ¬ (1 : Int32) = 0))) (fun _ => ?_)
                        refine q_iload_n (pc' := 157) ja_M_next_156 rfl rfl ?_
                        refine q_goto ja_M_next_157 ?_
                        refine q_putf (pc' := 164) ja_M_next_161 rfl (by decide) rfl rfl rfl ?_
                        intro s135 e135
                        refine q_aload_n (pc' := 165) ja_M_next_164 rfl rfl ?_
                        refine q_dup (pc' := 166) ja_M_next_165 rfl rfl ?_
                        refine q_getf (pc' := 169) (v := .int (s135 146 40)) ja_M_next_166 rfl (by decide) ⟨rfl, by decide⟩ rfl ?_
                        refine q_iconst (pc' := 170) ja_M_next_169 rfl 1 (by decide) ?_
                        refine q_iadd (pc' := 171) ja_M_next_170 rfl ?_
                        refine q_putf (pc' := 174) ja_M_next_171 rfl (by decide) rfl rfl rfl ?_
                        intro s136 e136
                        exact q_vret ja_M_next_174 rfl (k77 h82 h84 h85 s77 e77 h87 h88 h126 h127 h145 h146 h148 h149 s135 e135 s136 e136)
                      · intro h150
                        refine q_iload_n (pc' := 110) ja_M_next_109 rfl rfl ?_
                        refine q_bipush (pc' := 112) ja_M_next_110 rfl 59 (by decide) ?_
                        refine q_ic_eq (pc' := 115) ja_M_next_112 rfl ?_ ?_
                        · intro h151
                          refine q_iconst (pc' := 146) ja_M_next_145 rfl 1 (by decide) ?_
                          refine q_goto ja_M_next_146 ?_
                          refine q_istore_n (pc' := 151) (ls' := [some (.ref 146), some (.int (s77 162 (s77 146 40).toNatClampNeg)), some (.int 1)]) ja_M_next_150 rfl ⟨Nat.le_of_ble_eq_true rfl, rfl⟩ rfl ?_
                          refine q_aload_n (pc' := 152) ja_M_next_151 rfl rfl ?_
                          refine q_iload_n (pc' := 153) ja_M_next_152 rfl rfl ?_
                          refine q_if_eq (pc' := 156) ja_M_next_153 rfl (fun h => absurd h ((by decide : ¬ (1 : Int32) = 0))) (fun _ => ?_)
                          refine q_iload_n (pc' := 157) ja_M_next_156 rfl rfl ?_
                          refine q_goto ja_M_next_157 ?_
                          refine q_putf (pc' := 164) ja_M_next_161 rfl (by decide) rfl rfl rfl ?_
                          intro s137 e137
                          refine q_aload_n (pc' := 165) ja_M_next_164 rfl rfl ?_
                          refine q_dup (pc' := 166) ja_M_next_165 rfl rfl ?_
                          refine q_getf (pc' := 169) (v := .int (s137 146 40)) ja_M_next_166 rfl (by decide) ⟨rfl, by decide⟩ rfl ?_
                          refine q_iconst (pc' := 170) ja_M_next_169 rfl 1 (by decide) ?_
                          refine q_iadd (pc' := 171) ja_M_next_170 rfl ?_
                          refine q_putf (pc' := 174) ja_M_next_171 rfl (by decide) rfl rfl rfl ?_
                          intro s138 e138
                          exact q_vret ja_M_next_174 rfl (k78 h82 h84 h85 s77 e77 h87 h88 h126 h127 h145 h146 h148 h150 h151 s137 e137 s138 e138)
                        · intro h152
                          refine q_iload_n (pc' := 116) ja_M_next_115 rfl rfl ?_
                          refine q_bipush (pc' := 118) ja_M_next_116 rfl 43 (by decide) ?_
                          refine q_ic_eq (pc' := 121) ja_M_next_118 rfl ?_ ?_
                          · intro h153
                            refine q_iconst (pc' := 146) ja_M_next_145 rfl 1 (by decide) ?_
                            refine q_goto ja_M_next_146 ?_
                            refine q_istore_n (pc' := 151) (ls' := [some (.ref 146), some (.int (s77 162 (s77 146 40).toNatClampNeg)), some (.int 1)]) ja_M_next_150 rfl ⟨Nat.le_of_ble_eq_true rfl, rfl⟩ rfl ?_
                            refine q_aload_n (pc' := 152) ja_M_next_151 rfl rfl ?_
                            refine q_iload_n (pc' := 153) ja_M_next_152 rfl rfl ?_
                            refine q_if_eq (pc' := 156) ja_M_next_153 rfl (fun h => absurd h ((by decide : ¬ (1 : Int32) = 0))) (fun _ => ?_)
                            refine q_iload_n (pc' := 157) ja_M_next_156 rfl rfl ?_
                            refine q_goto ja_M_next_157 ?_
                            refine q_putf (pc' := 164) ja_M_next_161 rfl (by decide) rfl rfl rfl ?_
                            intro s139 e139
                            refine q_aload_n (pc' := 165) ja_M_next_164 rfl rfl ?_
                            refine q_dup (pc' := 166) ja_M_next_165 rfl rfl ?_
                            refine q_getf (pc' := 169) (v := .int (s139 146 40)) ja_M_next_166 rfl (by decide) ⟨rfl, by decide⟩ rfl ?_
                            refine q_iconst (pc' := 170) ja_M_next_169 rfl 1 (by decide) ?_
                            refine q_iadd (pc' := 171) ja_M_next_170 rfl ?_
                            refine q_putf (pc' := 174) ja_M_next_171 rfl (by decide) rfl rfl rfl ?_
                            intro s140 e140
                            exact q_vret ja_M_next_174 rfl (k79 h82 h84 h85 s77 e77 h87 h88 h126 h127 h145 h146 h148 h150 h152 h153 s139 e139 s140 e140)
                          · intro h154
                            refine q_iload_n (pc' := 122) ja_M_next_121 rfl rfl ?_
                            refine q_bipush (pc' := 124) ja_M_next_122 rfl 45 (by decide) ?_
                            refine q_ic_eq (pc' := 127) ja_M_next_124 rfl ?_ ?_
                            · intro h155
                              refine q_iconst (pc' := 146) ja_M_next_145 rfl 1 (by decide) ?_
                              refine q_goto ja_M_next_146 ?_
                              refine q_istore_n (pc' := 151) (ls' := [some (.ref 146), some (.int (s77 162 (s77 146 40).toNatClampNeg)), some (.int 1)]) ja_M_next_150 rfl ⟨Nat.le_of_ble_eq_true rfl, rfl⟩ rfl ?_
                              refine q_aload_n (pc' := 152) ja_M_next_151 rfl rfl ?_
                              refine q_iload_n (pc' := 153) ja_M_next_152 rfl rfl ?_
                              refine q_if_eq (pc' := 156) ja_M_next_153 rfl (fun h => absurd h ((by decide : ¬ (1 : Int32) = 0))) (fun _ => ?_)
                              refine q_iload_n (pc' := 157) ja_M_next_156 rfl rfl ?_
                              refine q_goto ja_M_next_157 ?_
                              refine q_putf (pc' := 164) ja_M_next_161 rfl (by decide) rfl rfl rfl ?_
                              intro s141 e141
                              refine q_aload_n (pc' := 165) ja_M_next_164 rfl rfl ?_
                              refine q_dup (pc' := 166) ja_M_next_165 rfl rfl ?_
                              refine q_getf (pc' := 169) (v := .int (s141 146 40)) ja_M_next_166 rfl (by decide) ⟨rfl, by decide⟩ rfl ?_
                              refine q_iconst (pc' := 170) ja_M_next_169 rfl 1 (by decide) ?_
                              refine q_iadd (pc' := 171) ja_M_next_170 rfl ?_
                              refine q_putf (pc' := 174) ja_M_next_171 rfl (by decide) rfl rfl rfl ?_
                              intro s142 e142
                              exact q_vret ja_M_next_174 rfl (k80 h82 h84 h85 s77 e77 h87 h88 h126 h127 h145 h146 h148 h150 h152 h154 h155 s141 e141 s142 e142)
                            · intro h156
                              refine q_iload_n (pc' := 128) ja_M_next_127 rfl rfl ?_
                              refine q_bipush (pc' := 130) ja_M_next_128 rfl 42 (by decide) ?_
                              refine q_ic_eq (pc' := 133) ja_M_next_130 rfl ?_ ?_
                              · intro h157
                                refine q_iconst (pc' := 146) ja_M_next_145 rfl 1 (by decide) ?_
                                refine q_goto ja_M_next_146 ?_
                                refine q_istore_n (pc' := 151) (ls' := [some (.ref 146), some (.int (s77 162 (s77 146 40).toNatClampNeg)), some (.int 1)]) ja_M_next_150 rfl ⟨Nat.le_of_ble_eq_true rfl, rfl⟩ rfl ?_
                                refine q_aload_n (pc' := 152) ja_M_next_151 rfl rfl ?_
                                refine q_iload_n (pc' := 153) ja_M_next_152 rfl rfl ?_
                                refine q_if_eq (pc' := 156) ja_M_next_153 rfl (fun h => absurd h ((by decide : ¬ (1 : Int32) = 0))) (fun _ => ?_)
                                refine q_iload_n (pc' := 157) ja_M_next_156 rfl rfl ?_
                                refine q_goto ja_M_next_157 ?_
                                refine q_putf (pc' := 164) ja_M_next_161 rfl (by decide) rfl rfl rfl ?_
                                intro s143 e143
                                refine q_aload_n (pc' := 165) ja_M_next_164 rfl rfl ?_
                                refine q_dup (pc' := 166) ja_M_next_165 rfl rfl ?_
                                refine q_getf (pc' := 169) (v := .int (s143 146 40)) ja_M_next_166 rfl (by decide) ⟨rfl, by decide⟩ rfl ?_
                                refine q_iconst (pc' := 170) ja_M_next_169 rfl 1 (by decide) ?_
                                refine q_iadd (pc' := 171) ja_M_next_170 rfl ?_
                                refine q_putf (pc' := 174) ja_M_next_171 rfl (by decide) rfl rfl rfl ?_
                                intro s144 e144
                                exact q_vret ja_M_next_174 rfl (k81 h82 h84 h85 s77 e77 h87 h88 h126 h127 h145 h146 h148 h150 h152 h154 h156 h157 s143 e143 s144 e144)
                              · intro h158
                                refine q_iload_n (pc' := 134) ja_M_next_133 rfl rfl ?_
                                refine q_bipush (pc' := 136) ja_M_next_134 rfl 60 (by decide) ?_
                                refine q_ic_eq (pc' := 139) ja_M_next_136 rfl ?_ ?_
                                · intro h159
                                  refine q_iconst (pc' := 146) ja_M_next_145 rfl 1 (by decide) ?_
                                  refine q_goto ja_M_next_146 ?_
                                  refine q_istore_n (pc' := 151) (ls' := [some (.ref 146), some (.int (s77 162 (s77 146 40).toNatClampNeg)), some (.int 1)]) ja_M_next_150 rfl ⟨Nat.le_of_ble_eq_true rfl, rfl⟩ rfl ?_
                                  refine q_aload_n (pc' := 152) ja_M_next_151 rfl rfl ?_
                                  refine q_iload_n (pc' := 153) ja_M_next_152 rfl rfl ?_
                                  refine q_if_eq (pc' := 156) ja_M_next_153 rfl (fun h => absurd h ((by decide : ¬ (1 : Int32) = 0))) (fun _ => ?_)
                                  refine q_iload_n (pc' := 157) ja_M_next_156 rfl rfl ?_
                                  refine q_goto ja_M_next_157 ?_
                                  refine q_putf (pc' := 164) ja_M_next_161 rfl (by decide) rfl rfl rfl ?_
                                  intro s145 e145
                                  refine q_aload_n (pc' := 165) ja_M_next_164 rfl rfl ?_
                                  refine q_dup (pc' := 166) ja_M_next_165 rfl rfl ?_
                                  refine q_getf (pc' := 169) (v := .int (s145 146 40)) ja_M_next_166 rfl (by decide) ⟨rfl, by decide⟩ rfl ?_
                                  refine q_iconst (pc' := 170) ja_M_next_169 rfl 1 (by decide) ?_
                                  refine q_iadd (pc' := 171) ja_M_next_170 rfl ?_
                                  refine q_putf (pc' := 174) ja_M_next_171 rfl (by decide) rfl rfl rfl ?_
                                  intro s146 e146
                                  exact q_vret ja_M_next_174 rfl (k82 h82 h84 h85 s77 e77 h87 h88 h126 h127 h145 h146 h148 h150 h152 h154 h156 h158 h159 s145 e145 s146 e146)
                                · intro h160
                                  refine q_iload_n (pc' := 140) ja_M_next_139 rfl rfl ?_
                                  refine q_bipush (pc' := 142) ja_M_next_140 rfl 61 (by decide) ?_
                                  refine q_ic_ne (pc' := 145) ja_M_next_142 rfl ?_ ?_
                                  · intro h161
                                    refine q_iconst (pc' := 150) ja_M_next_149 rfl 0 (by decide) ?_
                                    refine q_istore_n (pc' := 151) (ls' := [some (.ref 146), some (.int (s77 162 (s77 146 40).toNatClampNeg)), some (.int 0)]) ja_M_next_150 rfl ⟨Nat.le_of_ble_eq_true rfl, rfl⟩ rfl ?_
                                    refine q_aload_n (pc' := 152) ja_M_next_151 rfl rfl ?_
                                    refine q_iload_n (pc' := 153) ja_M_next_152 rfl rfl ?_
                                    refine q_if_eq (pc' := 156) ja_M_next_153 rfl (fun _ => ?_) (fun h => absurd ((by decide : (0 : Int32) = 0)) h)
                                    refine q_iconst (pc' := 161) ja_M_next_160 rfl 2 (by decide) ?_
                                    refine q_putf (pc' := 164) ja_M_next_161 rfl (by decide) rfl rfl rfl ?_
                                    intro s147 e147
                                    refine q_aload_n (pc' := 165) ja_M_next_164 rfl rfl ?_
                                    refine q_dup (pc' := 166) ja_M_next_165 rfl rfl ?_
                                    refine q_getf (pc' := 169) (v := .int (s147 146 40)) ja_M_next_166 rfl (by decide) ⟨rfl, by decide⟩ rfl ?_
                                    refine q_iconst (pc' := 170) ja_M_next_169 rfl 1 (by decide) ?_
                                    refine q_iadd (pc' := 171) ja_M_next_170 rfl ?_
                                    refine q_putf (pc' := 174) ja_M_next_171 rfl (by decide) rfl rfl rfl ?_
                                    intro s148 e148
                                    exact q_vret ja_M_next_174 rfl (k83 h82 h84 h85 s77 e77 h87 h88 h126 h127 h145 h146 h148 h150 h152 h154 h156 h158 h160 h161 s147 e147 s148 e148)
                                  · intro h162
                                    refine q_iconst (pc' := 146) ja_M_next_145 rfl 1 (by decide) ?_
                                    refine q_goto ja_M_next_146 ?_
                                    refine q_istore_n (pc' := 151) (ls' := [some (.ref 146), some (.int (s77 162 (s77 146 40).toNatClampNeg)), some (.int 1)]) ja_M_next_150 rfl ⟨Nat.le_of_ble_eq_true rfl, rfl⟩ rfl ?_
                                    refine q_aload_n (pc' := 152) ja_M_next_151 rfl rfl ?_
                                    refine q_iload_n (pc' := 153) ja_M_next_152 rfl rfl ?_
                                    refine q_if_eq (pc' := 156) ja_M_next_153 rfl (fun h => absurd h ((by decide : ¬ (1 : Int32) = 0))) (fun _ => ?_)
                                    refine q_iload_n (pc' := 157) ja_M_next_156 rfl rfl ?_
                                    refine q_goto ja_M_next_157 ?_
                                    refine q_putf (pc' := 164) ja_M_next_161 rfl (by decide) rfl rfl rfl ?_
                                    intro s149 e149
                                    refine q_aload_n (pc' := 165) ja_M_next_164 rfl rfl ?_
                                    refine q_dup (pc' := 166) ja_M_next_165 rfl rfl ?_
                                    refine q_getf (pc' := 169) (v := .int (s149 146 40)) ja_M_next_166 rfl (by decide) ⟨rfl, by decide⟩ rfl ?_
                                    refine q_iconst (pc' := 170) ja_M_next_169 rfl 1 (by decide) ?_
                                    refine q_iadd (pc' := 171) ja_M_next_170 rfl ?_
                                    refine q_putf (pc' := 174) ja_M_next_171 rfl (by decide) rfl rfl rfl ?_
                                    intro s150 e150
                                    exact q_vret ja_M_next_174 rfl (k84 h82 h84 h85 s77 e77 h87 h88 h126 h127 h145 h146 h148 h150 h152 h154 h156 h158 h160 h162 s149 e149 s150 e150)
                  · intro h163
                    refine q_iconst (pc' := 13) ja_M_isDigit_12 rfl 1 (by decide) ?_
                    refine q_goto ja_M_isDigit_13 ?_
                    refine q_iret ja_M_isDigit_17 rfl (by decide) ?_
                    show q_W _ _ _ _ 87 [some (.ref 146), some (.int (s77 162 (s77 146 40).toNatClampNeg)), none] [.int 1] s77
                    refine q_if_eq (pc' := 90) ja_M_next_87 rfl (fun h => absurd h ((by decide : ¬ (1 : Int32) = 0))) (fun _ => ?_)
                    refine q_aload_n (pc' := 91) ja_M_next_90 rfl rfl ?_
                    refine q_virt (pc' := 94) (c := 146) (as := []) (r := []) ja_M_next_91 rfl rfl rfl (by decide) ⟨rfl, by decide⟩ ?_
                    exact (k85 h82 h84 h85 s77 e77 h87 h88 h126 h127 h145 h163)
              · intro h164
                refine q_iconst (pc' := 13) ja_M_isLetter_12 rfl 1 (by decide) ?_
                refine q_goto ja_M_isLetter_13 ?_
                refine q_iret ja_M_isLetter_17 rfl (by decide) ?_
                show q_W _ _ _ _ 73 [some (.ref 146), some (.int (s77 162 (s77 146 40).toNatClampNeg)), none] [.int 1] s77
                refine q_if_eq (pc' := 76) ja_M_next_73 rfl (fun h => absurd h ((by decide : ¬ (1 : Int32) = 0))) (fun _ => ?_)
                refine q_aload_n (pc' := 77) ja_M_next_76 rfl rfl ?_
                refine q_virt (pc' := 80) (c := 146) (as := []) (r := []) ja_M_next_77 rfl rfl rfl (by decide) ⟨rfl, by decide⟩ ?_
                exact (k86 h82 h84 h85 s77 e77 h87 h88 h126 h164)
          · intro h165
            refine q_aload_n (pc' := 62) ja_M_next_61 rfl rfl ?_
            refine q_iconst (pc' := 63) ja_M_next_62 rfl 0 (by decide) ?_
            refine q_putf (pc' := 66) ja_M_next_63 rfl (by decide) rfl rfl rfl ?_
            intro s151 e151
            refine q_goto ja_M_next_66 ?_
            exact q_vret ja_M_next_174 rfl (k87 h82 h84 h85 s77 e77 h87 h165 s151 e151)
      · intro h166
        refine q_aload_n (pc' := 27) ja_M_next_26 rfl rfl ?_
        refine q_dup (pc' := 28) ja_M_next_27 rfl rfl ?_
        refine q_getf (pc' := 31) (v := .int (s 146 40)) ja_M_next_28 rfl (by decide) ⟨rfl, by decide⟩ rfl ?_
        refine q_iconst (pc' := 32) ja_M_next_31 rfl 1 (by decide) ?_
        refine q_iadd (pc' := 33) ja_M_next_32 rfl ?_
        refine q_putf (pc' := 36) ja_M_next_33 rfl (by decide) rfl rfl rfl ?_
        intro s152 e152
        refine q_goto ja_M_next_36 ?_
        exact (k88 h82 h84 h166 s152 e152)
set_option maxRecDepth 20000 in
theorem t_M_next_80 {G : jv_X} {d : Nat} {B : Option Value → jg_H → Prop} {s : jg_H} (x1 : Int32)
    (k1 : B none s) :
    q_W G (d + 1) jm_M_next B 80 [some (.ref 146), some (.int x1), none] [] s := by
  refine q_goto ja_M_next_80 ?_
  exact q_vret ja_M_next_174 rfl k1
set_option maxRecDepth 20000 in
theorem t_M_next_94 {G : jv_X} {d : Nat} {B : Option Value → jg_H → Prop} {s : jg_H} (x1 : Int32)
    (k1 : B none s) :
    q_W G (d + 1) jm_M_next B 94 [some (.ref 146), some (.int x1), none] [] s := by
  refine q_goto ja_M_next_94 ?_
  exact q_vret ja_M_next_174 rfl k1
set_option maxRecDepth 20000 in
theorem t_M_nextOf {G : jv_X} {d : Nat} {B : Option Value → jg_H → Prop} {s : jg_H} (a1 : Int32) (a2 : Int32) (a3 : Int32)
    (k1 : q_W G d jm_M_nextOf B 3 [some (.ref 146), some (.int a1), some (.int a2), some (.int a3), some (.int a2)] [] s) :
    q_P G (d + 1) 213 [.ref 146, .int a1, .int a2, .int a3] s B := by
  refine q_in (M := jm_M_nextOf) rfl (Nat.le_of_ble_eq_true rfl) (ls := [some (.ref 146), some (.int a1), some (.int a2), some (.int a3), none]) rfl ?_
  refine q_iload_n (pc' := 1) ja_M_nextOf_0 rfl rfl ?_
  refine q_istore (pc' := 3) (ls' := [some (.ref 146), some (.int a1), some (.int a2), some (.int a3), some (.int a2)]) ja_M_nextOf_1 rfl ⟨Nat.le_of_ble_eq_true rfl, rfl⟩ rfl ?_
  exact k1
set_option maxRecDepth 20000 in
theorem t_M_nextOf_3 {G : jv_X} {d : Nat} {B : Option Value → jg_H → Prop} {s : jg_H} (x1 : Int32) (x2 : Int32) (x3 : Int32) (x4 : Int32)
    (k1 : jv_in x1 8 = true)
    (k2 : ¬ x4 < (s 153 x1.toNatClampNeg) → B (some (.int x4)) s)
    (k3 : x4 < (s 153 x1.toNatClampNeg) → jv_in ((10 * x1) + x4) 80 = true)
    (k4 : x4 < (s 153 x1.toNatClampNeg) → (s 154 ((10 * x1) + x4).toNatClampNeg) = x3 → B (some (.int x4)) s)
    (k5 : x4 < (s 153 x1.toNatClampNeg) → ¬ (s 154 ((10 * x1) + x4).toNatClampNeg) = x3 → q_W G d jm_M_nextOf B 3 [some (.ref 146), some (.int x1), some (.int x2), some (.int x3), some (.int (x4 + 1))] [] s) :
    q_W G d jm_M_nextOf B 3 [some (.ref 146), some (.int x1), some (.int x2), some (.int x3), some (.int x4)] [] s := by
  refine q_iload (pc' := 5) ja_M_nextOf_3 rfl rfl ?_
  refine q_aload_n (pc' := 6) ja_M_nextOf_5 rfl rfl ?_
  refine q_getf (pc' := 9) (v := .ref 153) ja_M_nextOf_6 rfl (by decide) ⟨rfl, by decide⟩ rfl ?_
  refine q_iload_n (pc' := 10) ja_M_nextOf_9 rfl rfl ?_
  refine q_iald (pc' := 11) (v := .int (s 153 x1.toNatClampNeg)) ja_M_nextOf_10 rfl (by decide) (l := 8) rfl k1 rfl ?_
  refine q_ic_ge (pc' := 14) ja_M_nextOf_11 rfl ?_ ?_
  · intro h1
    refine q_iload (pc' := 38) ja_M_nextOf_36 rfl rfl ?_
    exact q_iret ja_M_nextOf_38 rfl rfl (k2 h1)
  · intro h2
    refine q_aload_n (pc' := 15) ja_M_nextOf_14 rfl rfl ?_
    refine q_getf (pc' := 18) (v := .ref 154) ja_M_nextOf_15 rfl (by decide) ⟨rfl, by decide⟩ rfl ?_
    refine q_bipush (pc' := 20) ja_M_nextOf_18 rfl 10 (by decide) ?_
    refine q_iload_n (pc' := 21) ja_M_nextOf_20 rfl rfl ?_
    refine q_imul (pc' := 22) ja_M_nextOf_21 rfl ?_
    refine q_iload (pc' := 24) ja_M_nextOf_22 rfl rfl ?_
    refine q_iadd (pc' := 25) ja_M_nextOf_24 rfl ?_
    refine q_iald (pc' := 26) (v := .int (s 154 ((10 * x1) + x4).toNatClampNeg)) ja_M_nextOf_25 rfl (by decide) (l := 80) rfl (k3 h2) rfl ?_
    refine q_iload_n (pc' := 27) ja_M_nextOf_26 rfl rfl ?_
    refine q_ic_eq (pc' := 30) ja_M_nextOf_27 rfl ?_ ?_
    · intro h3
      refine q_iload (pc' := 38) ja_M_nextOf_36 rfl rfl ?_
      exact q_iret ja_M_nextOf_38 rfl rfl (k4 h2 h3)
    · intro h4
      refine q_iinc (pc' := 33) (ls' := [some (.ref 146), some (.int x1), some (.int x2), some (.int x3), some (.int (x4 + 1))]) ja_M_nextOf_30 rfl rfl (x4 + 1) rfl ⟨Nat.le_of_ble_eq_true rfl, rfl⟩ rfl ?_
      refine q_goto ja_M_nextOf_33 ?_
      exact (k5 h2 h4)
set_option maxRecDepth 20000 in
theorem t_M_not {G : jv_X} {d : Nat} {B : Option Value → jg_H → Prop} {s : jg_H} 
    (k1 : (s 146 44) = (-1) → ¬ (s 146 42) = 306 → q_P G (d + 1) 148 [.ref 146] s (fun v t => q_W G (d + 1) jm_M_not B 47 [some (.ref 146), none] (v.toList ++ []) t))
    (k2 : (s 146 44) = (-1) → (s 146 42) = 306 → q_P G (d + 1) 146 [.ref 146] s (fun v t => q_W G (d + 1) jm_M_not B 22 [some (.ref 146), none] (v.toList ++ []) t))
    (k3 : ¬ (s 146 44) = (-1) → B none s) :
    q_P G (d + 2) 145 [.ref 146] s B := by
  refine q_in (M := jm_M_not) rfl (Nat.le_of_ble_eq_true rfl) (ls := [some (.ref 146), none]) rfl ?_
  refine q_aload_n (pc' := 1) ja_M_not_0 rfl rfl ?_
  refine q_virt (pc' := 4) (c := 146) (as := []) (r := []) ja_M_not_1 rfl rfl rfl (by decide) ⟨rfl, by decide⟩ ?_
  refine q_in (M := jm_M_isWrong) rfl (Nat.le_of_ble_eq_true rfl) (ls := [some (.ref 146)]) rfl ?_
  refine q_aload_n (pc' := 1) ja_M_isWrong_0 rfl rfl ?_
  refine q_getf (pc' := 4) (v := .int (s 146 44)) ja_M_isWrong_1 rfl (by decide) ⟨rfl, by decide⟩ rfl ?_
  refine q_iconst (pc' := 5) ja_M_isWrong_4 rfl (-1) (by decide) ?_
  refine q_ic_eq (pc' := 8) ja_M_isWrong_5 rfl ?_ ?_
  · intro h1
    refine q_iconst (pc' := 13) ja_M_isWrong_12 rfl 0 (by decide) ?_
    refine q_iret ja_M_isWrong_13 rfl (by decide) ?_
    show q_W _ _ _ _ 4 [some (.ref 146), none] [.int 0] s
    refine q_if_eq (pc' := 7) ja_M_not_4 rfl (fun _ => ?_) (fun h => absurd ((by decide : (0 : Int32) = 0)) h)
    refine q_aload_n (pc' := 9) ja_M_not_8 rfl rfl ?_
    refine q_getf (pc' := 12) (v := .int (s 146 42)) ja_M_not_9 rfl (by decide) ⟨rfl, by decide⟩ rfl ?_
    refine q_sipush (pc' := 15) ja_M_not_12 rfl 306 (by decide) ?_
    refine q_ic_ne (pc' := 18) ja_M_not_15 rfl ?_ ?_
    · intro h2
      refine q_aload_n (pc' := 44) ja_M_not_43 rfl rfl ?_
      refine q_virt (pc' := 47) (c := 146) (as := []) (r := []) ja_M_not_44 rfl rfl rfl (by decide) ⟨rfl, by decide⟩ ?_
      exact (k1 h1 h2)
    · intro h3
      refine q_aload_n (pc' := 19) ja_M_not_18 rfl rfl ?_
      refine q_virt (pc' := 22) (c := 146) (as := []) (r := []) ja_M_not_19 rfl rfl rfl (by decide) ⟨rfl, by decide⟩ ?_
      exact (k2 h1 h3)
  · intro h4
    refine q_iconst (pc' := 9) ja_M_isWrong_8 rfl 1 (by decide) ?_
    refine q_goto ja_M_isWrong_9 ?_
    refine q_iret ja_M_isWrong_13 rfl (by decide) ?_
    show q_W _ _ _ _ 4 [some (.ref 146), none] [.int 1] s
    refine q_if_eq (pc' := 7) ja_M_not_4 rfl (fun h => absurd h ((by decide : ¬ (1 : Int32) = 0))) (fun _ => ?_)
    exact q_vret ja_M_not_7 rfl (k3 h4)
set_option maxRecDepth 20000 in
theorem t_M_not_22 {G : jv_X} {d : Nat} {B : Option Value → jg_H → Prop} {s : jg_H} 
    (k1 : q_P G (d + 1) 145 [.ref 146] s (fun v t => q_W G (d + 1) jm_M_not B 26 [some (.ref 146), none] (v.toList ++ []) t)) :
    q_W G (d + 1) jm_M_not B 22 [some (.ref 146), none] [] s := by
  refine q_aload_n (pc' := 23) ja_M_not_22 rfl rfl ?_
  refine q_virt (pc' := 26) (c := 146) (as := []) (r := []) ja_M_not_23 rfl rfl rfl (by decide) ⟨rfl, by decide⟩ ?_
  exact k1
set_option maxRecDepth 20000 in
theorem t_M_not_26 {G : jv_X} {d : Nat} {B : Option Value → jg_H → Prop} {s : jg_H} 
    (k1 : ∀ s1 : jg_H, s1 = jg_up s 146 45 ((s 146 45) - 1) → jv_in ((200 * (s1 146 39)) + (s1 146 46)) 1800 = true)
    (k2 : ∀ s1 : jg_H, s1 = jg_up s 146 45 ((s 146 45) - 1) → ∀ s2 : jg_H, s2 = jg_up s1 163 ((200 * (s1 146 39)) + (s1 146 46)).toNatClampNeg 4 → jv_in ((200 * (s2 146 39)) + (s2 146 46)) 1800 = true)
    (k3 : ∀ s1 : jg_H, s1 = jg_up s 146 45 ((s 146 45) - 1) → ∀ s2 : jg_H, s2 = jg_up s1 163 ((200 * (s1 146 39)) + (s1 146 46)).toNatClampNeg 4 → ∀ s3 : jg_H, s3 = jg_up s2 164 ((200 * (s2 146 39)) + (s2 146 46)).toNatClampNeg 0 → ∀ s4 : jg_H, s4 = jg_up s3 146 46 ((s3 146 46) + 1) → B none s4) :
    q_W G (d + 1) jm_M_not B 26 [some (.ref 146), none] [] s := by
  refine q_aload_n (pc' := 27) ja_M_not_26 rfl rfl ?_
  refine q_dup (pc' := 28) ja_M_not_27 rfl rfl ?_
  refine q_getf (pc' := 31) (v := .int (s 146 45)) ja_M_not_28 rfl (by decide) ⟨rfl, by decide⟩ rfl ?_
  refine q_iconst (pc' := 32) ja_M_not_31 rfl 1 (by decide) ?_
  refine q_isub (pc' := 33) ja_M_not_32 rfl ?_
  refine q_putf (pc' := 36) ja_M_not_33 rfl (by decide) rfl rfl rfl ?_
  intro s1 e1
  refine q_aload_n (pc' := 37) ja_M_not_36 rfl rfl ?_
  refine q_iconst (pc' := 38) ja_M_not_37 rfl 4 (by decide) ?_
  refine q_iconst (pc' := 39) ja_M_not_38 rfl 0 (by decide) ?_
  refine q_virt (pc' := 42) (c := 146) (as := [.int 4, .int 0]) (r := []) ja_M_not_39 rfl rfl rfl (by decide) ⟨rfl, by decide⟩ ?_
  refine q_in (M := jm_M_emit) rfl (Nat.le_of_ble_eq_true rfl) (ls := [some (.ref 146), some (.int 4), some (.int 0)]) rfl ?_
  refine q_aload_n (pc' := 1) ja_M_emit_0 rfl rfl ?_
  refine q_getf (pc' := 4) (v := .ref 163) ja_M_emit_1 rfl (by decide) ⟨rfl, by decide⟩ rfl ?_
  refine q_sipush (pc' := 7) ja_M_emit_4 rfl 200 (by decide) ?_
  refine q_aload_n (pc' := 8) ja_M_emit_7 rfl rfl ?_
  refine q_getf (pc' := 11) (v := .int (s1 146 39)) ja_M_emit_8 rfl (by decide) ⟨rfl, by decide⟩ rfl ?_
  refine q_imul (pc' := 12) ja_M_emit_11 rfl ?_
  refine q_aload_n (pc' := 13) ja_M_emit_12 rfl rfl ?_
  refine q_getf (pc' := 16) (v := .int (s1 146 46)) ja_M_emit_13 rfl (by decide) ⟨rfl, by decide⟩ rfl ?_
  refine q_iadd (pc' := 17) ja_M_emit_16 rfl ?_
  refine q_iload_n (pc' := 18) ja_M_emit_17 rfl rfl ?_
  refine q_iast (pc' := 19) ja_M_emit_18 rfl (by decide) (l := 1800) rfl (k1 s1 e1) ?_
  intro s2 e2
  refine q_aload_n (pc' := 20) ja_M_emit_19 rfl rfl ?_
  refine q_getf (pc' := 23) (v := .ref 164) ja_M_emit_20 rfl (by decide) ⟨rfl, by decide⟩ rfl ?_
  refine q_sipush (pc' := 26) ja_M_emit_23 rfl 200 (by decide) ?_
  refine q_aload_n (pc' := 27) ja_M_emit_26 rfl rfl ?_
  refine q_getf (pc' := 30) (v := .int (s2 146 39)) ja_M_emit_27 rfl (by decide) ⟨rfl, by decide⟩ rfl ?_
  refine q_imul (pc' := 31) ja_M_emit_30 rfl ?_
  refine q_aload_n (pc' := 32) ja_M_emit_31 rfl rfl ?_
  refine q_getf (pc' := 35) (v := .int (s2 146 46)) ja_M_emit_32 rfl (by decide) ⟨rfl, by decide⟩ rfl ?_
  refine q_iadd (pc' := 36) ja_M_emit_35 rfl ?_
  refine q_iload_n (pc' := 37) ja_M_emit_36 rfl rfl ?_
  refine q_iast (pc' := 38) ja_M_emit_37 rfl (by decide) (l := 1800) rfl (k2 s1 e1 s2 e2) ?_
  intro s3 e3
  refine q_aload_n (pc' := 39) ja_M_emit_38 rfl rfl ?_
  refine q_dup (pc' := 40) ja_M_emit_39 rfl rfl ?_
  refine q_getf (pc' := 43) (v := .int (s3 146 46)) ja_M_emit_40 rfl (by decide) ⟨rfl, by decide⟩ rfl ?_
  refine q_iconst (pc' := 44) ja_M_emit_43 rfl 1 (by decide) ?_
  refine q_iadd (pc' := 45) ja_M_emit_44 rfl ?_
  refine q_putf (pc' := 48) ja_M_emit_45 rfl (by decide) rfl rfl rfl ?_
  intro s4 e4
  refine q_vret ja_M_emit_48 rfl ?_
  show q_W _ _ _ _ 42 [some (.ref 146), none] [] s4
  exact q_vret ja_M_not_42 rfl (k3 s1 e1 s2 e2 s3 e3 s4 e4)
set_option maxRecDepth 20000 in
theorem t_M_not_47 {G : jv_X} {d : Nat} {B : Option Value → jg_H → Prop} {s : jg_H} 
    (k1 : (s 146 44) = (-1) → (s 146 42) = 60 → q_P G (d + 1) 134 [.ref 146] s (fun v t => q_W G (d + 1) jm_M_not B 92 [some (.ref 146), some (.int 5)] (v.toList ++ []) t))
    (k2 : (s 146 44) = (-1) → ¬ (s 146 42) = 60 → ¬ (s 146 42) = 61 → B none s)
    (k3 : (s 146 44) = (-1) → ¬ (s 146 42) = 60 → (s 146 42) = 61 → q_P G (d + 1) 134 [.ref 146] s (fun v t => q_W G (d + 1) jm_M_not B 92 [some (.ref 146), some (.int 6)] (v.toList ++ []) t))
    (k4 : ¬ (s 146 44) = (-1) → B none s) :
    q_W G (d + 1) jm_M_not B 47 [some (.ref 146), none] [] s := by
  refine q_aload_n (pc' := 48) ja_M_not_47 rfl rfl ?_
  refine q_virt (pc' := 51) (c := 146) (as := []) (r := []) ja_M_not_48 rfl rfl rfl (by decide) ⟨rfl, by decide⟩ ?_
  refine q_in (M := jm_M_isWrong) rfl (Nat.le_of_ble_eq_true rfl) (ls := [some (.ref 146)]) rfl ?_
  refine q_aload_n (pc' := 1) ja_M_isWrong_0 rfl rfl ?_
  refine q_getf (pc' := 4) (v := .int (s 146 44)) ja_M_isWrong_1 rfl (by decide) ⟨rfl, by decide⟩ rfl ?_
  refine q_iconst (pc' := 5) ja_M_isWrong_4 rfl (-1) (by decide) ?_
  refine q_ic_eq (pc' := 8) ja_M_isWrong_5 rfl ?_ ?_
  · intro h1
    refine q_iconst (pc' := 13) ja_M_isWrong_12 rfl 0 (by decide) ?_
    refine q_iret ja_M_isWrong_13 rfl (by decide) ?_
    show q_W _ _ _ _ 51 [some (.ref 146), none] [.int 0] s
    refine q_if_ne (pc' := 54) ja_M_not_51 rfl (fun h => absurd ((by decide : (0 : Int32) = 0)) h) (fun _ => ?_)
    refine q_aload_n (pc' := 55) ja_M_not_54 rfl rfl ?_
    refine q_getf (pc' := 58) (v := .int (s 146 42)) ja_M_not_55 rfl (by decide) ⟨rfl, by decide⟩ rfl ?_
    refine q_bipush (pc' := 60) ja_M_not_58 rfl 60 (by decide) ?_
    refine q_ic_eq (pc' := 63) ja_M_not_60 rfl ?_ ?_
    · intro h2
      refine q_aload_n (pc' := 73) ja_M_not_72 rfl rfl ?_
      refine q_getf (pc' := 76) (v := .int (s 146 42)) ja_M_not_73 rfl (by decide) ⟨rfl, by decide⟩ rfl ?_
      refine q_bipush (pc' := 78) ja_M_not_76 rfl 60 (by decide) ?_
      refine q_ic_ne (pc' := 81) ja_M_not_78 rfl (fun h => absurd (h2) h) (fun _ => ?_)
      refine q_iconst (pc' := 82) ja_M_not_81 rfl 5 (by decide) ?_
      refine q_goto ja_M_not_82 ?_
      refine q_istore_n (pc' := 88) (ls' := [some (.ref 146), some (.int 5)]) ja_M_not_87 rfl ⟨Nat.le_of_ble_eq_true rfl, rfl⟩ rfl ?_
      refine q_aload_n (pc' := 89) ja_M_not_88 rfl rfl ?_
      refine q_virt (pc' := 92) (c := 146) (as := []) (r := []) ja_M_not_89 rfl rfl rfl (by decide) ⟨rfl, by decide⟩ ?_
      exact (k1 h1 h2)
    · intro h3
      refine q_aload_n (pc' := 64) ja_M_not_63 rfl rfl ?_
      refine q_getf (pc' := 67) (v := .int (s 146 42)) ja_M_not_64 rfl (by decide) ⟨rfl, by decide⟩ rfl ?_
      refine q_bipush (pc' := 69) ja_M_not_67 rfl 61 (by decide) ?_
      refine q_ic_ne (pc' := 72) ja_M_not_69 rfl ?_ ?_
      · intro h4
        exact q_vret ja_M_not_102 rfl (k2 h1 h3 h4)
      · intro h5
        refine q_aload_n (pc' := 73) ja_M_not_72 rfl rfl ?_
        refine q_getf (pc' := 76) (v := .int (s 146 42)) ja_M_not_73 rfl (by decide) ⟨rfl, by decide⟩ rfl ?_
        refine q_bipush (pc' := 78) ja_M_not_76 rfl 60 (by decide) ?_
        refine q_ic_ne (pc' := 81) ja_M_not_78 rfl (fun _ => ?_) (fun h => absurd h (h3))
        refine q_bipush (pc' := 87) ja_M_not_85 rfl 6 (by decide) ?_
        refine q_istore_n (pc' := 88) (ls' := [some (.ref 146), some (.int 6)]) ja_M_not_87 rfl ⟨Nat.le_of_ble_eq_true rfl, rfl⟩ rfl ?_
        refine q_aload_n (pc' := 89) ja_M_not_88 rfl rfl ?_
        refine q_virt (pc' := 92) (c := 146) (as := []) (r := []) ja_M_not_89 rfl rfl rfl (by decide) ⟨rfl, by decide⟩ ?_
        exact (k3 h1 h3 h5)
  · intro h6
    refine q_iconst (pc' := 9) ja_M_isWrong_8 rfl 1 (by decide) ?_
    refine q_goto ja_M_isWrong_9 ?_
    refine q_iret ja_M_isWrong_13 rfl (by decide) ?_
    show q_W _ _ _ _ 51 [some (.ref 146), none] [.int 1] s
    refine q_if_ne (pc' := 54) ja_M_not_51 rfl (fun _ => ?_) (fun h => absurd h ((by decide : ¬ (1 : Int32) = 0)))
    exact q_vret ja_M_not_102 rfl (k4 h6)
set_option maxRecDepth 20000 in
theorem t_M_not_92 {G : jv_X} {d : Nat} {B : Option Value → jg_H → Prop} {s : jg_H} (x1 : Int32)
    (k1 : q_P G (d + 1) 148 [.ref 146] s (fun v t => q_W G (d + 1) jm_M_not B 96 [some (.ref 146), some (.int x1)] (v.toList ++ []) t)) :
    q_W G (d + 1) jm_M_not B 92 [some (.ref 146), some (.int x1)] [] s := by
  refine q_aload_n (pc' := 93) ja_M_not_92 rfl rfl ?_
  refine q_virt (pc' := 96) (c := 146) (as := []) (r := []) ja_M_not_93 rfl rfl rfl (by decide) ⟨rfl, by decide⟩ ?_
  exact k1
set_option maxRecDepth 20000 in
theorem t_M_not_96 {G : jv_X} {d : Nat} {B : Option Value → jg_H → Prop} {s : jg_H} (x1 : Int32)
    (k1 : jv_in ((200 * (s 146 39)) + (s 146 46)) 1800 = true)
    (k2 : ∀ s1 : jg_H, s1 = jg_up s 163 ((200 * (s 146 39)) + (s 146 46)).toNatClampNeg x1 → jv_in ((200 * (s1 146 39)) + (s1 146 46)) 1800 = true)
    (k3 : ∀ s1 : jg_H, s1 = jg_up s 163 ((200 * (s 146 39)) + (s 146 46)).toNatClampNeg x1 → ∀ s2 : jg_H, s2 = jg_up s1 164 ((200 * (s1 146 39)) + (s1 146 46)).toNatClampNeg 0 → ∀ s3 : jg_H, s3 = jg_up s2 146 46 ((s2 146 46) + 1) → B none s3) :
    q_W G (d + 1) jm_M_not B 96 [some (.ref 146), some (.int x1)] [] s := by
  refine q_aload_n (pc' := 97) ja_M_not_96 rfl rfl ?_
  refine q_iload_n (pc' := 98) ja_M_not_97 rfl rfl ?_
  refine q_iconst (pc' := 99) ja_M_not_98 rfl 0 (by decide) ?_
  refine q_virt (pc' := 102) (c := 146) (as := [.int x1, .int 0]) (r := []) ja_M_not_99 rfl rfl rfl (by decide) ⟨rfl, by decide⟩ ?_
  refine q_in (M := jm_M_emit) rfl (Nat.le_of_ble_eq_true rfl) (ls := [some (.ref 146), some (.int x1), some (.int 0)]) rfl ?_
  refine q_aload_n (pc' := 1) ja_M_emit_0 rfl rfl ?_
  refine q_getf (pc' := 4) (v := .ref 163) ja_M_emit_1 rfl (by decide) ⟨rfl, by decide⟩ rfl ?_
  refine q_sipush (pc' := 7) ja_M_emit_4 rfl 200 (by decide) ?_
  refine q_aload_n (pc' := 8) ja_M_emit_7 rfl rfl ?_
  refine q_getf (pc' := 11) (v := .int (s 146 39)) ja_M_emit_8 rfl (by decide) ⟨rfl, by decide⟩ rfl ?_
  refine q_imul (pc' := 12) ja_M_emit_11 rfl ?_
  refine q_aload_n (pc' := 13) ja_M_emit_12 rfl rfl ?_
  refine q_getf (pc' := 16) (v := .int (s 146 46)) ja_M_emit_13 rfl (by decide) ⟨rfl, by decide⟩ rfl ?_
  refine q_iadd (pc' := 17) ja_M_emit_16 rfl ?_
  refine q_iload_n (pc' := 18) ja_M_emit_17 rfl rfl ?_
  refine q_iast (pc' := 19) ja_M_emit_18 rfl (by decide) (l := 1800) rfl k1 ?_
  intro s1 e1
  refine q_aload_n (pc' := 20) ja_M_emit_19 rfl rfl ?_
  refine q_getf (pc' := 23) (v := .ref 164) ja_M_emit_20 rfl (by decide) ⟨rfl, by decide⟩ rfl ?_
  refine q_sipush (pc' := 26) ja_M_emit_23 rfl 200 (by decide) ?_
  refine q_aload_n (pc' := 27) ja_M_emit_26 rfl rfl ?_
  refine q_getf (pc' := 30) (v := .int (s1 146 39)) ja_M_emit_27 rfl (by decide) ⟨rfl, by decide⟩ rfl ?_
  refine q_imul (pc' := 31) ja_M_emit_30 rfl ?_
  refine q_aload_n (pc' := 32) ja_M_emit_31 rfl rfl ?_
  refine q_getf (pc' := 35) (v := .int (s1 146 46)) ja_M_emit_32 rfl (by decide) ⟨rfl, by decide⟩ rfl ?_
  refine q_iadd (pc' := 36) ja_M_emit_35 rfl ?_
  refine q_iload_n (pc' := 37) ja_M_emit_36 rfl rfl ?_
  refine q_iast (pc' := 38) ja_M_emit_37 rfl (by decide) (l := 1800) rfl (k2 s1 e1) ?_
  intro s2 e2
  refine q_aload_n (pc' := 39) ja_M_emit_38 rfl rfl ?_
  refine q_dup (pc' := 40) ja_M_emit_39 rfl rfl ?_
  refine q_getf (pc' := 43) (v := .int (s2 146 46)) ja_M_emit_40 rfl (by decide) ⟨rfl, by decide⟩ rfl ?_
  refine q_iconst (pc' := 44) ja_M_emit_43 rfl 1 (by decide) ?_
  refine q_iadd (pc' := 45) ja_M_emit_44 rfl ?_
  refine q_putf (pc' := 48) ja_M_emit_45 rfl (by decide) rfl rfl rfl ?_
  intro s3 e3
  refine q_vret ja_M_emit_48 rfl ?_
  show q_W _ _ _ _ 102 [some (.ref 146), some (.int x1)] [] s3
  exact q_vret ja_M_not_102 rfl (k3 s1 e1 s2 e2 s3 e3)
set_option maxRecDepth 20000 in
theorem t_M_number {G : jv_X} {d : Nat} {B : Option Value → jg_H → Prop} {s : jg_H} 
    (k1 : ∀ s1 : jg_H, s1 = jg_up s 146 43 0 → q_W G (d + 1) jm_M_number B 5 [some (.ref 146)] [] s1) :
    q_P G (d + 2) 139 [.ref 146] s B := by
  refine q_in (M := jm_M_number) rfl (Nat.le_of_ble_eq_true rfl) (ls := [some (.ref 146)]) rfl ?_
  refine q_aload_n (pc' := 1) ja_M_number_0 rfl rfl ?_
  refine q_iconst (pc' := 2) ja_M_number_1 rfl 0 (by decide) ?_
  refine q_putf (pc' := 5) ja_M_number_2 rfl (by decide) rfl rfl rfl ?_
  intro s1 e1
  exact (k1 s1 e1)
set_option maxRecDepth 20000 in
theorem t_M_number_5 {G : jv_X} {d : Nat} {B : Option Value → jg_H → Prop} {s : jg_H} 
    (k1 : ¬ (s 146 40) < (s 146 38) → ((s 146 40) - (s 146 41)) ≤ 4 → ∀ s1 : jg_H, s1 = jg_up s 146 42 1 → B none s1)
    (k2 : ¬ (s 146 40) < (s 146 38) → ¬ ((s 146 40) - (s 146 41)) ≤ 4 → ∀ s2 : jg_H, s2 = jg_up s 146 42 2 → B none s2)
    (k3 : (s 146 40) < (s 146 38) → jv_in (s 146 40) 200 = true)
    (k4 : (s 146 40) < (s 146 38) → (s 162 (s 146 40).toNatClampNeg) < 48 → ((s 146 40) - (s 146 41)) ≤ 4 → ∀ s3 : jg_H, s3 = jg_up s 146 42 1 → B none s3)
    (k5 : (s 146 40) < (s 146 38) → (s 162 (s 146 40).toNatClampNeg) < 48 → ¬ ((s 146 40) - (s 146 41)) ≤ 4 → ∀ s4 : jg_H, s4 = jg_up s 146 42 2 → B none s4)
    (k6 : (s 146 40) < (s 146 38) → ¬ (s 162 (s 146 40).toNatClampNeg) < 48 → ¬ (s 162 (s 146 40).toNatClampNeg) ≤ 57 → ((s 146 40) - (s 146 41)) ≤ 4 → ∀ s5 : jg_H, s5 = jg_up s 146 42 1 → B none s5)
    (k7 : (s 146 40) < (s 146 38) → ¬ (s 162 (s 146 40).toNatClampNeg) < 48 → ¬ (s 162 (s 146 40).toNatClampNeg) ≤ 57 → ¬ ((s 146 40) - (s 146 41)) ≤ 4 → ∀ s6 : jg_H, s6 = jg_up s 146 42 2 → B none s6)
    (k8 : (s 146 40) < (s 146 38) → ¬ (s 162 (s 146 40).toNatClampNeg) < 48 → (s 162 (s 146 40).toNatClampNeg) ≤ 57 → ¬ ((s 146 40) - (s 146 41)) < 4 → ∀ s7 : jg_H, s7 = jg_up s 146 43 (s 146 43) → ∀ s8 : jg_H, s8 = jg_up s7 146 40 ((s7 146 40) + 1) → q_W G (d + 1) jm_M_number B 5 [some (.ref 146)] [] s8)
    (k9 : (s 146 40) < (s 146 38) → ¬ (s 162 (s 146 40).toNatClampNeg) < 48 → (s 162 (s 146 40).toNatClampNeg) ≤ 57 → ((s 146 40) - (s 146 41)) < 4 → jv_in (s 146 40) 200 = true)
    (k10 : (s 146 40) < (s 146 38) → ¬ (s 162 (s 146 40).toNatClampNeg) < 48 → (s 162 (s 146 40).toNatClampNeg) ≤ 57 → ((s 146 40) - (s 146 41)) < 4 → ∀ s9 : jg_H, s9 = jg_up s 146 43 (((10 * (s 146 43)) + (s 162 (s 146 40).toNatClampNeg)) - 48) → ∀ s10 : jg_H, s10 = jg_up s9 146 40 ((s9 146 40) + 1) → q_W G (d + 1) jm_M_number B 5 [some (.ref 146)] [] s10) :
    q_W G (d + 1) jm_M_number B 5 [some (.ref 146)] [] s := by
  refine q_aload_n (pc' := 6) ja_M_number_5 rfl rfl ?_
  refine q_aload_n (pc' := 7) ja_M_number_6 rfl rfl ?_
  refine q_getf (pc' := 10) (v := .int (s 146 40)) ja_M_number_7 rfl (by decide) ⟨rfl, by decide⟩ rfl ?_
  refine q_virt (pc' := 13) (c := 146) (as := [.int (s 146 40)]) (r := []) ja_M_number_10 rfl rfl rfl (by decide) ⟨rfl, by decide⟩ ?_
  refine q_in (M := jm_M_byteAt) rfl (Nat.le_of_ble_eq_true rfl) (ls := [some (.ref 146), some (.int (s 146 40))]) rfl ?_
  refine q_iload_n (pc' := 1) ja_M_byteAt_0 rfl rfl ?_
  refine q_aload_n (pc' := 2) ja_M_byteAt_1 rfl rfl ?_
  refine q_getf (pc' := 5) (v := .int (s 146 38)) ja_M_byteAt_2 rfl (by decide) ⟨rfl, by decide⟩ rfl ?_
  refine q_ic_ge (pc' := 8) ja_M_byteAt_5 rfl ?_ ?_
  · intro h1
    refine q_iconst (pc' := 18) ja_M_byteAt_17 rfl (-1) (by decide) ?_
    refine q_iret ja_M_byteAt_18 rfl rfl ?_
    show q_W _ _ _ _ 13 [some (.ref 146)] [.int (-1)] s
    refine q_stat (pc' := 16) (as := [.int (-1)]) (r := []) ja_M_number_13 rfl (by decide) rfl rfl ?_
    refine q_in (M := jm_M_isDigit) rfl (Nat.le_of_ble_eq_true rfl) (ls := [some (.int (-1))]) rfl ?_
    refine q_iload_n (pc' := 1) ja_M_isDigit_0 rfl rfl ?_
    refine q_bipush (pc' := 3) ja_M_isDigit_1 rfl 48 (by decide) ?_
    refine q_ic_lt (pc' := 6) ja_M_isDigit_3 rfl (fun _ => ?_) (fun h => absurd ((by decide : (-1 : Int32) < 48)) h)
    refine q_iconst (pc' := 17) ja_M_isDigit_16 rfl 0 (by decide) ?_
    refine q_iret ja_M_isDigit_17 rfl (by decide) ?_
    show q_W _ _ _ _ 16 [some (.ref 146)] [.int 0] s
    refine q_if_eq (pc' := 19) ja_M_number_16 rfl (fun _ => ?_) (fun h => absurd ((by decide : (0 : Int32) = 0)) h)
    refine q_aload_n (pc' := 76) ja_M_number_75 rfl rfl ?_
    refine q_aload_n (pc' := 77) ja_M_number_76 rfl rfl ?_
    refine q_getf (pc' := 80) (v := .int (s 146 40)) ja_M_number_77 rfl (by decide) ⟨rfl, by decide⟩ rfl ?_
    refine q_aload_n (pc' := 81) ja_M_number_80 rfl rfl ?_
    refine q_getf (pc' := 84) (v := .int (s 146 41)) ja_M_number_81 rfl (by decide) ⟨rfl, by decide⟩ rfl ?_
    refine q_isub (pc' := 85) ja_M_number_84 rfl ?_
    refine q_iconst (pc' := 86) ja_M_number_85 rfl 4 (by decide) ?_
    refine q_ic_le (pc' := 89) ja_M_number_86 rfl ?_ ?_
    · intro h2
      refine q_iconst (pc' := 94) ja_M_number_93 rfl 1 (by decide) ?_
      refine q_putf (pc' := 97) ja_M_number_94 rfl (by decide) rfl rfl rfl ?_
      intro s1 e1
      exact q_vret ja_M_number_97 rfl (k1 h1 h2 s1 e1)
    · intro h3
      refine q_iconst (pc' := 90) ja_M_number_89 rfl 2 (by decide) ?_
      refine q_goto ja_M_number_90 ?_
      refine q_putf (pc' := 97) ja_M_number_94 rfl (by decide) rfl rfl rfl ?_
      intro s2 e2
      exact q_vret ja_M_number_97 rfl (k2 h1 h3 s2 e2)
  · intro h4
    refine q_aload_n (pc' := 9) ja_M_byteAt_8 rfl rfl ?_
    refine q_getf (pc' := 12) (v := .ref 162) ja_M_byteAt_9 rfl (by decide) ⟨rfl, by decide⟩ rfl ?_
    refine q_iload_n (pc' := 13) ja_M_byteAt_12 rfl rfl ?_
    refine q_iald (pc' := 14) (v := .int (s 162 (s 146 40).toNatClampNeg)) ja_M_byteAt_13 rfl (by decide) (l := 200) rfl (k3 h4) rfl ?_
    refine q_goto ja_M_byteAt_14 ?_
    refine q_iret ja_M_byteAt_18 rfl rfl ?_
    show q_W _ _ _ _ 13 [some (.ref 146)] [.int (s 162 (s 146 40).toNatClampNeg)] s
    refine q_stat (pc' := 16) (as := [.int (s 162 (s 146 40).toNatClampNeg)]) (r := []) ja_M_number_13 rfl (by decide) rfl rfl ?_
    refine q_in (M := jm_M_isDigit) rfl (Nat.le_of_ble_eq_true rfl) (ls := [some (.int (s 162 (s 146 40).toNatClampNeg))]) rfl ?_
    refine q_iload_n (pc' := 1) ja_M_isDigit_0 rfl rfl ?_
    refine q_bipush (pc' := 3) ja_M_isDigit_1 rfl 48 (by decide) ?_
    refine q_ic_lt (pc' := 6) ja_M_isDigit_3 rfl ?_ ?_
    · intro h5
      refine q_iconst (pc' := 17) ja_M_isDigit_16 rfl 0 (by decide) ?_
      refine q_iret ja_M_isDigit_17 rfl (by decide) ?_
      show q_W _ _ _ _ 16 [some (.ref 146)] [.int 0] s
      refine q_if_eq (pc' := 19) ja_M_number_16 rfl (fun _ => ?_) (fun h => absurd ((by decide : (0 : Int32) = 0)) h)
      refine q_aload_n (pc' := 76) ja_M_number_75 rfl rfl ?_
      refine q_aload_n (pc' := 77) ja_M_number_76 rfl rfl ?_
      refine q_getf (pc' := 80) (v := .int (s 146 40)) ja_M_number_77 rfl (by decide) ⟨rfl, by decide⟩ rfl ?_
      refine q_aload_n (pc' := 81) ja_M_number_80 rfl rfl ?_
      refine q_getf (pc' := 84) (v := .int (s 146 41)) ja_M_number_81 rfl (by decide) ⟨rfl, by decide⟩ rfl ?_
      refine q_isub (pc' := 85) ja_M_number_84 rfl ?_
      refine q_iconst (pc' := 86) ja_M_number_85 rfl 4 (by decide) ?_
      refine q_ic_le (pc' := 89) ja_M_number_86 rfl ?_ ?_
      · intro h6
        refine q_iconst (pc' := 94) ja_M_number_93 rfl 1 (by decide) ?_
        refine q_putf (pc' := 97) ja_M_number_94 rfl (by decide) rfl rfl rfl ?_
        intro s3 e3
        exact q_vret ja_M_number_97 rfl (k4 h4 h5 h6 s3 e3)
      · intro h7
        refine q_iconst (pc' := 90) ja_M_number_89 rfl 2 (by decide) ?_
        refine q_goto ja_M_number_90 ?_
        refine q_putf (pc' := 97) ja_M_number_94 rfl (by decide) rfl rfl rfl ?_
        intro s4 e4
        exact q_vret ja_M_number_97 rfl (k5 h4 h5 h7 s4 e4)
    · intro h8
      refine q_iload_n (pc' := 7) ja_M_isDigit_6 rfl rfl ?_
      refine q_bipush (pc' := 9) ja_M_isDigit_7 rfl 57 (by decide) ?_
      refine q_ic_gt (pc' := 12) ja_M_isDigit_9 rfl ?_ ?_
      · intro h9
        refine q_iconst (pc' := 17) ja_M_isDigit_16 rfl 0 (by decide) ?_
        refine q_iret ja_M_isDigit_17 rfl (by decide) ?_
        show q_W _ _ _ _ 16 [some (.ref 146)] [.int 0] s
        refine q_if_eq (pc' := 19) ja_M_number_16 rfl (fun _ => ?_) (fun h => absurd ((by decide : (0 : Int32) = 0)) h)
        refine q_aload_n (pc' := 76) ja_M_number_75 rfl rfl ?_
        refine q_aload_n (pc' := 77) ja_M_number_76 rfl rfl ?_
        refine q_getf (pc' := 80) (v := .int (s 146 40)) ja_M_number_77 rfl (by decide) ⟨rfl, by decide⟩ rfl ?_
        refine q_aload_n (pc' := 81) ja_M_number_80 rfl rfl ?_
        refine q_getf (pc' := 84) (v := .int (s 146 41)) ja_M_number_81 rfl (by decide) ⟨rfl, by decide⟩ rfl ?_
        refine q_isub (pc' := 85) ja_M_number_84 rfl ?_
        refine q_iconst (pc' := 86) ja_M_number_85 rfl 4 (by decide) ?_
        refine q_ic_le (pc' := 89) ja_M_number_86 rfl ?_ ?_
        · intro h10
          refine q_iconst (pc' := 94) ja_M_number_93 rfl 1 (by decide) ?_
          refine q_putf (pc' := 97) ja_M_number_94 rfl (by decide) rfl rfl rfl ?_
          intro s5 e5
          exact q_vret ja_M_number_97 rfl (k6 h4 h8 h9 h10 s5 e5)
        · intro h11
          refine q_iconst (pc' := 90) ja_M_number_89 rfl 2 (by decide) ?_
          refine q_goto ja_M_number_90 ?_
          refine q_putf (pc' := 97) ja_M_number_94 rfl (by decide) rfl rfl rfl ?_
          intro s6 e6
          exact q_vret ja_M_number_97 rfl (k7 h4 h8 h9 h11 s6 e6)
      · intro h12
        refine q_iconst (pc' := 13) ja_M_isDigit_12 rfl 1 (by decide) ?_
        refine q_goto ja_M_isDigit_13 ?_
        refine q_iret ja_M_isDigit_17 rfl (by decide) ?_
        show q_W _ _ _ _ 16 [some (.ref 146)] [.int 1] s
        refine q_if_eq (pc' := 19) ja_M_number_16 rfl (fun h => absurd h ((by decide : ¬ (1 : Int32) = 0))) (fun _ => ?_)
        refine q_aload_n (pc' := 20) ja_M_number_19 rfl rfl ?_
        refine q_aload_n (pc' := 21) ja_M_number_20 rfl rfl ?_
        refine q_getf (pc' := 24) (v := .int (s 146 40)) ja_M_number_21 rfl (by decide) ⟨rfl, by decide⟩ rfl ?_
        refine q_aload_n (pc' := 25) ja_M_number_24 rfl rfl ?_
        refine q_getf (pc' := 28) (v := .int (s 146 41)) ja_M_number_25 rfl (by decide) ⟨rfl, by decide⟩ rfl ?_
        refine q_isub (pc' := 29) ja_M_number_28 rfl ?_
        refine q_iconst (pc' := 30) ja_M_number_29 rfl 4 (by decide) ?_
        refine q_ic_ge (pc' := 33) ja_M_number_30 rfl ?_ ?_
        · intro h13
          refine q_aload_n (pc' := 56) ja_M_number_55 rfl rfl ?_
          refine q_getf (pc' := 59) (v := .int (s 146 43)) ja_M_number_56 rfl (by decide) ⟨rfl, by decide⟩ rfl ?_
          refine q_putf (pc' := 62) ja_M_number_59 rfl (by decide) rfl rfl rfl ?_
          intro s7 e7
          refine q_aload_n (pc' := 63) ja_M_number_62 rfl rfl ?_
          refine q_dup (pc' := 64) ja_M_number_63 rfl rfl ?_
          refine q_getf (pc' := 67) (v := .int (s7 146 40)) ja_M_number_64 rfl (by decide) ⟨rfl, by decide⟩ rfl ?_
          refine q_iconst (pc' := 68) ja_M_number_67 rfl 1 (by decide) ?_
          refine q_iadd (pc' := 69) ja_M_number_68 rfl ?_
          refine q_putf (pc' := 72) ja_M_number_69 rfl (by decide) rfl rfl rfl ?_
          intro s8 e8
          refine q_goto ja_M_number_72 ?_
          exact (k8 h4 h8 h12 h13 s7 e7 s8 e8)
        · intro h14
          refine q_bipush (pc' := 35) ja_M_number_33 rfl 10 (by decide) ?_
          refine q_aload_n (pc' := 36) ja_M_number_35 rfl rfl ?_
          refine q_getf (pc' := 39) (v := .int (s 146 43)) ja_M_number_36 rfl (by decide) ⟨rfl, by decide⟩ rfl ?_
          refine q_imul (pc' := 40) ja_M_number_39 rfl ?_
          refine q_aload_n (pc' := 41) ja_M_number_40 rfl rfl ?_
          refine q_aload_n (pc' := 42) ja_M_number_41 rfl rfl ?_
          refine q_getf (pc' := 45) (v := .int (s 146 40)) ja_M_number_42 rfl (by decide) ⟨rfl, by decide⟩ rfl ?_
          refine q_virt (pc' := 48) (c := 146) (as := [.int (s 146 40)]) (r := [.int (10 * (s 146 43)), .ref 146]) ja_M_number_45 rfl rfl rfl (by decide) ⟨rfl, by decide⟩ ?_
          refine q_in (M := jm_M_byteAt) rfl (Nat.le_of_ble_eq_true rfl) (ls := [some (.ref 146), some (.int (s 146 40))]) rfl ?_
          refine q_iload_n (pc' := 1) ja_M_byteAt_0 rfl rfl ?_
          refine q_aload_n (pc' := 2) ja_M_byteAt_1 rfl rfl ?_
          refine q_getf (pc' := 5) (v := .int (s 146 38)) ja_M_byteAt_2 rfl (by decide) ⟨rfl, by decide⟩ rfl ?_
          refine q_ic_ge (pc' := 8) ja_M_byteAt_5 rfl (fun h => absurd (h4) h) (fun _ => ?_)
          refine q_aload_n (pc' := 9) ja_M_byteAt_8 rfl rfl ?_
          refine q_getf (pc' := 12) (v := .ref 162) ja_M_byteAt_9 rfl (by decide) ⟨rfl, by decide⟩ rfl ?_
          refine q_iload_n (pc' := 13) ja_M_byteAt_12 rfl rfl ?_
          refine q_iald (pc' := 14) (v := .int (s 162 (s 146 40).toNatClampNeg)) ja_M_byteAt_13 rfl (by decide) (l := 200) rfl (k9 h4 h8 h12 h14) rfl ?_
          refine q_goto ja_M_byteAt_14 ?_
          refine q_iret ja_M_byteAt_18 rfl rfl ?_
          show q_W _ _ _ _ 48 [some (.ref 146)] [.int (s 162 (s 146 40).toNatClampNeg), .int (10 * (s 146 43)), .ref 146] s
          refine q_iadd (pc' := 49) ja_M_number_48 rfl ?_
          refine q_bipush (pc' := 51) ja_M_number_49 rfl 48 (by decide) ?_
          refine q_isub (pc' := 52) ja_M_number_51 rfl ?_
          refine q_goto ja_M_number_52 ?_
          refine q_putf (pc' := 62) ja_M_number_59 rfl (by decide) rfl rfl rfl ?_
          intro s9 e9
          refine q_aload_n (pc' := 63) ja_M_number_62 rfl rfl ?_
          refine q_dup (pc' := 64) ja_M_number_63 rfl rfl ?_
          refine q_getf (pc' := 67) (v := .int (s9 146 40)) ja_M_number_64 rfl (by decide) ⟨rfl, by decide⟩ rfl ?_
          refine q_iconst (pc' := 68) ja_M_number_67 rfl 1 (by decide) ?_
          refine q_iadd (pc' := 69) ja_M_number_68 rfl ?_
          refine q_putf (pc' := 72) ja_M_number_69 rfl (by decide) rfl rfl rfl ?_
          intro s10 e10
          refine q_goto ja_M_number_72 ?_
          exact (k10 h4 h8 h12 h14 s9 e9 s10 e10)
set_option maxRecDepth 20000 in
theorem t_M_one {G : jv_X} {d : Nat} {B : Option Value → jg_H → Prop} {s : jg_H} 
    (k1 : (s 146 44) = (-1) → (s 146 42) = 1 → jv_in ((200 * (s 146 39)) + (s 146 46)) 1800 = true)
    (k2 : (s 146 44) = (-1) → (s 146 42) = 1 → ∀ s1 : jg_H, s1 = jg_up s 163 ((200 * (s 146 39)) + (s 146 46)).toNatClampNeg 0 → jv_in ((200 * (s1 146 39)) + (s1 146 46)) 1800 = true)
    (k3 : (s 146 44) = (-1) → (s 146 42) = 1 → ∀ s1 : jg_H, s1 = jg_up s 163 ((200 * (s 146 39)) + (s 146 46)).toNatClampNeg 0 → ∀ s2 : jg_H, s2 = jg_up s1 164 ((200 * (s1 146 39)) + (s1 146 46)).toNatClampNeg (s 146 43) → ∀ s3 : jg_H, s3 = jg_up s2 146 46 ((s2 146 46) + 1) → q_P G (d + 1) 134 [.ref 146] s3 (fun v t => q_W G (d + 1) jm_M_one B 49 [some (.ref 146)] (v.toList ++ []) t))
    (k4 : (s 146 44) = (-1) → ¬ (s 146 42) = 1 → ¬ (s 146 42) = 3 → ¬ (s 146 42) = 45 → ¬ (s 146 42) = 40 → ∀ s4 : jg_H, s4 = jg_up s 146 44 (s 146 41) → B none s4)
    (k5 : (s 146 44) = (-1) → ¬ (s 146 42) = 1 → ¬ (s 146 42) = 3 → ¬ (s 146 42) = 45 → (s 146 42) = 40 → q_P G (d + 1) 146 [.ref 146] s (fun v t => q_W G (d + 1) jm_M_one B 102 [some (.ref 146)] (v.toList ++ []) t))
    (k6 : (s 146 44) = (-1) → ¬ (s 146 42) = 1 → ¬ (s 146 42) = 3 → (s 146 42) = 45 → q_P G (d + 1) 146 [.ref 146] s (fun v t => q_W G (d + 1) jm_M_one B 65 [some (.ref 146)] (v.toList ++ []) t))
    (k7 : (s 146 44) = (-1) → ¬ (s 146 42) = 1 → (s 146 42) = 3 → jv_in ((200 * (s 146 39)) + (s 146 46)) 1800 = true)
    (k8 : (s 146 44) = (-1) → ¬ (s 146 42) = 1 → (s 146 42) = 3 → ∀ s5 : jg_H, s5 = jg_up s 163 ((200 * (s 146 39)) + (s 146 46)).toNatClampNeg 1 → jv_in ((200 * (s5 146 39)) + (s5 146 46)) 1800 = true)
    (k9 : (s 146 44) = (-1) → ¬ (s 146 42) = 1 → (s 146 42) = 3 → ∀ s5 : jg_H, s5 = jg_up s 163 ((200 * (s 146 39)) + (s 146 46)).toNatClampNeg 1 → ∀ s6 : jg_H, s6 = jg_up s5 164 ((200 * (s5 146 39)) + (s5 146 46)).toNatClampNeg (s 146 43) → ∀ s7 : jg_H, s7 = jg_up s6 146 46 ((s6 146 46) + 1) → q_P G (d + 1) 134 [.ref 146] s7 (fun v t => q_W G (d + 1) jm_M_one B 49 [some (.ref 146)] (v.toList ++ []) t))
    (k10 : ¬ (s 146 44) = (-1) → B none s) :
    q_P G (d + 2) 150 [.ref 146] s B := by
  refine q_in (M := jm_M_one) rfl (Nat.le_of_ble_eq_true rfl) (ls := [some (.ref 146)]) rfl ?_
  refine q_aload_n (pc' := 1) ja_M_one_0 rfl rfl ?_
  refine q_virt (pc' := 4) (c := 146) (as := []) (r := []) ja_M_one_1 rfl rfl rfl (by decide) ⟨rfl, by decide⟩ ?_
  refine q_in (M := jm_M_isWrong) rfl (Nat.le_of_ble_eq_true rfl) (ls := [some (.ref 146)]) rfl ?_
  refine q_aload_n (pc' := 1) ja_M_isWrong_0 rfl rfl ?_
  refine q_getf (pc' := 4) (v := .int (s 146 44)) ja_M_isWrong_1 rfl (by decide) ⟨rfl, by decide⟩ rfl ?_
  refine q_iconst (pc' := 5) ja_M_isWrong_4 rfl (-1) (by decide) ?_
  refine q_ic_eq (pc' := 8) ja_M_isWrong_5 rfl ?_ ?_
  · intro h1
    refine q_iconst (pc' := 13) ja_M_isWrong_12 rfl 0 (by decide) ?_
    refine q_iret ja_M_isWrong_13 rfl (by decide) ?_
    show q_W _ _ _ _ 4 [some (.ref 146)] [.int 0] s
    refine q_if_eq (pc' := 7) ja_M_one_4 rfl (fun _ => ?_) (fun h => absurd ((by decide : (0 : Int32) = 0)) h)
    refine q_aload_n (pc' := 9) ja_M_one_8 rfl rfl ?_
    refine q_getf (pc' := 12) (v := .int (s 146 42)) ja_M_one_9 rfl (by decide) ⟨rfl, by decide⟩ rfl ?_
    refine q_iconst (pc' := 13) ja_M_one_12 rfl 1 (by decide) ?_
    refine q_ic_eq (pc' := 16) ja_M_one_13 rfl ?_ ?_
    · intro h2
      refine q_aload_n (pc' := 25) ja_M_one_24 rfl rfl ?_
      refine q_aload_n (pc' := 26) ja_M_one_25 rfl rfl ?_
      refine q_getf (pc' := 29) (v := .int (s 146 42)) ja_M_one_26 rfl (by decide) ⟨rfl, by decide⟩ rfl ?_
      refine q_iconst (pc' := 30) ja_M_one_29 rfl 1 (by decide) ?_
      refine q_ic_ne (pc' := 33) ja_M_one_30 rfl (fun h => absurd (h2) h) (fun _ => ?_)
      refine q_iconst (pc' := 34) ja_M_one_33 rfl 0 (by decide) ?_
      refine q_goto ja_M_one_34 ?_
      refine q_aload_n (pc' := 39) ja_M_one_38 rfl rfl ?_
      refine q_getf (pc' := 42) (v := .int (s 146 43)) ja_M_one_39 rfl (by decide) ⟨rfl, by decide⟩ rfl ?_
      refine q_virt (pc' := 45) (c := 146) (as := [.int 0, .int (s 146 43)]) (r := []) ja_M_one_42 rfl rfl rfl (by decide) ⟨rfl, by decide⟩ ?_
      refine q_in (M := jm_M_emit) rfl (Nat.le_of_ble_eq_true rfl) (ls := [some (.ref 146), some (.int 0), some (.int (s 146 43))]) rfl ?_
      refine q_aload_n (pc' := 1) ja_M_emit_0 rfl rfl ?_
      refine q_getf (pc' := 4) (v := .ref 163) ja_M_emit_1 rfl (by decide) ⟨rfl, by decide⟩ rfl ?_
      refine q_sipush (pc' := 7) ja_M_emit_4 rfl 200 (by decide) ?_
      refine q_aload_n (pc' := 8) ja_M_emit_7 rfl rfl ?_
      refine q_getf (pc' := 11) (v := .int (s 146 39)) ja_M_emit_8 rfl (by decide) ⟨rfl, by decide⟩ rfl ?_
      refine q_imul (pc' := 12) ja_M_emit_11 rfl ?_
      refine q_aload_n (pc' := 13) ja_M_emit_12 rfl rfl ?_
      refine q_getf (pc' := 16) (v := .int (s 146 46)) ja_M_emit_13 rfl (by decide) ⟨rfl, by decide⟩ rfl ?_
      refine q_iadd (pc' := 17) ja_M_emit_16 rfl ?_
      refine q_iload_n (pc' := 18) ja_M_emit_17 rfl rfl ?_
      refine q_iast (pc' := 19) ja_M_emit_18 rfl (by decide) (l := 1800) rfl (k1 h1 h2) ?_
      intro s1 e1
      refine q_aload_n (pc' := 20) ja_M_emit_19 rfl rfl ?_
      refine q_getf (pc' := 23) (v := .ref 164) ja_M_emit_20 rfl (by decide) ⟨rfl, by decide⟩ rfl ?_
      refine q_sipush (pc' := 26) ja_M_emit_23 rfl 200 (by decide) ?_
      refine q_aload_n (pc' := 27) ja_M_emit_26 rfl rfl ?_
      refine q_getf (pc' := 30) (v := .int (s1 146 39)) ja_M_emit_27 rfl (by decide) ⟨rfl, by decide⟩ rfl ?_
      refine q_imul (pc' := 31) ja_M_emit_30 rfl ?_
      refine q_aload_n (pc' := 32) ja_M_emit_31 rfl rfl ?_
      refine q_getf (pc' := 35) (v := .int (s1 146 46)) ja_M_emit_32 rfl (by decide) ⟨rfl, by decide⟩ rfl ?_
      refine q_iadd (pc' := 36) ja_M_emit_35 rfl ?_
      refine q_iload_n (pc' := 37) ja_M_emit_36 rfl rfl ?_
      refine q_iast (pc' := 38) ja_M_emit_37 rfl (by decide) (l := 1800) rfl (k2 h1 h2 s1 e1) ?_
      intro s2 e2
      refine q_aload_n (pc' := 39) ja_M_emit_38 rfl rfl ?_
      refine q_dup (pc' := 40) ja_M_emit_39 rfl rfl ?_
      refine q_getf (pc' := 43) (v := .int (s2 146 46)) ja_M_emit_40 rfl (by decide) ⟨rfl, by decide⟩ rfl ?_
      refine q_iconst (pc' := 44) ja_M_emit_43 rfl 1 (by decide) ?_
      refine q_iadd (pc' := 45) ja_M_emit_44 rfl ?_
      refine q_putf (pc' := 48) ja_M_emit_45 rfl (by decide) rfl rfl rfl ?_
      intro s3 e3
      refine q_vret ja_M_emit_48 rfl ?_
      show q_W _ _ _ _ 45 [some (.ref 146)] [] s3
      refine q_aload_n (pc' := 46) ja_M_one_45 rfl rfl ?_
      refine q_virt (pc' := 49) (c := 146) (as := []) (r := []) ja_M_one_46 rfl rfl rfl (by decide) ⟨rfl, by decide⟩ ?_
      exact (k3 h1 h2 s1 e1 s2 e2 s3 e3)
    · intro h3
      refine q_aload_n (pc' := 17) ja_M_one_16 rfl rfl ?_
      refine q_getf (pc' := 20) (v := .int (s 146 42)) ja_M_one_17 rfl (by decide) ⟨rfl, by decide⟩ rfl ?_
      refine q_iconst (pc' := 21) ja_M_one_20 rfl 3 (by decide) ?_
      refine q_ic_ne (pc' := 24) ja_M_one_21 rfl ?_ ?_
      · intro h4
        refine q_aload_n (pc' := 53) ja_M_one_52 rfl rfl ?_
        refine q_getf (pc' := 56) (v := .int (s 146 42)) ja_M_one_53 rfl (by decide) ⟨rfl, by decide⟩ rfl ?_
        refine q_bipush (pc' := 58) ja_M_one_56 rfl 45 (by decide) ?_
        refine q_ic_ne (pc' := 61) ja_M_one_58 rfl ?_ ?_
        · intro h5
          refine q_aload_n (pc' := 90) ja_M_one_89 rfl rfl ?_
          refine q_getf (pc' := 93) (v := .int (s 146 42)) ja_M_one_90 rfl (by decide) ⟨rfl, by decide⟩ rfl ?_
          refine q_bipush (pc' := 95) ja_M_one_93 rfl 40 (by decide) ?_
          refine q_ic_ne (pc' := 98) ja_M_one_95 rfl ?_ ?_
          · intro h6
            refine q_aload_n (pc' := 126) ja_M_one_125 rfl rfl ?_
            refine q_virt (pc' := 129) (c := 146) (as := []) (r := []) ja_M_one_126 rfl rfl rfl (by decide) ⟨rfl, by decide⟩ ?_
            refine q_in (M := jm_M_cannot) rfl (Nat.le_of_ble_eq_true rfl) (ls := [some (.ref 146)]) rfl ?_
            refine q_aload_n (pc' := 1) ja_M_cannot_0 rfl rfl ?_
            refine q_aload_n (pc' := 2) ja_M_cannot_1 rfl rfl ?_
            refine q_getf (pc' := 5) (v := .int (s 146 44)) ja_M_cannot_2 rfl (by decide) ⟨rfl, by decide⟩ rfl ?_
            refine q_iconst (pc' := 6) ja_M_cannot_5 rfl (-1) (by decide) ?_
            refine q_ic_ne (pc' := 9) ja_M_cannot_6 rfl (fun h => absurd (h1) h) (fun _ => ?_)
            refine q_aload_n (pc' := 10) ja_M_cannot_9 rfl rfl ?_
            refine q_getf (pc' := 13) (v := .int (s 146 41)) ja_M_cannot_10 rfl (by decide) ⟨rfl, by decide⟩ rfl ?_
            refine q_goto ja_M_cannot_13 ?_
            refine q_putf (pc' := 23) ja_M_cannot_20 rfl (by decide) rfl rfl rfl ?_
            intro s4 e4
            refine q_vret ja_M_cannot_23 rfl ?_
            show q_W _ _ _ _ 129 [some (.ref 146)] [] s4
            exact q_vret ja_M_one_129 rfl (k4 h1 h3 h4 h5 h6 s4 e4)
          · intro h7
            refine q_aload_n (pc' := 99) ja_M_one_98 rfl rfl ?_
            refine q_virt (pc' := 102) (c := 146) (as := []) (r := []) ja_M_one_99 rfl rfl rfl (by decide) ⟨rfl, by decide⟩ ?_
            exact (k5 h1 h3 h4 h5 h7)
        · intro h8
          refine q_aload_n (pc' := 62) ja_M_one_61 rfl rfl ?_
          refine q_virt (pc' := 65) (c := 146) (as := []) (r := []) ja_M_one_62 rfl rfl rfl (by decide) ⟨rfl, by decide⟩ ?_
          exact (k6 h1 h3 h4 h8)
      · intro h9
        refine q_aload_n (pc' := 25) ja_M_one_24 rfl rfl ?_
        refine q_aload_n (pc' := 26) ja_M_one_25 rfl rfl ?_
        refine q_getf (pc' := 29) (v := .int (s 146 42)) ja_M_one_26 rfl (by decide) ⟨rfl, by decide⟩ rfl ?_
        refine q_iconst (pc' := 30) ja_M_one_29 rfl 1 (by decide) ?_
        refine q_ic_ne (pc' := 33) ja_M_one_30 rfl (fun _ => ?_) (fun h => absurd h (h3))
        refine q_iconst (pc' := 38) ja_M_one_37 rfl 1 (by decide) ?_
        refine q_aload_n (pc' := 39) ja_M_one_38 rfl rfl ?_
        refine q_getf (pc' := 42) (v := .int (s 146 43)) ja_M_one_39 rfl (by decide) ⟨rfl, by decide⟩ rfl ?_
        refine q_virt (pc' := 45) (c := 146) (as := [.int 1, .int (s 146 43)]) (r := []) ja_M_one_42 rfl rfl rfl (by decide) ⟨rfl, by decide⟩ ?_
        refine q_in (M := jm_M_emit) rfl (Nat.le_of_ble_eq_true rfl) (ls := [some (.ref 146), some (.int 1), some (.int (s 146 43))]) rfl ?_
        refine q_aload_n (pc' := 1) ja_M_emit_0 rfl rfl ?_
        refine q_getf (pc' := 4) (v := .ref 163) ja_M_emit_1 rfl (by decide) ⟨rfl, by decide⟩ rfl ?_
        refine q_sipush (pc' := 7) ja_M_emit_4 rfl 200 (by decide) ?_
        refine q_aload_n (pc' := 8) ja_M_emit_7 rfl rfl ?_
        refine q_getf (pc' := 11) (v := .int (s 146 39)) ja_M_emit_8 rfl (by decide) ⟨rfl, by decide⟩ rfl ?_
        refine q_imul (pc' := 12) ja_M_emit_11 rfl ?_
        refine q_aload_n (pc' := 13) ja_M_emit_12 rfl rfl ?_
        refine q_getf (pc' := 16) (v := .int (s 146 46)) ja_M_emit_13 rfl (by decide) ⟨rfl, by decide⟩ rfl ?_
        refine q_iadd (pc' := 17) ja_M_emit_16 rfl ?_
        refine q_iload_n (pc' := 18) ja_M_emit_17 rfl rfl ?_
        refine q_iast (pc' := 19) ja_M_emit_18 rfl (by decide) (l := 1800) rfl (k7 h1 h3 h9) ?_
        intro s5 e5
        refine q_aload_n (pc' := 20) ja_M_emit_19 rfl rfl ?_
        refine q_getf (pc' := 23) (v := .ref 164) ja_M_emit_20 rfl (by decide) ⟨rfl, by decide⟩ rfl ?_
        refine q_sipush (pc' := 26) ja_M_emit_23 rfl 200 (by decide) ?_
        refine q_aload_n (pc' := 27) ja_M_emit_26 rfl rfl ?_
        refine q_getf (pc' := 30) (v := .int (s5 146 39)) ja_M_emit_27 rfl (by decide) ⟨rfl, by decide⟩ rfl ?_
        refine q_imul (pc' := 31) ja_M_emit_30 rfl ?_
        refine q_aload_n (pc' := 32) ja_M_emit_31 rfl rfl ?_
        refine q_getf (pc' := 35) (v := .int (s5 146 46)) ja_M_emit_32 rfl (by decide) ⟨rfl, by decide⟩ rfl ?_
        refine q_iadd (pc' := 36) ja_M_emit_35 rfl ?_
        refine q_iload_n (pc' := 37) ja_M_emit_36 rfl rfl ?_
        refine q_iast (pc' := 38) ja_M_emit_37 rfl (by decide) (l := 1800) rfl (k8 h1 h3 h9 s5 e5) ?_
        intro s6 e6
        refine q_aload_n (pc' := 39) ja_M_emit_38 rfl rfl ?_
        refine q_dup (pc' := 40) ja_M_emit_39 rfl rfl ?_
        refine q_getf (pc' := 43) (v := .int (s6 146 46)) ja_M_emit_40 rfl (by decide) ⟨rfl, by decide⟩ rfl ?_
        refine q_iconst (pc' := 44) ja_M_emit_43 rfl 1 (by decide) ?_
        refine q_iadd (pc' := 45) ja_M_emit_44 rfl ?_
        refine q_putf (pc' := 48) ja_M_emit_45 rfl (by decide) rfl rfl rfl ?_
        intro s7 e7
        refine q_vret ja_M_emit_48 rfl ?_
        show q_W _ _ _ _ 45 [some (.ref 146)] [] s7
        refine q_aload_n (pc' := 46) ja_M_one_45 rfl rfl ?_
        refine q_virt (pc' := 49) (c := 146) (as := []) (r := []) ja_M_one_46 rfl rfl rfl (by decide) ⟨rfl, by decide⟩ ?_
        exact (k9 h1 h3 h9 s5 e5 s6 e6 s7 e7)
  · intro h10
    refine q_iconst (pc' := 9) ja_M_isWrong_8 rfl 1 (by decide) ?_
    refine q_goto ja_M_isWrong_9 ?_
    refine q_iret ja_M_isWrong_13 rfl (by decide) ?_
    show q_W _ _ _ _ 4 [some (.ref 146)] [.int 1] s
    refine q_if_eq (pc' := 7) ja_M_one_4 rfl (fun h => absurd h ((by decide : ¬ (1 : Int32) = 0))) (fun _ => ?_)
    exact q_vret ja_M_one_7 rfl (k10 h10)
set_option maxRecDepth 20000 in
theorem t_M_one_49 {G : jv_X} {d : Nat} {B : Option Value → jg_H → Prop} {s : jg_H} 
    (k1 : B none s) :
    q_W G (d + 1) jm_M_one B 49 [some (.ref 146)] [] s := by
  refine q_goto ja_M_one_49 ?_
  exact q_vret ja_M_one_129 rfl k1
set_option maxRecDepth 20000 in
theorem t_M_one_65 {G : jv_X} {d : Nat} {B : Option Value → jg_H → Prop} {s : jg_H} 
    (k1 : q_P G (d + 1) 150 [.ref 146] s (fun v t => q_W G (d + 1) jm_M_one B 69 [some (.ref 146)] (v.toList ++ []) t)) :
    q_W G (d + 1) jm_M_one B 65 [some (.ref 146)] [] s := by
  refine q_aload_n (pc' := 66) ja_M_one_65 rfl rfl ?_
  refine q_virt (pc' := 69) (c := 146) (as := []) (r := []) ja_M_one_66 rfl rfl rfl (by decide) ⟨rfl, by decide⟩ ?_
  exact k1
set_option maxRecDepth 20000 in
theorem t_M_one_69 {G : jv_X} {d : Nat} {B : Option Value → jg_H → Prop} {s : jg_H} 
    (k1 : ∀ s1 : jg_H, s1 = jg_up s 146 45 ((s 146 45) - 1) → jv_in ((200 * (s1 146 39)) + (s1 146 46)) 1800 = true)
    (k2 : ∀ s1 : jg_H, s1 = jg_up s 146 45 ((s 146 45) - 1) → ∀ s2 : jg_H, s2 = jg_up s1 163 ((200 * (s1 146 39)) + (s1 146 46)).toNatClampNeg 10 → jv_in ((200 * (s2 146 39)) + (s2 146 46)) 1800 = true)
    (k3 : ∀ s1 : jg_H, s1 = jg_up s 146 45 ((s 146 45) - 1) → ∀ s2 : jg_H, s2 = jg_up s1 163 ((200 * (s1 146 39)) + (s1 146 46)).toNatClampNeg 10 → ∀ s3 : jg_H, s3 = jg_up s2 164 ((200 * (s2 146 39)) + (s2 146 46)).toNatClampNeg 0 → ∀ s4 : jg_H, s4 = jg_up s3 146 46 ((s3 146 46) + 1) → B none s4) :
    q_W G (d + 1) jm_M_one B 69 [some (.ref 146)] [] s := by
  refine q_aload_n (pc' := 70) ja_M_one_69 rfl rfl ?_
  refine q_dup (pc' := 71) ja_M_one_70 rfl rfl ?_
  refine q_getf (pc' := 74) (v := .int (s 146 45)) ja_M_one_71 rfl (by decide) ⟨rfl, by decide⟩ rfl ?_
  refine q_iconst (pc' := 75) ja_M_one_74 rfl 1 (by decide) ?_
  refine q_isub (pc' := 76) ja_M_one_75 rfl ?_
  refine q_putf (pc' := 79) ja_M_one_76 rfl (by decide) rfl rfl rfl ?_
  intro s1 e1
  refine q_aload_n (pc' := 80) ja_M_one_79 rfl rfl ?_
  refine q_bipush (pc' := 82) ja_M_one_80 rfl 10 (by decide) ?_
  refine q_iconst (pc' := 83) ja_M_one_82 rfl 0 (by decide) ?_
  refine q_virt (pc' := 86) (c := 146) (as := [.int 10, .int 0]) (r := []) ja_M_one_83 rfl rfl rfl (by decide) ⟨rfl, by decide⟩ ?_
  refine q_in (M := jm_M_emit) rfl (Nat.le_of_ble_eq_true rfl) (ls := [some (.ref 146), some (.int 10), some (.int 0)]) rfl ?_
  refine q_aload_n (pc' := 1) ja_M_emit_0 rfl rfl ?_
  refine q_getf (pc' := 4) (v := .ref 163) ja_M_emit_1 rfl (by decide) ⟨rfl, by decide⟩ rfl ?_
  refine q_sipush (pc' := 7) ja_M_emit_4 rfl 200 (by decide) ?_
  refine q_aload_n (pc' := 8) ja_M_emit_7 rfl rfl ?_
  refine q_getf (pc' := 11) (v := .int (s1 146 39)) ja_M_emit_8 rfl (by decide) ⟨rfl, by decide⟩ rfl ?_
  refine q_imul (pc' := 12) ja_M_emit_11 rfl ?_
  refine q_aload_n (pc' := 13) ja_M_emit_12 rfl rfl ?_
  refine q_getf (pc' := 16) (v := .int (s1 146 46)) ja_M_emit_13 rfl (by decide) ⟨rfl, by decide⟩ rfl ?_
  refine q_iadd (pc' := 17) ja_M_emit_16 rfl ?_
  refine q_iload_n (pc' := 18) ja_M_emit_17 rfl rfl ?_
  refine q_iast (pc' := 19) ja_M_emit_18 rfl (by decide) (l := 1800) rfl (k1 s1 e1) ?_
  intro s2 e2
  refine q_aload_n (pc' := 20) ja_M_emit_19 rfl rfl ?_
  refine q_getf (pc' := 23) (v := .ref 164) ja_M_emit_20 rfl (by decide) ⟨rfl, by decide⟩ rfl ?_
  refine q_sipush (pc' := 26) ja_M_emit_23 rfl 200 (by decide) ?_
  refine q_aload_n (pc' := 27) ja_M_emit_26 rfl rfl ?_
  refine q_getf (pc' := 30) (v := .int (s2 146 39)) ja_M_emit_27 rfl (by decide) ⟨rfl, by decide⟩ rfl ?_
  refine q_imul (pc' := 31) ja_M_emit_30 rfl ?_
  refine q_aload_n (pc' := 32) ja_M_emit_31 rfl rfl ?_
  refine q_getf (pc' := 35) (v := .int (s2 146 46)) ja_M_emit_32 rfl (by decide) ⟨rfl, by decide⟩ rfl ?_
  refine q_iadd (pc' := 36) ja_M_emit_35 rfl ?_
  refine q_iload_n (pc' := 37) ja_M_emit_36 rfl rfl ?_
  refine q_iast (pc' := 38) ja_M_emit_37 rfl (by decide) (l := 1800) rfl (k2 s1 e1 s2 e2) ?_
  intro s3 e3
  refine q_aload_n (pc' := 39) ja_M_emit_38 rfl rfl ?_
  refine q_dup (pc' := 40) ja_M_emit_39 rfl rfl ?_
  refine q_getf (pc' := 43) (v := .int (s3 146 46)) ja_M_emit_40 rfl (by decide) ⟨rfl, by decide⟩ rfl ?_
  refine q_iconst (pc' := 44) ja_M_emit_43 rfl 1 (by decide) ?_
  refine q_iadd (pc' := 45) ja_M_emit_44 rfl ?_
  refine q_putf (pc' := 48) ja_M_emit_45 rfl (by decide) rfl rfl rfl ?_
  intro s4 e4
  refine q_vret ja_M_emit_48 rfl ?_
  show q_W _ _ _ _ 86 [some (.ref 146)] [] s4
  refine q_goto ja_M_one_86 ?_
  exact q_vret ja_M_one_129 rfl (k3 s1 e1 s2 e2 s3 e3 s4 e4)
set_option maxRecDepth 20000 in
theorem t_M_one_102 {G : jv_X} {d : Nat} {B : Option Value → jg_H → Prop} {s : jg_H} 
    (k1 : q_P G (d + 1) 143 [.ref 146] s (fun v t => q_W G (d + 1) jm_M_one B 106 [some (.ref 146)] (v.toList ++ []) t)) :
    q_W G (d + 1) jm_M_one B 102 [some (.ref 146)] [] s := by
  refine q_aload_n (pc' := 103) ja_M_one_102 rfl rfl ?_
  refine q_virt (pc' := 106) (c := 146) (as := []) (r := []) ja_M_one_103 rfl rfl rfl (by decide) ⟨rfl, by decide⟩ ?_
  exact k1
set_option maxRecDepth 20000 in
theorem t_M_one_106 {G : jv_X} {d : Nat} {B : Option Value → jg_H → Prop} {s : jg_H} 
    (k1 : q_P G (d + 1) 140 [.ref 146, .int 41] s (fun v t => q_W G (d + 1) jm_M_one B 112 [some (.ref 146)] (v.toList ++ []) t)) :
    q_W G (d + 1) jm_M_one B 106 [some (.ref 146)] [] s := by
  refine q_aload_n (pc' := 107) ja_M_one_106 rfl rfl ?_
  refine q_bipush (pc' := 109) ja_M_one_107 rfl 41 (by decide) ?_
  refine q_virt (pc' := 112) (c := 146) (as := [.int 41]) (r := []) ja_M_one_109 rfl rfl rfl (by decide) ⟨rfl, by decide⟩ ?_
  exact k1
set_option maxRecDepth 20000 in
theorem t_M_one_112 {G : jv_X} {d : Nat} {B : Option Value → jg_H → Prop} {s : jg_H} 
    (k1 : ∀ s1 : jg_H, s1 = jg_up s 146 45 ((s 146 45) - 1) → B none s1) :
    q_W G (d + 1) jm_M_one B 112 [some (.ref 146)] [] s := by
  refine q_aload_n (pc' := 113) ja_M_one_112 rfl rfl ?_
  refine q_dup (pc' := 114) ja_M_one_113 rfl rfl ?_
  refine q_getf (pc' := 117) (v := .int (s 146 45)) ja_M_one_114 rfl (by decide) ⟨rfl, by decide⟩ rfl ?_
  refine q_iconst (pc' := 118) ja_M_one_117 rfl 1 (by decide) ?_
  refine q_isub (pc' := 119) ja_M_one_118 rfl ?_
  refine q_putf (pc' := 122) ja_M_one_119 rfl (by decide) rfl rfl rfl ?_
  intro s1 e1
  refine q_goto ja_M_one_122 ?_
  exact q_vret ja_M_one_129 rfl (k1 s1 e1)
set_option maxRecDepth 20000 in
theorem t_M_opens {G : jv_X} {d : Nat} {B : Option Value → jg_H → Prop} {s : jg_H} 
    (k1 : ¬ (s 146 45) = 5 → ∀ s1 : jg_H, s1 = jg_up s 146 45 ((s 146 45) + 1) → (s1 146 44) = (-1) → q_P G (d + 1) 134 [.ref 146] s1 (fun v t => q_W G (d + 1) jm_M_opens B 33 [some (.ref 146)] (v.toList ++ []) t))
    (k2 : ¬ (s 146 45) = 5 → ∀ s1 : jg_H, s1 = jg_up s 146 45 ((s 146 45) + 1) → ¬ (s1 146 44) = (-1) → B none s1)
    (k3 : (s 146 45) = 5 → ¬ (s 146 44) = (-1) → ∀ s2 : jg_H, s2 = jg_up s 146 44 (s 146 44) → ∀ s3 : jg_H, s3 = jg_up s2 146 45 ((s2 146 45) + 1) → (s3 146 44) = (-1) → q_P G (d + 1) 134 [.ref 146] s3 (fun v t => q_W G (d + 1) jm_M_opens B 33 [some (.ref 146)] (v.toList ++ []) t))
    (k4 : (s 146 45) = 5 → ¬ (s 146 44) = (-1) → ∀ s2 : jg_H, s2 = jg_up s 146 44 (s 146 44) → ∀ s3 : jg_H, s3 = jg_up s2 146 45 ((s2 146 45) + 1) → ¬ (s3 146 44) = (-1) → B none s3)
    (k5 : (s 146 45) = 5 → (s 146 44) = (-1) → ∀ s4 : jg_H, s4 = jg_up s 146 44 (s 146 41) → ∀ s5 : jg_H, s5 = jg_up s4 146 45 ((s4 146 45) + 1) → (s5 146 44) = (-1) → q_P G (d + 1) 134 [.ref 146] s5 (fun v t => q_W G (d + 1) jm_M_opens B 33 [some (.ref 146)] (v.toList ++ []) t))
    (k6 : (s 146 45) = 5 → (s 146 44) = (-1) → ∀ s4 : jg_H, s4 = jg_up s 146 44 (s 146 41) → ∀ s5 : jg_H, s5 = jg_up s4 146 45 ((s4 146 45) + 1) → ¬ (s5 146 44) = (-1) → B none s5) :
    q_P G (d + 2) 146 [.ref 146] s B := by
  refine q_in (M := jm_M_opens) rfl (Nat.le_of_ble_eq_true rfl) (ls := [some (.ref 146)]) rfl ?_
  refine q_aload_n (pc' := 1) ja_M_opens_0 rfl rfl ?_
  refine q_getf (pc' := 4) (v := .int (s 146 45)) ja_M_opens_1 rfl (by decide) ⟨rfl, by decide⟩ rfl ?_
  refine q_iconst (pc' := 5) ja_M_opens_4 rfl 5 (by decide) ?_
  refine q_ic_ne (pc' := 8) ja_M_opens_5 rfl ?_ ?_
  · intro h1
    refine q_aload_n (pc' := 13) ja_M_opens_12 rfl rfl ?_
    refine q_dup (pc' := 14) ja_M_opens_13 rfl rfl ?_
    refine q_getf (pc' := 17) (v := .int (s 146 45)) ja_M_opens_14 rfl (by decide) ⟨rfl, by decide⟩ rfl ?_
    refine q_iconst (pc' := 18) ja_M_opens_17 rfl 1 (by decide) ?_
    refine q_iadd (pc' := 19) ja_M_opens_18 rfl ?_
    refine q_putf (pc' := 22) ja_M_opens_19 rfl (by decide) rfl rfl rfl ?_
    intro s1 e1
    refine q_aload_n (pc' := 23) ja_M_opens_22 rfl rfl ?_
    refine q_virt (pc' := 26) (c := 146) (as := []) (r := []) ja_M_opens_23 rfl rfl rfl (by decide) ⟨rfl, by decide⟩ ?_
    refine q_in (M := jm_M_isWrong) rfl (Nat.le_of_ble_eq_true rfl) (ls := [some (.ref 146)]) rfl ?_
    refine q_aload_n (pc' := 1) ja_M_isWrong_0 rfl rfl ?_
    refine q_getf (pc' := 4) (v := .int (s1 146 44)) ja_M_isWrong_1 rfl (by decide) ⟨rfl, by decide⟩ rfl ?_
    refine q_iconst (pc' := 5) ja_M_isWrong_4 rfl (-1) (by decide) ?_
    refine q_ic_eq (pc' := 8) ja_M_isWrong_5 rfl ?_ ?_
    · intro h2
      refine q_iconst (pc' := 13) ja_M_isWrong_12 rfl 0 (by decide) ?_
      refine q_iret ja_M_isWrong_13 rfl (by decide) ?_
      show q_W _ _ _ _ 26 [some (.ref 146)] [.int 0] s1
      refine q_if_ne (pc' := 29) ja_M_opens_26 rfl (fun h => absurd ((by decide : (0 : Int32) = 0)) h) (fun _ => ?_)
      refine q_aload_n (pc' := 30) ja_M_opens_29 rfl rfl ?_
      refine q_virt (pc' := 33) (c := 146) (as := []) (r := []) ja_M_opens_30 rfl rfl rfl (by decide) ⟨rfl, by decide⟩ ?_
      exact (k1 h1 s1 e1 h2)
    · intro h3
      refine q_iconst (pc' := 9) ja_M_isWrong_8 rfl 1 (by decide) ?_
      refine q_goto ja_M_isWrong_9 ?_
      refine q_iret ja_M_isWrong_13 rfl (by decide) ?_
      show q_W _ _ _ _ 26 [some (.ref 146)] [.int 1] s1
      refine q_if_ne (pc' := 29) ja_M_opens_26 rfl (fun _ => ?_) (fun h => absurd h ((by decide : ¬ (1 : Int32) = 0)))
      exact q_vret ja_M_opens_33 rfl (k2 h1 s1 e1 h3)
  · intro h4
    refine q_aload_n (pc' := 9) ja_M_opens_8 rfl rfl ?_
    refine q_virt (pc' := 12) (c := 146) (as := []) (r := []) ja_M_opens_9 rfl rfl rfl (by decide) ⟨rfl, by decide⟩ ?_
    refine q_in (M := jm_M_cannot) rfl (Nat.le_of_ble_eq_true rfl) (ls := [some (.ref 146)]) rfl ?_
    refine q_aload_n (pc' := 1) ja_M_cannot_0 rfl rfl ?_
    refine q_aload_n (pc' := 2) ja_M_cannot_1 rfl rfl ?_
    refine q_getf (pc' := 5) (v := .int (s 146 44)) ja_M_cannot_2 rfl (by decide) ⟨rfl, by decide⟩ rfl ?_
    refine q_iconst (pc' := 6) ja_M_cannot_5 rfl (-1) (by decide) ?_
    refine q_ic_ne (pc' := 9) ja_M_cannot_6 rfl ?_ ?_
    · intro h5
      refine q_aload_n (pc' := 17) ja_M_cannot_16 rfl rfl ?_
      refine q_getf (pc' := 20) (v := .int (s 146 44)) ja_M_cannot_17 rfl (by decide) ⟨rfl, by decide⟩ rfl ?_
      refine q_putf (pc' := 23) ja_M_cannot_20 rfl (by decide) rfl rfl rfl ?_
      intro s2 e2
      refine q_vret ja_M_cannot_23 rfl ?_
      show q_W _ _ _ _ 12 [some (.ref 146)] [] s2
      refine q_aload_n (pc' := 13) ja_M_opens_12 rfl rfl ?_
      refine q_dup (pc' := 14) ja_M_opens_13 rfl rfl ?_
      refine q_getf (pc' := 17) (v := .int (s2 146 45)) ja_M_opens_14 rfl (by decide) ⟨rfl, by decide⟩ rfl ?_
      refine q_iconst (pc' := 18) ja_M_opens_17 rfl 1 (by decide) ?_
      refine q_iadd (pc' := 19) ja_M_opens_18 rfl ?_
      refine q_putf (pc' := 22) ja_M_opens_19 rfl (by decide) rfl rfl rfl ?_
      intro s3 e3
      refine q_aload_n (pc' := 23) ja_M_opens_22 rfl rfl ?_
      refine q_virt (pc' := 26) (c := 146) (as := []) (r := []) ja_M_opens_23 rfl rfl rfl (by decide) ⟨rfl, by decide⟩ ?_
      refine q_in (M := jm_M_isWrong) rfl (Nat.le_of_ble_eq_true rfl) (ls := [some (.ref 146)]) rfl ?_
      refine q_aload_n (pc' := 1) ja_M_isWrong_0 rfl rfl ?_
      refine q_getf (pc' := 4) (v := .int (s3 146 44)) ja_M_isWrong_1 rfl (by decide) ⟨rfl, by decide⟩ rfl ?_
      refine q_iconst (pc' := 5) ja_M_isWrong_4 rfl (-1) (by decide) ?_
      refine q_ic_eq (pc' := 8) ja_M_isWrong_5 rfl ?_ ?_
      · intro h6
        refine q_iconst (pc' := 13) ja_M_isWrong_12 rfl 0 (by decide) ?_
        refine q_iret ja_M_isWrong_13 rfl (by decide) ?_
        show q_W _ _ _ _ 26 [some (.ref 146)] [.int 0] s3
        refine q_if_ne (pc' := 29) ja_M_opens_26 rfl (fun h => absurd ((by decide : (0 : Int32) = 0)) h) (fun _ => ?_)
        refine q_aload_n (pc' := 30) ja_M_opens_29 rfl rfl ?_
        refine q_virt (pc' := 33) (c := 146) (as := []) (r := []) ja_M_opens_30 rfl rfl rfl (by decide) ⟨rfl, by decide⟩ ?_
        exact (k3 h4 h5 s2 e2 s3 e3 h6)
      · intro h7
        refine q_iconst (pc' := 9) ja_M_isWrong_8 rfl 1 (by decide) ?_
        refine q_goto ja_M_isWrong_9 ?_
        refine q_iret ja_M_isWrong_13 rfl (by decide) ?_
        show q_W _ _ _ _ 26 [some (.ref 146)] [.int 1] s3
        refine q_if_ne (pc' := 29) ja_M_opens_26 rfl (fun _ => ?_) (fun h => absurd h ((by decide : ¬ (1 : Int32) = 0)))
        exact q_vret ja_M_opens_33 rfl (k4 h4 h5 s2 e2 s3 e3 h7)
    · intro h8
      refine q_aload_n (pc' := 10) ja_M_cannot_9 rfl rfl ?_
      refine q_getf (pc' := 13) (v := .int (s 146 41)) ja_M_cannot_10 rfl (by decide) ⟨rfl, by decide⟩ rfl ?_
      refine q_goto ja_M_cannot_13 ?_
      refine q_putf (pc' := 23) ja_M_cannot_20 rfl (by decide) rfl rfl rfl ?_
      intro s4 e4
      refine q_vret ja_M_cannot_23 rfl ?_
      show q_W _ _ _ _ 12 [some (.ref 146)] [] s4
      refine q_aload_n (pc' := 13) ja_M_opens_12 rfl rfl ?_
      refine q_dup (pc' := 14) ja_M_opens_13 rfl rfl ?_
      refine q_getf (pc' := 17) (v := .int (s4 146 45)) ja_M_opens_14 rfl (by decide) ⟨rfl, by decide⟩ rfl ?_
      refine q_iconst (pc' := 18) ja_M_opens_17 rfl 1 (by decide) ?_
      refine q_iadd (pc' := 19) ja_M_opens_18 rfl ?_
      refine q_putf (pc' := 22) ja_M_opens_19 rfl (by decide) rfl rfl rfl ?_
      intro s5 e5
      refine q_aload_n (pc' := 23) ja_M_opens_22 rfl rfl ?_
      refine q_virt (pc' := 26) (c := 146) (as := []) (r := []) ja_M_opens_23 rfl rfl rfl (by decide) ⟨rfl, by decide⟩ ?_
      refine q_in (M := jm_M_isWrong) rfl (Nat.le_of_ble_eq_true rfl) (ls := [some (.ref 146)]) rfl ?_
      refine q_aload_n (pc' := 1) ja_M_isWrong_0 rfl rfl ?_
      refine q_getf (pc' := 4) (v := .int (s5 146 44)) ja_M_isWrong_1 rfl (by decide) ⟨rfl, by decide⟩ rfl ?_
      refine q_iconst (pc' := 5) ja_M_isWrong_4 rfl (-1) (by decide) ?_
      refine q_ic_eq (pc' := 8) ja_M_isWrong_5 rfl ?_ ?_
      · intro h9
        refine q_iconst (pc' := 13) ja_M_isWrong_12 rfl 0 (by decide) ?_
        refine q_iret ja_M_isWrong_13 rfl (by decide) ?_
        show q_W _ _ _ _ 26 [some (.ref 146)] [.int 0] s5
        refine q_if_ne (pc' := 29) ja_M_opens_26 rfl (fun h => absurd ((by decide : (0 : Int32) = 0)) h) (fun _ => ?_)
        refine q_aload_n (pc' := 30) ja_M_opens_29 rfl rfl ?_
        refine q_virt (pc' := 33) (c := 146) (as := []) (r := []) ja_M_opens_30 rfl rfl rfl (by decide) ⟨rfl, by decide⟩ ?_
        exact (k5 h4 h8 s4 e4 s5 e5 h9)
      · intro h10
        refine q_iconst (pc' := 9) ja_M_isWrong_8 rfl 1 (by decide) ?_
        refine q_goto ja_M_isWrong_9 ?_
        refine q_iret ja_M_isWrong_13 rfl (by decide) ?_
        show q_W _ _ _ _ 26 [some (.ref 146)] [.int 1] s5
        refine q_if_ne (pc' := 29) ja_M_opens_26 rfl (fun _ => ?_) (fun h => absurd h ((by decide : ¬ (1 : Int32) = 0)))
        exact q_vret ja_M_opens_33 rfl (k6 h4 h8 s4 e4 s5 e5 h10)
set_option maxRecDepth 20000 in
theorem t_M_opens_33 {G : jv_X} {d : Nat} {B : Option Value → jg_H → Prop} {s : jg_H} 
    (k1 : B none s) :
    q_W G (d + 1) jm_M_opens B 33 [some (.ref 146)] [] s := by
  exact q_vret ja_M_opens_33 rfl k1
set_option maxRecDepth 20000 in
theorem t_M_pair {G : jv_X} {d : Nat} {B : Option Value → jg_H → Prop} {s : jg_H} (a1 : Int32) (a2 : Int32)
    (k1 : a1 < 0 → B (some (.int (-2))) s)
    (k2 : ¬ a1 < 0 → ¬ a1 ≤ ((s 146 0) - 1) → B (some (.int (-2))) s)
    (k3 : ¬ a1 < 0 → a1 ≤ ((s 146 0) - 1) → a2 < 0 → B (some (.int (-2))) s)
    (k4 : ¬ a1 < 0 → a1 ≤ ((s 146 0) - 1) → ¬ a2 < 0 → ¬ a2 ≤ ((s 146 0) - 1) → B (some (.int (-2))) s)
    (k5 : ¬ a1 < 0 → a1 ≤ ((s 146 0) - 1) → ¬ a2 < 0 → a2 ≤ ((s 146 0) - 1) → ¬ a1 = a2 → jv_in a1 15 = true)
    (k6 : ¬ a1 < 0 → a1 ≤ ((s 146 0) - 1) → ¬ a2 < 0 → a2 ≤ ((s 146 0) - 1) → ¬ a1 = a2 → ¬ (s 149 a1.toNatClampNeg) = (-1) → B (some (.int (-3))) s)
    (k7 : ¬ a1 < 0 → a1 ≤ ((s 146 0) - 1) → ¬ a2 < 0 → a2 ≤ ((s 146 0) - 1) → ¬ a1 = a2 → (s 149 a1.toNatClampNeg) = (-1) → jv_in a2 15 = true)
    (k8 : ¬ a1 < 0 → a1 ≤ ((s 146 0) - 1) → ¬ a2 < 0 → a2 ≤ ((s 146 0) - 1) → ¬ a1 = a2 → (s 149 a1.toNatClampNeg) = (-1) → (s 149 a2.toNatClampNeg) = (-1) → jv_in a1 15 = true)
    (k9 : ¬ a1 < 0 → a1 ≤ ((s 146 0) - 1) → ¬ a2 < 0 → a2 ≤ ((s 146 0) - 1) → ¬ a1 = a2 → (s 149 a1.toNatClampNeg) = (-1) → (s 149 a2.toNatClampNeg) = (-1) → ∀ s1 : jg_H, s1 = jg_up s 149 a1.toNatClampNeg a2 → jv_in a2 15 = true)
    (k10 : ¬ a1 < 0 → a1 ≤ ((s 146 0) - 1) → ¬ a2 < 0 → a2 ≤ ((s 146 0) - 1) → ¬ a1 = a2 → (s 149 a1.toNatClampNeg) = (-1) → (s 149 a2.toNatClampNeg) = (-1) → ∀ s1 : jg_H, s1 = jg_up s 149 a1.toNatClampNeg a2 → ∀ s2 : jg_H, s2 = jg_up s1 149 a2.toNatClampNeg a1 → B (some (.int 1)) s2)
    (k11 : ¬ a1 < 0 → a1 ≤ ((s 146 0) - 1) → ¬ a2 < 0 → a2 ≤ ((s 146 0) - 1) → ¬ a1 = a2 → (s 149 a1.toNatClampNeg) = (-1) → ¬ (s 149 a2.toNatClampNeg) = (-1) → B (some (.int (-3))) s)
    (k12 : ¬ a1 < 0 → a1 ≤ ((s 146 0) - 1) → ¬ a2 < 0 → a2 ≤ ((s 146 0) - 1) → a1 = a2 → B (some (.int (-2))) s) :
    q_P G (d + 3) 157 [.ref 146, .int a1, .int a2] s B := by
  refine q_in (M := jm_M_pair) rfl (Nat.le_of_ble_eq_true rfl) (ls := [some (.ref 146), some (.int a1), some (.int a2)]) rfl ?_
  refine q_aload_n (pc' := 1) ja_M_pair_0 rfl rfl ?_
  refine q_iload_n (pc' := 2) ja_M_pair_1 rfl rfl ?_
  refine q_virt (pc' := 5) (c := 146) (as := [.int a1]) (r := []) ja_M_pair_2 rfl rfl rfl (by decide) ⟨rfl, by decide⟩ ?_
  refine q_in (M := jm_M_isMember) rfl (Nat.le_of_ble_eq_true rfl) (ls := [some (.ref 146), some (.int a1)]) rfl ?_
  refine q_iload_n (pc' := 1) ja_M_isMember_0 rfl rfl ?_
  refine q_iconst (pc' := 2) ja_M_isMember_1 rfl 0 (by decide) ?_
  refine q_aload_n (pc' := 3) ja_M_isMember_2 rfl rfl ?_
  refine q_getf (pc' := 6) (v := .int (s 146 0)) ja_M_isMember_3 rfl (by decide) ⟨rfl, by decide⟩ rfl ?_
  refine q_iconst (pc' := 7) ja_M_isMember_6 rfl 1 (by decide) ?_
  refine q_isub (pc' := 8) ja_M_isMember_7 rfl ?_
  refine q_stat (pc' := 11) (as := [.int a1, .int 0, .int ((s 146 0) - 1)]) (r := []) ja_M_isMember_8 rfl (by decide) rfl rfl ?_
  refine q_in (M := jm_M_in) rfl (Nat.le_of_ble_eq_true rfl) (ls := [some (.int a1), some (.int 0), some (.int ((s 146 0) - 1))]) rfl ?_
  refine q_iload_n (pc' := 1) ja_M_in_0 rfl rfl ?_
  refine q_iload_n (pc' := 2) ja_M_in_1 rfl rfl ?_
  refine q_ic_lt (pc' := 5) ja_M_in_2 rfl ?_ ?_
  · intro h1
    refine q_iconst (pc' := 15) ja_M_in_14 rfl 0 (by decide) ?_
    refine q_iret ja_M_in_15 rfl (by decide) ?_
    show q_W _ _ _ _ 11 [some (.ref 146), some (.int a1)] [.int 0] s
    refine q_iret ja_M_isMember_11 rfl (by decide) ?_
    show q_W _ _ _ _ 5 [some (.ref 146), some (.int a1), some (.int a2)] [.int 0] s
    refine q_if_eq (pc' := 8) ja_M_pair_5 rfl (fun _ => ?_) (fun h => absurd ((by decide : (0 : Int32) = 0)) h)
    refine q_bipush (pc' := 23) ja_M_pair_21 rfl (-2) (by decide) ?_
    exact q_iret ja_M_pair_23 rfl rfl (k1 h1)
  · intro h2
    refine q_iload_n (pc' := 6) ja_M_in_5 rfl rfl ?_
    refine q_iload_n (pc' := 7) ja_M_in_6 rfl rfl ?_
    refine q_ic_gt (pc' := 10) ja_M_in_7 rfl ?_ ?_
    · intro h3
      refine q_iconst (pc' := 15) ja_M_in_14 rfl 0 (by decide) ?_
      refine q_iret ja_M_in_15 rfl (by decide) ?_
      show q_W _ _ _ _ 11 [some (.ref 146), some (.int a1)] [.int 0] s
      refine q_iret ja_M_isMember_11 rfl (by decide) ?_
      show q_W _ _ _ _ 5 [some (.ref 146), some (.int a1), some (.int a2)] [.int 0] s
      refine q_if_eq (pc' := 8) ja_M_pair_5 rfl (fun _ => ?_) (fun h => absurd ((by decide : (0 : Int32) = 0)) h)
      refine q_bipush (pc' := 23) ja_M_pair_21 rfl (-2) (by decide) ?_
      exact q_iret ja_M_pair_23 rfl rfl (k2 h2 h3)
    · intro h4
      refine q_iconst (pc' := 11) ja_M_in_10 rfl 1 (by decide) ?_
      refine q_goto ja_M_in_11 ?_
      refine q_iret ja_M_in_15 rfl (by decide) ?_
      show q_W _ _ _ _ 11 [some (.ref 146), some (.int a1)] [.int 1] s
      refine q_iret ja_M_isMember_11 rfl (by decide) ?_
      show q_W _ _ _ _ 5 [some (.ref 146), some (.int a1), some (.int a2)] [.int 1] s
      refine q_if_eq (pc' := 8) ja_M_pair_5 rfl (fun h => absurd h ((by decide : ¬ (1 : Int32) = 0))) (fun _ => ?_)
      refine q_aload_n (pc' := 9) ja_M_pair_8 rfl rfl ?_
      refine q_iload_n (pc' := 10) ja_M_pair_9 rfl rfl ?_
      refine q_virt (pc' := 13) (c := 146) (as := [.int a2]) (r := []) ja_M_pair_10 rfl rfl rfl (by decide) ⟨rfl, by decide⟩ ?_
      refine q_in (M := jm_M_isMember) rfl (Nat.le_of_ble_eq_true rfl) (ls := [some (.ref 146), some (.int a2)]) rfl ?_
      refine q_iload_n (pc' := 1) ja_M_isMember_0 rfl rfl ?_
      refine q_iconst (pc' := 2) ja_M_isMember_1 rfl 0 (by decide) ?_
      refine q_aload_n (pc' := 3) ja_M_isMember_2 rfl rfl ?_
      refine q_getf (pc' := 6) (v := .int (s 146 0)) ja_M_isMember_3 rfl (by decide) ⟨rfl, by decide⟩ rfl ?_
      refine q_iconst (pc' := 7) ja_M_isMember_6 rfl 1 (by decide) ?_
      refine q_isub (pc' := 8) ja_M_isMember_7 rfl ?_
      refine q_stat (pc' := 11) (as := [.int a2, .int 0, .int ((s 146 0) - 1)]) (r := []) ja_M_isMember_8 rfl (by decide) rfl rfl ?_
      refine q_in (M := jm_M_in) rfl (Nat.le_of_ble_eq_true rfl) (ls := [some (.int a2), some (.int 0), some (.int ((s 146 0) - 1))]) rfl ?_
      refine q_iload_n (pc' := 1) ja_M_in_0 rfl rfl ?_
      refine q_iload_n (pc' := 2) ja_M_in_1 rfl rfl ?_
      refine q_ic_lt (pc' := 5) ja_M_in_2 rfl ?_ ?_
      · intro h5
        refine q_iconst (pc' := 15) ja_M_in_14 rfl 0 (by decide) ?_
        refine q_iret ja_M_in_15 rfl (by decide) ?_
        show q_W _ _ _ _ 11 [some (.ref 146), some (.int a2)] [.int 0] s
        refine q_iret ja_M_isMember_11 rfl (by decide) ?_
        show q_W _ _ _ _ 13 [some (.ref 146), some (.int a1), some (.int a2)] [.int 0] s
        refine q_if_eq (pc' := 16) ja_M_pair_13 rfl (fun _ => ?_) (fun h => absurd ((by decide : (0 : Int32) = 0)) h)
        refine q_bipush (pc' := 23) ja_M_pair_21 rfl (-2) (by decide) ?_
        exact q_iret ja_M_pair_23 rfl rfl (k3 h2 h4 h5)
      · intro h6
        refine q_iload_n (pc' := 6) ja_M_in_5 rfl rfl ?_
        refine q_iload_n (pc' := 7) ja_M_in_6 rfl rfl ?_
        refine q_ic_gt (pc' := 10) ja_M_in_7 rfl ?_ ?_
        · intro h7
          refine q_iconst (pc' := 15) ja_M_in_14 rfl 0 (by decide) ?_
          refine q_iret ja_M_in_15 rfl (by decide) ?_
          show q_W _ _ _ _ 11 [some (.ref 146), some (.int a2)] [.int 0] s
          refine q_iret ja_M_isMember_11 rfl (by decide) ?_
          show q_W _ _ _ _ 13 [some (.ref 146), some (.int a1), some (.int a2)] [.int 0] s
          refine q_if_eq (pc' := 16) ja_M_pair_13 rfl (fun _ => ?_) (fun h => absurd ((by decide : (0 : Int32) = 0)) h)
          refine q_bipush (pc' := 23) ja_M_pair_21 rfl (-2) (by decide) ?_
          exact q_iret ja_M_pair_23 rfl rfl (k4 h2 h4 h6 h7)
        · intro h8
          refine q_iconst (pc' := 11) ja_M_in_10 rfl 1 (by decide) ?_
          refine q_goto ja_M_in_11 ?_
          refine q_iret ja_M_in_15 rfl (by decide) ?_
          show q_W _ _ _ _ 11 [some (.ref 146), some (.int a2)] [.int 1] s
          refine q_iret ja_M_isMember_11 rfl (by decide) ?_
          show q_W _ _ _ _ 13 [some (.ref 146), some (.int a1), some (.int a2)] [.int 1] s
          refine q_if_eq (pc' := 16) ja_M_pair_13 rfl (fun h => absurd h ((by decide : ¬ (1 : Int32) = 0))) (fun _ => ?_)
          refine q_iload_n (pc' := 17) ja_M_pair_16 rfl rfl ?_
          refine q_iload_n (pc' := 18) ja_M_pair_17 rfl rfl ?_
          refine q_ic_ne (pc' := 21) ja_M_pair_18 rfl ?_ ?_
          · intro h9
            refine q_aload_n (pc' := 25) ja_M_pair_24 rfl rfl ?_
            refine q_getf (pc' := 28) (v := .ref 149) ja_M_pair_25 rfl (by decide) ⟨rfl, by decide⟩ rfl ?_
            refine q_iload_n (pc' := 29) ja_M_pair_28 rfl rfl ?_
            refine q_iald (pc' := 30) (v := .int (s 149 a1.toNatClampNeg)) ja_M_pair_29 rfl (by decide) (l := 15) rfl (k5 h2 h4 h6 h8 h9) rfl ?_
            refine q_iconst (pc' := 31) ja_M_pair_30 rfl (-1) (by decide) ?_
            refine q_ic_ne (pc' := 34) ja_M_pair_31 rfl ?_ ?_
            · intro h10
              refine q_bipush (pc' := 46) ja_M_pair_44 rfl (-3) (by decide) ?_
              exact q_iret ja_M_pair_46 rfl rfl (k6 h2 h4 h6 h8 h9 h10)
            · intro h11
              refine q_aload_n (pc' := 35) ja_M_pair_34 rfl rfl ?_
              refine q_getf (pc' := 38) (v := .ref 149) ja_M_pair_35 rfl (by decide) ⟨rfl, by decide⟩ rfl ?_
              refine q_iload_n (pc' := 39) ja_M_pair_38 rfl rfl ?_
              refine q_iald (pc' := 40) (v := .int (s 149 a2.toNatClampNeg)) ja_M_pair_39 rfl (by decide) (l := 15) rfl (k7 h2 h4 h6 h8 h9 h11) rfl ?_
              refine q_iconst (pc' := 41) ja_M_pair_40 rfl (-1) (by decide) ?_
              refine q_ic_eq (pc' := 44) ja_M_pair_41 rfl ?_ ?_
              · intro h12
                refine q_aload_n (pc' := 48) ja_M_pair_47 rfl rfl ?_
                refine q_getf (pc' := 51) (v := .ref 149) ja_M_pair_48 rfl (by decide) ⟨rfl, by decide⟩ rfl ?_
                refine q_iload_n (pc' := 52) ja_M_pair_51 rfl rfl ?_
                refine q_iload_n (pc' := 53) ja_M_pair_52 rfl rfl ?_
                refine q_iast (pc' := 54) ja_M_pair_53 rfl (by decide) (l := 15) rfl (k8 h2 h4 h6 h8 h9 h11 h12) ?_
                intro s1 e1
                refine q_aload_n (pc' := 55) ja_M_pair_54 rfl rfl ?_
                refine q_getf (pc' := 58) (v := .ref 149) ja_M_pair_55 rfl (by decide) ⟨rfl, by decide⟩ rfl ?_
                refine q_iload_n (pc' := 59) ja_M_pair_58 rfl rfl ?_
                refine q_iload_n (pc' := 60) ja_M_pair_59 rfl rfl ?_
                refine q_iast (pc' := 61) ja_M_pair_60 rfl (by decide) (l := 15) rfl (k9 h2 h4 h6 h8 h9 h11 h12 s1 e1) ?_
                intro s2 e2
                refine q_iconst (pc' := 62) ja_M_pair_61 rfl 1 (by decide) ?_
                exact q_iret ja_M_pair_62 rfl rfl (k10 h2 h4 h6 h8 h9 h11 h12 s1 e1 s2 e2)
              · intro h13
                refine q_bipush (pc' := 46) ja_M_pair_44 rfl (-3) (by decide) ?_
                exact q_iret ja_M_pair_46 rfl rfl (k11 h2 h4 h6 h8 h9 h11 h13)
          · intro h14
            refine q_bipush (pc' := 23) ja_M_pair_21 rfl (-2) (by decide) ?_
            exact q_iret ja_M_pair_23 rfl rfl (k12 h2 h4 h6 h8 h14)
set_option maxRecDepth 20000 in
theorem t_M_part {G : jv_X} {d : Nat} {B : Option Value → jg_H → Prop} {s : jg_H} (a1 : Int32)
    (k1 : a1 < 0 → B (some (.int (-2))) s)
    (k2 : ¬ a1 < 0 → ¬ a1 ≤ ((s 146 0) - 1) → B (some (.int (-2))) s)
    (k3 : ¬ a1 < 0 → a1 ≤ ((s 146 0) - 1) → jv_in a1 15 = true)
    (k4 : ¬ a1 < 0 → a1 ≤ ((s 146 0) - 1) → ¬ (s 149 a1.toNatClampNeg) = (-1) → jv_in a1 15 = true)
    (k5 : ¬ a1 < 0 → a1 ≤ ((s 146 0) - 1) → ¬ (s 149 a1.toNatClampNeg) = (-1) → ∀ s1 : jg_H, s1 = jg_up s 149 a1.toNatClampNeg (-1) → jv_in (s 149 a1.toNatClampNeg) 15 = true)
    (k6 : ¬ a1 < 0 → a1 ≤ ((s 146 0) - 1) → ¬ (s 149 a1.toNatClampNeg) = (-1) → ∀ s1 : jg_H, s1 = jg_up s 149 a1.toNatClampNeg (-1) → ∀ s2 : jg_H, s2 = jg_up s1 149 (s 149 a1.toNatClampNeg).toNatClampNeg (-1) → B (some (.int (s 149 a1.toNatClampNeg))) s2)
    (k7 : ¬ a1 < 0 → a1 ≤ ((s 146 0) - 1) → (s 149 a1.toNatClampNeg) = (-1) → B (some (.int (-3))) s) :
    q_P G (d + 3) 158 [.ref 146, .int a1] s B := by
  refine q_in (M := jm_M_part) rfl (Nat.le_of_ble_eq_true rfl) (ls := [some (.ref 146), some (.int a1), none]) rfl ?_
  refine q_aload_n (pc' := 1) ja_M_part_0 rfl rfl ?_
  refine q_iload_n (pc' := 2) ja_M_part_1 rfl rfl ?_
  refine q_virt (pc' := 5) (c := 146) (as := [.int a1]) (r := []) ja_M_part_2 rfl rfl rfl (by decide) ⟨rfl, by decide⟩ ?_
  refine q_in (M := jm_M_isMember) rfl (Nat.le_of_ble_eq_true rfl) (ls := [some (.ref 146), some (.int a1)]) rfl ?_
  refine q_iload_n (pc' := 1) ja_M_isMember_0 rfl rfl ?_
  refine q_iconst (pc' := 2) ja_M_isMember_1 rfl 0 (by decide) ?_
  refine q_aload_n (pc' := 3) ja_M_isMember_2 rfl rfl ?_
  refine q_getf (pc' := 6) (v := .int (s 146 0)) ja_M_isMember_3 rfl (by decide) ⟨rfl, by decide⟩ rfl ?_
  refine q_iconst (pc' := 7) ja_M_isMember_6 rfl 1 (by decide) ?_
  refine q_isub (pc' := 8) ja_M_isMember_7 rfl ?_
  refine q_stat (pc' := 11) (as := [.int a1, .int 0, .int ((s 146 0) - 1)]) (r := []) ja_M_isMember_8 rfl (by decide) rfl rfl ?_
  refine q_in (M := jm_M_in) rfl (Nat.le_of_ble_eq_true rfl) (ls := [some (.int a1), some (.int 0), some (.int ((s 146 0) - 1))]) rfl ?_
  refine q_iload_n (pc' := 1) ja_M_in_0 rfl rfl ?_
  refine q_iload_n (pc' := 2) ja_M_in_1 rfl rfl ?_
  refine q_ic_lt (pc' := 5) ja_M_in_2 rfl ?_ ?_
  · intro h1
    refine q_iconst (pc' := 15) ja_M_in_14 rfl 0 (by decide) ?_
    refine q_iret ja_M_in_15 rfl (by decide) ?_
    show q_W _ _ _ _ 11 [some (.ref 146), some (.int a1)] [.int 0] s
    refine q_iret ja_M_isMember_11 rfl (by decide) ?_
    show q_W _ _ _ _ 5 [some (.ref 146), some (.int a1), none] [.int 0] s
    refine q_if_ne (pc' := 8) ja_M_part_5 rfl (fun h => absurd ((by decide : (0 : Int32) = 0)) h) (fun _ => ?_)
    refine q_bipush (pc' := 10) ja_M_part_8 rfl (-2) (by decide) ?_
    exact q_iret ja_M_part_10 rfl rfl (k1 h1)
  · intro h2
    refine q_iload_n (pc' := 6) ja_M_in_5 rfl rfl ?_
    refine q_iload_n (pc' := 7) ja_M_in_6 rfl rfl ?_
    refine q_ic_gt (pc' := 10) ja_M_in_7 rfl ?_ ?_
    · intro h3
      refine q_iconst (pc' := 15) ja_M_in_14 rfl 0 (by decide) ?_
      refine q_iret ja_M_in_15 rfl (by decide) ?_
      show q_W _ _ _ _ 11 [some (.ref 146), some (.int a1)] [.int 0] s
      refine q_iret ja_M_isMember_11 rfl (by decide) ?_
      show q_W _ _ _ _ 5 [some (.ref 146), some (.int a1), none] [.int 0] s
      refine q_if_ne (pc' := 8) ja_M_part_5 rfl (fun h => absurd ((by decide : (0 : Int32) = 0)) h) (fun _ => ?_)
      refine q_bipush (pc' := 10) ja_M_part_8 rfl (-2) (by decide) ?_
      exact q_iret ja_M_part_10 rfl rfl (k2 h2 h3)
    · intro h4
      refine q_iconst (pc' := 11) ja_M_in_10 rfl 1 (by decide) ?_
      refine q_goto ja_M_in_11 ?_
      refine q_iret ja_M_in_15 rfl (by decide) ?_
      show q_W _ _ _ _ 11 [some (.ref 146), some (.int a1)] [.int 1] s
      refine q_iret ja_M_isMember_11 rfl (by decide) ?_
      show q_W _ _ _ _ 5 [some (.ref 146), some (.int a1), none] [.int 1] s
      refine q_if_ne (pc' := 8) ja_M_part_5 rfl (fun _ => ?_) (fun h => absurd h ((by decide : ¬ (1 : Int32) = 0)))
      refine q_aload_n (pc' := 12) ja_M_part_11 rfl rfl ?_
      refine q_getf (pc' := 15) (v := .ref 149) ja_M_part_12 rfl (by decide) ⟨rfl, by decide⟩ rfl ?_
      refine q_iload_n (pc' := 16) ja_M_part_15 rfl rfl ?_
      refine q_iald (pc' := 17) (v := .int (s 149 a1.toNatClampNeg)) ja_M_part_16 rfl (by decide) (l := 15) rfl (k3 h2 h4) rfl ?_
      refine q_istore_n (pc' := 18) (ls' := [some (.ref 146), some (.int a1), some (.int (s 149 a1.toNatClampNeg))]) ja_M_part_17 rfl ⟨Nat.le_of_ble_eq_true rfl, rfl⟩ rfl ?_
      refine q_iload_n (pc' := 19) ja_M_part_18 rfl rfl ?_
      refine q_iconst (pc' := 20) ja_M_part_19 rfl (-1) (by decide) ?_
      refine q_ic_ne (pc' := 23) ja_M_part_20 rfl ?_ ?_
      · intro h5
        refine q_aload_n (pc' := 27) ja_M_part_26 rfl rfl ?_
        refine q_getf (pc' := 30) (v := .ref 149) ja_M_part_27 rfl (by decide) ⟨rfl, by decide⟩ rfl ?_
        refine q_iload_n (pc' := 31) ja_M_part_30 rfl rfl ?_
        refine q_iconst (pc' := 32) ja_M_part_31 rfl (-1) (by decide) ?_
        refine q_iast (pc' := 33) ja_M_part_32 rfl (by decide) (l := 15) rfl (k4 h2 h4 h5) ?_
        intro s1 e1
        refine q_aload_n (pc' := 34) ja_M_part_33 rfl rfl ?_
        refine q_getf (pc' := 37) (v := .ref 149) ja_M_part_34 rfl (by decide) ⟨rfl, by decide⟩ rfl ?_
        refine q_iload_n (pc' := 38) ja_M_part_37 rfl rfl ?_
        refine q_iconst (pc' := 39) ja_M_part_38 rfl (-1) (by decide) ?_
        refine q_iast (pc' := 40) ja_M_part_39 rfl (by decide) (l := 15) rfl (k5 h2 h4 h5 s1 e1) ?_
        intro s2 e2
        refine q_iload_n (pc' := 41) ja_M_part_40 rfl rfl ?_
        exact q_iret ja_M_part_41 rfl rfl (k6 h2 h4 h5 s1 e1 s2 e2)
      · intro h6
        refine q_bipush (pc' := 25) ja_M_part_23 rfl (-3) (by decide) ?_
        exact q_iret ja_M_part_25 rfl rfl (k7 h2 h4 h6)
set_option maxRecDepth 20000 in
theorem t_M_placeOf {G : jv_X} {d : Nat} {B : Option Value → jg_H → Prop} {s : jg_H} (a1 : Int32)
    (k1 : q_W G d jm_M_placeOf B 2 [some (.ref 146), some (.int a1), some (.int 0)] [] s) :
    q_P G (d + 1) 165 [.ref 146, .int a1] s B := by
  refine q_in (M := jm_M_placeOf) rfl (Nat.le_of_ble_eq_true rfl) (ls := [some (.ref 146), some (.int a1), none]) rfl ?_
  refine q_iconst (pc' := 1) ja_M_placeOf_0 rfl 0 (by decide) ?_
  refine q_istore_n (pc' := 2) (ls' := [some (.ref 146), some (.int a1), some (.int 0)]) ja_M_placeOf_1 rfl ⟨Nat.le_of_ble_eq_true rfl, rfl⟩ rfl ?_
  exact k1
set_option maxRecDepth 20000 in
theorem t_M_placeOf_2 {G : jv_X} {d : Nat} {B : Option Value → jg_H → Prop} {s : jg_H} (x1 : Int32) (x2 : Int32)
    (k1 : ¬ x2 < (s 146 11) → B (some (.int (-1))) s)
    (k2 : x2 < (s 146 11) → jv_in x2 8 = true)
    (k3 : x2 < (s 146 11) → ¬ (s 156 x2.toNatClampNeg) = x1 → q_W G d jm_M_placeOf B 2 [some (.ref 146), some (.int x1), some (.int (x2 + 1))] [] s)
    (k4 : x2 < (s 146 11) → (s 156 x2.toNatClampNeg) = x1 → B (some (.int x2)) s) :
    q_W G d jm_M_placeOf B 2 [some (.ref 146), some (.int x1), some (.int x2)] [] s := by
  refine q_iload_n (pc' := 3) ja_M_placeOf_2 rfl rfl ?_
  refine q_aload_n (pc' := 4) ja_M_placeOf_3 rfl rfl ?_
  refine q_getf (pc' := 7) (v := .int (s 146 11)) ja_M_placeOf_4 rfl (by decide) ⟨rfl, by decide⟩ rfl ?_
  refine q_ic_ge (pc' := 10) ja_M_placeOf_7 rfl ?_ ?_
  · intro h1
    refine q_iconst (pc' := 29) ja_M_placeOf_28 rfl (-1) (by decide) ?_
    exact q_iret ja_M_placeOf_29 rfl rfl (k1 h1)
  · intro h2
    refine q_aload_n (pc' := 11) ja_M_placeOf_10 rfl rfl ?_
    refine q_getf (pc' := 14) (v := .ref 156) ja_M_placeOf_11 rfl (by decide) ⟨rfl, by decide⟩ rfl ?_
    refine q_iload_n (pc' := 15) ja_M_placeOf_14 rfl rfl ?_
    refine q_iald (pc' := 16) (v := .int (s 156 x2.toNatClampNeg)) ja_M_placeOf_15 rfl (by decide) (l := 8) rfl (k2 h2) rfl ?_
    refine q_iload_n (pc' := 17) ja_M_placeOf_16 rfl rfl ?_
    refine q_ic_ne (pc' := 20) ja_M_placeOf_17 rfl ?_ ?_
    · intro h3
      refine q_iinc (pc' := 25) (ls' := [some (.ref 146), some (.int x1), some (.int (x2 + 1))]) ja_M_placeOf_22 rfl rfl (x2 + 1) rfl ⟨Nat.le_of_ble_eq_true rfl, rfl⟩ rfl ?_
      refine q_goto ja_M_placeOf_25 ?_
      exact (k3 h2 h3)
    · intro h4
      refine q_iload_n (pc' := 21) ja_M_placeOf_20 rfl rfl ?_
      exact q_iret ja_M_placeOf_21 rfl rfl (k4 h2 h4)
set_option maxRecDepth 20000 in
theorem t_M_ranked {G : jv_X} {d : Nat} {B : Option Value → jg_H → Prop} {s : jg_H} (a1 : Int32) (a2 : Int32)
    (k1 : jv_in a2 15 = true)
    (k2 : q_P G d 178 [.ref 146, .int (s 146 15), .int 0, .int a1, .int (s 147 a2.toNatClampNeg), .int (s 146 18), .int 0, .int 0] s (fun v t => q_W G d jm_M_ranked B 22 [some (.ref 146), some (.int a1), some (.int a2)] (v.toList ++ []) t)) :
    q_P G (d + 1) 185 [.ref 146, .int a1, .int a2] s B := by
  refine q_in (M := jm_M_ranked) rfl (Nat.le_of_ble_eq_true rfl) (ls := [some (.ref 146), some (.int a1), some (.int a2)]) rfl ?_
  refine q_aload_n (pc' := 1) ja_M_ranked_0 rfl rfl ?_
  refine q_aload_n (pc' := 2) ja_M_ranked_1 rfl rfl ?_
  refine q_getf (pc' := 5) (v := .int (s 146 15)) ja_M_ranked_2 rfl (by decide) ⟨rfl, by decide⟩ rfl ?_
  refine q_iconst (pc' := 6) ja_M_ranked_5 rfl 0 (by decide) ?_
  refine q_iload_n (pc' := 7) ja_M_ranked_6 rfl rfl ?_
  refine q_aload_n (pc' := 8) ja_M_ranked_7 rfl rfl ?_
  refine q_getf (pc' := 11) (v := .ref 147) ja_M_ranked_8 rfl (by decide) ⟨rfl, by decide⟩ rfl ?_
  refine q_iload_n (pc' := 12) ja_M_ranked_11 rfl rfl ?_
  refine q_iald (pc' := 13) (v := .int (s 147 a2.toNatClampNeg)) ja_M_ranked_12 rfl (by decide) (l := 15) rfl k1 rfl ?_
  refine q_aload_n (pc' := 14) ja_M_ranked_13 rfl rfl ?_
  refine q_getf (pc' := 17) (v := .int (s 146 18)) ja_M_ranked_14 rfl (by decide) ⟨rfl, by decide⟩ rfl ?_
  refine q_iconst (pc' := 18) ja_M_ranked_17 rfl 0 (by decide) ?_
  refine q_iconst (pc' := 19) ja_M_ranked_18 rfl 0 (by decide) ?_
  refine q_virt (pc' := 22) (c := 146) (as := [.int (s 146 15), .int 0, .int a1, .int (s 147 a2.toNatClampNeg), .int (s 146 18), .int 0, .int 0]) (r := []) ja_M_ranked_19 rfl rfl rfl (by decide) ⟨rfl, by decide⟩ ?_
  exact k2
set_option maxRecDepth 20000 in
theorem t_M_ranked_22 {G : jv_X} {d : Nat} {B : Option Value → jg_H → Prop} {s : jg_H} (x1 : Int32) (x2 : Int32) (y0 : Int32)
    (k1 : B (some (.int y0)) s) :
    q_W G d jm_M_ranked B 22 [some (.ref 146), some (.int x1), some (.int x2)] [.int y0] s := by
  exact q_iret ja_M_ranked_22 rfl rfl k1
set_option maxRecDepth 20000 in
theorem t_M_reads {G : jv_X} {d : Nat} {B : Option Value → jg_H → Prop} {s : jg_H} (a1 : Int32)
    (k1 : ∀ s1 : jg_H, s1 = jg_up s 146 39 a1 → ∀ s2 : jg_H, s2 = jg_up s1 146 40 0 → ∀ s3 : jg_H, s3 = jg_up s2 146 44 (-1) → ∀ s4 : jg_H, s4 = jg_up s3 146 45 0 → ∀ s5 : jg_H, s5 = jg_up s4 146 46 0 → q_P G d 134 [.ref 146] s5 (fun v t => q_W G d jm_M_reads B 29 [some (.ref 146), some (.int a1), none] (v.toList ++ []) t)) :
    q_P G (d + 1) 133 [.ref 146, .int a1] s B := by
  refine q_in (M := jm_M_reads) rfl (Nat.le_of_ble_eq_true rfl) (ls := [some (.ref 146), some (.int a1), none]) rfl ?_
  refine q_aload_n (pc' := 1) ja_M_reads_0 rfl rfl ?_
  refine q_iload_n (pc' := 2) ja_M_reads_1 rfl rfl ?_
  refine q_putf (pc' := 5) ja_M_reads_2 rfl (by decide) rfl rfl rfl ?_
  intro s1 e1
  refine q_aload_n (pc' := 6) ja_M_reads_5 rfl rfl ?_
  refine q_iconst (pc' := 7) ja_M_reads_6 rfl 0 (by decide) ?_
  refine q_putf (pc' := 10) ja_M_reads_7 rfl (by decide) rfl rfl rfl ?_
  intro s2 e2
  refine q_aload_n (pc' := 11) ja_M_reads_10 rfl rfl ?_
  refine q_iconst (pc' := 12) ja_M_reads_11 rfl (-1) (by decide) ?_
  refine q_putf (pc' := 15) ja_M_reads_12 rfl (by decide) rfl rfl rfl ?_
  intro s3 e3
  refine q_aload_n (pc' := 16) ja_M_reads_15 rfl rfl ?_
  refine q_iconst (pc' := 17) ja_M_reads_16 rfl 0 (by decide) ?_
  refine q_putf (pc' := 20) ja_M_reads_17 rfl (by decide) rfl rfl rfl ?_
  intro s4 e4
  refine q_aload_n (pc' := 21) ja_M_reads_20 rfl rfl ?_
  refine q_iconst (pc' := 22) ja_M_reads_21 rfl 0 (by decide) ?_
  refine q_putf (pc' := 25) ja_M_reads_22 rfl (by decide) rfl rfl rfl ?_
  intro s5 e5
  refine q_aload_n (pc' := 26) ja_M_reads_25 rfl rfl ?_
  refine q_virt (pc' := 29) (c := 146) (as := []) (r := []) ja_M_reads_26 rfl rfl rfl (by decide) ⟨rfl, by decide⟩ ?_
  exact (k1 s1 e1 s2 e2 s3 e3 s4 e4 s5 e5)
set_option maxRecDepth 20000 in
theorem t_M_reads_29 {G : jv_X} {d : Nat} {B : Option Value → jg_H → Prop} {s : jg_H} (x1 : Int32)
    (k1 : q_W G d jm_M_reads B 31 [some (.ref 146), some (.int x1), some (.int 0)] [] s) :
    q_W G d jm_M_reads B 29 [some (.ref 146), some (.int x1), none] [] s := by
  refine q_iconst (pc' := 30) ja_M_reads_29 rfl 0 (by decide) ?_
  refine q_istore_n (pc' := 31) (ls' := [some (.ref 146), some (.int x1), some (.int 0)]) ja_M_reads_30 rfl ⟨Nat.le_of_ble_eq_true rfl, rfl⟩ rfl ?_
  exact k1
set_option maxRecDepth 20000 in
theorem t_M_reads_31 {G : jv_X} {d : Nat} {B : Option Value → jg_H → Prop} {s : jg_H} (x1 : Int32) (x2 : Int32)
    (k1 : ¬ x2 < 4 → jv_in ((5 * x1) + 4) 45 = true)
    (k2 : ¬ x2 < 4 → ∀ s1 : jg_H, s1 = jg_up s 165 ((5 * x1) + 4).toNatClampNeg (s 146 46) → q_P G d 140 [.ref 146, .int 0] s1 (fun v t => q_W G d jm_M_reads B 94 [some (.ref 146), some (.int x1), some (.int x2)] (v.toList ++ []) t))
    (k3 : x2 < 4 → jv_in ((5 * x1) + x2) 45 = true)
    (k4 : x2 < 4 → ∀ s2 : jg_H, s2 = jg_up s 165 ((5 * x1) + x2).toNatClampNeg (s 146 46) → q_P G d 140 [.ref 146, .int (300 + x2)] s2 (fun v t => q_W G d jm_M_reads B 59 [some (.ref 146), some (.int x1), some (.int x2)] (v.toList ++ []) t)) :
    q_W G d jm_M_reads B 31 [some (.ref 146), some (.int x1), some (.int x2)] [] s := by
  refine q_iload_n (pc' := 32) ja_M_reads_31 rfl rfl ?_
  refine q_iconst (pc' := 33) ja_M_reads_32 rfl 4 (by decide) ?_
  refine q_ic_ge (pc' := 36) ja_M_reads_33 rfl ?_ ?_
  · intro h1
    refine q_aload_n (pc' := 76) ja_M_reads_75 rfl rfl ?_
    refine q_getf (pc' := 79) (v := .ref 165) ja_M_reads_76 rfl (by decide) ⟨rfl, by decide⟩ rfl ?_
    refine q_iconst (pc' := 80) ja_M_reads_79 rfl 5 (by decide) ?_
    refine q_iload_n (pc' := 81) ja_M_reads_80 rfl rfl ?_
    refine q_imul (pc' := 82) ja_M_reads_81 rfl ?_
    refine q_iconst (pc' := 83) ja_M_reads_82 rfl 4 (by decide) ?_
    refine q_iadd (pc' := 84) ja_M_reads_83 rfl ?_
    refine q_aload_n (pc' := 85) ja_M_reads_84 rfl rfl ?_
    refine q_getf (pc' := 88) (v := .int (s 146 46)) ja_M_reads_85 rfl (by decide) ⟨rfl, by decide⟩ rfl ?_
    refine q_iast (pc' := 89) ja_M_reads_88 rfl (by decide) (l := 45) rfl (k1 h1) ?_
    intro s1 e1
    refine q_aload_n (pc' := 90) ja_M_reads_89 rfl rfl ?_
    refine q_iconst (pc' := 91) ja_M_reads_90 rfl 0 (by decide) ?_
    refine q_virt (pc' := 94) (c := 146) (as := [.int 0]) (r := []) ja_M_reads_91 rfl rfl rfl (by decide) ⟨rfl, by decide⟩ ?_
    exact (k2 h1 s1 e1)
  · intro h2
    refine q_aload_n (pc' := 37) ja_M_reads_36 rfl rfl ?_
    refine q_getf (pc' := 40) (v := .ref 165) ja_M_reads_37 rfl (by decide) ⟨rfl, by decide⟩ rfl ?_
    refine q_iconst (pc' := 41) ja_M_reads_40 rfl 5 (by decide) ?_
    refine q_iload_n (pc' := 42) ja_M_reads_41 rfl rfl ?_
    refine q_imul (pc' := 43) ja_M_reads_42 rfl ?_
    refine q_iload_n (pc' := 44) ja_M_reads_43 rfl rfl ?_
    refine q_iadd (pc' := 45) ja_M_reads_44 rfl ?_
    refine q_aload_n (pc' := 46) ja_M_reads_45 rfl rfl ?_
    refine q_getf (pc' := 49) (v := .int (s 146 46)) ja_M_reads_46 rfl (by decide) ⟨rfl, by decide⟩ rfl ?_
    refine q_iast (pc' := 50) ja_M_reads_49 rfl (by decide) (l := 45) rfl (k3 h2) ?_
    intro s2 e2
    refine q_aload_n (pc' := 51) ja_M_reads_50 rfl rfl ?_
    refine q_sipush (pc' := 54) ja_M_reads_51 rfl 300 (by decide) ?_
    refine q_iload_n (pc' := 55) ja_M_reads_54 rfl rfl ?_
    refine q_iadd (pc' := 56) ja_M_reads_55 rfl ?_
    refine q_virt (pc' := 59) (c := 146) (as := [.int (300 + x2)]) (r := []) ja_M_reads_56 rfl rfl rfl (by decide) ⟨rfl, by decide⟩ ?_
    exact (k4 h2 s2 e2)
set_option maxRecDepth 20000 in
theorem t_M_reads_59 {G : jv_X} {d : Nat} {B : Option Value → jg_H → Prop} {s : jg_H} (x1 : Int32) (x2 : Int32)
    (k1 : q_P G d 143 [.ref 146] s (fun v t => q_W G d jm_M_reads B 63 [some (.ref 146), some (.int x1), some (.int x2)] (v.toList ++ []) t)) :
    q_W G d jm_M_reads B 59 [some (.ref 146), some (.int x1), some (.int x2)] [] s := by
  refine q_aload_n (pc' := 60) ja_M_reads_59 rfl rfl ?_
  refine q_virt (pc' := 63) (c := 146) (as := []) (r := []) ja_M_reads_60 rfl rfl rfl (by decide) ⟨rfl, by decide⟩ ?_
  exact k1
set_option maxRecDepth 20000 in
theorem t_M_reads_63 {G : jv_X} {d : Nat} {B : Option Value → jg_H → Prop} {s : jg_H} (x1 : Int32) (x2 : Int32)
    (k1 : q_P G d 140 [.ref 146, .int 59] s (fun v t => q_W G d jm_M_reads B 69 [some (.ref 146), some (.int x1), some (.int x2)] (v.toList ++ []) t)) :
    q_W G d jm_M_reads B 63 [some (.ref 146), some (.int x1), some (.int x2)] [] s := by
  refine q_aload_n (pc' := 64) ja_M_reads_63 rfl rfl ?_
  refine q_bipush (pc' := 66) ja_M_reads_64 rfl 59 (by decide) ?_
  refine q_virt (pc' := 69) (c := 146) (as := [.int 59]) (r := []) ja_M_reads_66 rfl rfl rfl (by decide) ⟨rfl, by decide⟩ ?_
  exact k1
set_option maxRecDepth 20000 in
theorem t_M_reads_69 {G : jv_X} {d : Nat} {B : Option Value → jg_H → Prop} {s : jg_H} (x1 : Int32) (x2 : Int32)
    (k1 : q_W G d jm_M_reads B 31 [some (.ref 146), some (.int x1), some (.int (x2 + 1))] [] s) :
    q_W G d jm_M_reads B 69 [some (.ref 146), some (.int x1), some (.int x2)] [] s := by
  refine q_iinc (pc' := 72) (ls' := [some (.ref 146), some (.int x1), some (.int (x2 + 1))]) ja_M_reads_69 rfl rfl (x2 + 1) rfl ⟨Nat.le_of_ble_eq_true rfl, rfl⟩ rfl ?_
  refine q_goto ja_M_reads_72 ?_
  exact k1
set_option maxRecDepth 20000 in
theorem t_M_reads_94 {G : jv_X} {d : Nat} {B : Option Value → jg_H → Prop} {s : jg_H} (x1 : Int32) (x2 : Int32)
    (k1 : B none s) :
    q_W G d jm_M_reads B 94 [some (.ref 146), some (.int x1), some (.int x2)] [] s := by
  exact q_vret ja_M_reads_94 rfl k1
set_option maxRecDepth 20000 in
theorem t_M_report {G : jv_X} {d : Nat} {B : Option Value → jg_H → Prop} {s : jg_H} (a1 : Int32)
    (k1 : a1 < 0 → B (some (.int (-2))) s)
    (k2 : ¬ a1 < 0 → ¬ a1 ≤ ((s 146 6) - 1) → B (some (.int (-2))) s)
    (k3 : ¬ a1 < 0 → a1 ≤ ((s 146 6) - 1) → jv_in a1 8 = true)
    (k4 : ¬ a1 < 0 → a1 ≤ ((s 146 6) - 1) → ¬ (s 152 a1.toNatClampNeg) = 0 → B (some (.int (-3))) s)
    (k5 : ¬ a1 < 0 → a1 ≤ ((s 146 6) - 1) → (s 152 a1.toNatClampNeg) = 0 → jv_in a1 8 = true)
    (k6 : ¬ a1 < 0 → a1 ≤ ((s 146 6) - 1) → (s 152 a1.toNatClampNeg) = 0 → ∀ s1 : jg_H, s1 = jg_up s 152 a1.toNatClampNeg 1 → jv_in (s1 146 11) 8 = true)
    (k7 : ¬ a1 < 0 → a1 ≤ ((s 146 6) - 1) → (s 152 a1.toNatClampNeg) = 0 → ∀ s1 : jg_H, s1 = jg_up s 152 a1.toNatClampNeg 1 → ∀ s2 : jg_H, s2 = jg_up s1 156 (s1 146 11).toNatClampNeg a1 → ∀ s3 : jg_H, s3 = jg_up s2 146 11 ((s2 146 11) + 1) → B (some (.int ((s3 146 11) - 1))) s3) :
    q_P G (d + 3) 171 [.ref 146, .int a1] s B := by
  refine q_in (M := jm_M_report) rfl (Nat.le_of_ble_eq_true rfl) (ls := [some (.ref 146), some (.int a1)]) rfl ?_
  refine q_aload_n (pc' := 1) ja_M_report_0 rfl rfl ?_
  refine q_iload_n (pc' := 2) ja_M_report_1 rfl rfl ?_
  refine q_virt (pc' := 5) (c := 146) (as := [.int a1]) (r := []) ja_M_report_2 rfl rfl rfl (by decide) ⟨rfl, by decide⟩ ?_
  refine q_in (M := jm_M_isBill) rfl (Nat.le_of_ble_eq_true rfl) (ls := [some (.ref 146), some (.int a1)]) rfl ?_
  refine q_iload_n (pc' := 1) ja_M_isBill_0 rfl rfl ?_
  refine q_iconst (pc' := 2) ja_M_isBill_1 rfl 0 (by decide) ?_
  refine q_aload_n (pc' := 3) ja_M_isBill_2 rfl rfl ?_
  refine q_getf (pc' := 6) (v := .int (s 146 6)) ja_M_isBill_3 rfl (by decide) ⟨rfl, by decide⟩ rfl ?_
  refine q_iconst (pc' := 7) ja_M_isBill_6 rfl 1 (by decide) ?_
  refine q_isub (pc' := 8) ja_M_isBill_7 rfl ?_
  refine q_stat (pc' := 11) (as := [.int a1, .int 0, .int ((s 146 6) - 1)]) (r := []) ja_M_isBill_8 rfl (by decide) rfl rfl ?_
  refine q_in (M := jm_M_in) rfl (Nat.le_of_ble_eq_true rfl) (ls := [some (.int a1), some (.int 0), some (.int ((s 146 6) - 1))]) rfl ?_
  refine q_iload_n (pc' := 1) ja_M_in_0 rfl rfl ?_
  refine q_iload_n (pc' := 2) ja_M_in_1 rfl rfl ?_
  refine q_ic_lt (pc' := 5) ja_M_in_2 rfl ?_ ?_
  · intro h1
    refine q_iconst (pc' := 15) ja_M_in_14 rfl 0 (by decide) ?_
    refine q_iret ja_M_in_15 rfl (by decide) ?_
    show q_W _ _ _ _ 11 [some (.ref 146), some (.int a1)] [.int 0] s
    refine q_iret ja_M_isBill_11 rfl (by decide) ?_
    show q_W _ _ _ _ 5 [some (.ref 146), some (.int a1)] [.int 0] s
    refine q_if_ne (pc' := 8) ja_M_report_5 rfl (fun h => absurd ((by decide : (0 : Int32) = 0)) h) (fun _ => ?_)
    refine q_bipush (pc' := 10) ja_M_report_8 rfl (-2) (by decide) ?_
    exact q_iret ja_M_report_10 rfl rfl (k1 h1)
  · intro h2
    refine q_iload_n (pc' := 6) ja_M_in_5 rfl rfl ?_
    refine q_iload_n (pc' := 7) ja_M_in_6 rfl rfl ?_
    refine q_ic_gt (pc' := 10) ja_M_in_7 rfl ?_ ?_
    · intro h3
      refine q_iconst (pc' := 15) ja_M_in_14 rfl 0 (by decide) ?_
      refine q_iret ja_M_in_15 rfl (by decide) ?_
      show q_W _ _ _ _ 11 [some (.ref 146), some (.int a1)] [.int 0] s
      refine q_iret ja_M_isBill_11 rfl (by decide) ?_
      show q_W _ _ _ _ 5 [some (.ref 146), some (.int a1)] [.int 0] s
      refine q_if_ne (pc' := 8) ja_M_report_5 rfl (fun h => absurd ((by decide : (0 : Int32) = 0)) h) (fun _ => ?_)
      refine q_bipush (pc' := 10) ja_M_report_8 rfl (-2) (by decide) ?_
      exact q_iret ja_M_report_10 rfl rfl (k2 h2 h3)
    · intro h4
      refine q_iconst (pc' := 11) ja_M_in_10 rfl 1 (by decide) ?_
      refine q_goto ja_M_in_11 ?_
      refine q_iret ja_M_in_15 rfl (by decide) ?_
      show q_W _ _ _ _ 11 [some (.ref 146), some (.int a1)] [.int 1] s
      refine q_iret ja_M_isBill_11 rfl (by decide) ?_
      show q_W _ _ _ _ 5 [some (.ref 146), some (.int a1)] [.int 1] s
      refine q_if_ne (pc' := 8) ja_M_report_5 rfl (fun _ => ?_) (fun h => absurd h ((by decide : ¬ (1 : Int32) = 0)))
      refine q_aload_n (pc' := 12) ja_M_report_11 rfl rfl ?_
      refine q_getf (pc' := 15) (v := .ref 152) ja_M_report_12 rfl (by decide) ⟨rfl, by decide⟩ rfl ?_
      refine q_iload_n (pc' := 16) ja_M_report_15 rfl rfl ?_
      refine q_iald (pc' := 17) (v := .int (s 152 a1.toNatClampNeg)) ja_M_report_16 rfl (by decide) (l := 8) rfl (k3 h2 h4) rfl ?_
      refine q_if_ne (pc' := 20) ja_M_report_17 rfl ?_ ?_
      · intro h5
        refine q_bipush (pc' := 30) ja_M_report_28 rfl (-3) (by decide) ?_
        exact q_iret ja_M_report_30 rfl rfl (k4 h2 h4 h5)
      · intro h6
        refine q_aload_n (pc' := 21) ja_M_report_20 rfl rfl ?_
        refine q_iload_n (pc' := 22) ja_M_report_21 rfl rfl ?_
        refine q_virt (pc' := 25) (c := 146) (as := [.int a1]) (r := []) ja_M_report_22 rfl rfl rfl (by decide) ⟨rfl, by decide⟩ ?_
        refine q_in (M := jm_M_lists) rfl (Nat.le_of_ble_eq_true rfl) (ls := [some (.ref 146), some (.int a1)]) rfl ?_
        refine q_aload_n (pc' := 1) ja_M_lists_0 rfl rfl ?_
        refine q_getf (pc' := 4) (v := .ref 152) ja_M_lists_1 rfl (by decide) ⟨rfl, by decide⟩ rfl ?_
        refine q_iload_n (pc' := 5) ja_M_lists_4 rfl rfl ?_
        refine q_iconst (pc' := 6) ja_M_lists_5 rfl 1 (by decide) ?_
        refine q_iast (pc' := 7) ja_M_lists_6 rfl (by decide) (l := 8) rfl (k5 h2 h4 h6) ?_
        intro s1 e1
        refine q_aload_n (pc' := 8) ja_M_lists_7 rfl rfl ?_
        refine q_getf (pc' := 11) (v := .ref 156) ja_M_lists_8 rfl (by decide) ⟨rfl, by decide⟩ rfl ?_
        refine q_aload_n (pc' := 12) ja_M_lists_11 rfl rfl ?_
        refine q_getf (pc' := 15) (v := .int (s1 146 11)) ja_M_lists_12 rfl (by decide) ⟨rfl, by decide⟩ rfl ?_
        refine q_iload_n (pc' := 16) ja_M_lists_15 rfl rfl ?_
        refine q_iast (pc' := 17) ja_M_lists_16 rfl (by decide) (l := 8) rfl (k6 h2 h4 h6 s1 e1) ?_
        intro s2 e2
        refine q_aload_n (pc' := 18) ja_M_lists_17 rfl rfl ?_
        refine q_dup (pc' := 19) ja_M_lists_18 rfl rfl ?_
        refine q_getf (pc' := 22) (v := .int (s2 146 11)) ja_M_lists_19 rfl (by decide) ⟨rfl, by decide⟩ rfl ?_
        refine q_iconst (pc' := 23) ja_M_lists_22 rfl 1 (by decide) ?_
        refine q_iadd (pc' := 24) ja_M_lists_23 rfl ?_
        refine q_putf (pc' := 27) ja_M_lists_24 rfl (by decide) rfl rfl rfl ?_
        intro s3 e3
        refine q_aload_n (pc' := 28) ja_M_lists_27 rfl rfl ?_
        refine q_getf (pc' := 31) (v := .int (s3 146 11)) ja_M_lists_28 rfl (by decide) ⟨rfl, by decide⟩ rfl ?_
        refine q_iconst (pc' := 32) ja_M_lists_31 rfl 1 (by decide) ?_
        refine q_isub (pc' := 33) ja_M_lists_32 rfl ?_
        refine q_iret ja_M_lists_33 rfl rfl ?_
        show q_W _ _ _ _ 25 [some (.ref 146), some (.int a1)] [.int ((s3 146 11) - 1)] s3
        refine q_goto ja_M_report_25 ?_
        exact q_iret ja_M_report_30 rfl rfl (k7 h2 h4 h6 s1 e1 s2 e2 s3 e3)
set_option maxRecDepth 20000 in
theorem t_M_says {G : jv_X} {d : Nat} {B : Option Value → jg_H → Prop} {s : jg_H} (a1 : Int32) (a2 : Int32) (a3 : Int32) (a4 : Int32) (a5 : Int32) (a6 : Int32)
    (k1 : a1 < 0 → B (some (.long (-4611686018427387904))) s)
    (k2 : ¬ a1 < 0 → ¬ a1 ≤ ((s 146 14) - 1) → B (some (.long (-4611686018427387904))) s)
    (k3 : ¬ a1 < 0 → a1 ≤ ((s 146 14) - 1) → a2 < 0 → B (some (.long (-4611686018427387904))) s)
    (k4 : ¬ a1 < 0 → a1 ≤ ((s 146 14) - 1) → ¬ a2 < 0 → ¬ a2 ≤ 3 → B (some (.long (-4611686018427387904))) s)
    (k5 : ¬ a1 < 0 → a1 ≤ ((s 146 14) - 1) → ¬ a2 < 0 → a2 ≤ 3 → a3 < 0 → B (some (.long (-4611686018427387904))) s)
    (k6 : ¬ a1 < 0 → a1 ≤ ((s 146 14) - 1) → ¬ a2 < 0 → a2 ≤ 3 → ¬ a3 < 0 → ¬ a3 ≤ 6 → B (some (.long (-4611686018427387904))) s)
    (k7 : ¬ a1 < 0 → a1 ≤ ((s 146 14) - 1) → ¬ a2 < 0 → a2 ≤ 3 → ¬ a3 < 0 → a3 ≤ 6 → a4 < 0 → B (some (.long (-4611686018427387904))) s)
    (k8 : ¬ a1 < 0 → a1 ≤ ((s 146 14) - 1) → ¬ a2 < 0 → a2 ≤ 3 → ¬ a3 < 0 → a3 ≤ 6 → ¬ a4 < 0 → ¬ a4 ≤ 3 → B (some (.long (-4611686018427387904))) s)
    (k9 : ¬ a1 < 0 → a1 ≤ ((s 146 14) - 1) → ¬ a2 < 0 → a2 ≤ 3 → ¬ a3 < 0 → a3 ≤ 6 → ¬ a4 < 0 → a4 ≤ 3 → a5 < 0 → B (some (.long (-4611686018427387904))) s)
    (k10 : ¬ a1 < 0 → a1 ≤ ((s 146 14) - 1) → ¬ a2 < 0 → a2 ≤ 3 → ¬ a3 < 0 → a3 ≤ 6 → ¬ a4 < 0 → a4 ≤ 3 → ¬ a5 < 0 → ¬ a5 ≤ 15 → B (some (.long (-4611686018427387904))) s)
    (k11 : ¬ a1 < 0 → a1 ≤ ((s 146 14) - 1) → ¬ a2 < 0 → a2 ≤ 3 → ¬ a3 < 0 → a3 ≤ 6 → ¬ a4 < 0 → a4 ≤ 3 → ¬ a5 < 0 → a5 ≤ 15 → a6 < 0 → B (some (.long (-4611686018427387904))) s)
    (k12 : ¬ a1 < 0 → a1 ≤ ((s 146 14) - 1) → ¬ a2 < 0 → a2 ≤ 3 → ¬ a3 < 0 → a3 ≤ 6 → ¬ a4 < 0 → a4 ≤ 3 → ¬ a5 < 0 → a5 ≤ 15 → ¬ a6 < 0 → ¬ a6 ≤ 15 → B (some (.long (-4611686018427387904))) s)
    (k13 : ¬ a1 < 0 → a1 ≤ ((s 146 14) - 1) → ¬ a2 < 0 → a2 ≤ 3 → ¬ a3 < 0 → a3 ≤ 6 → ¬ a4 < 0 → a4 ≤ 3 → ¬ a5 < 0 → a5 ≤ 15 → ¬ a6 < 0 → a6 ≤ 15 → q_P G (d + 1) 178 [.ref 146, .int a1, .int a2, .int a3, .int a4, .int (s 146 18), .int a5, .int a6] s (fun v t => q_W G (d + 1) jm_M_says B 94 [some (.ref 146), some (.int a1), some (.int a2), some (.int a3), some (.int a4), some (.int a5), some (.int a6), some (.int 1)] (v.toList ++ []) t)) :
    q_P G (d + 2) 177 [.ref 146, .int a1, .int a2, .int a3, .int a4, .int a5, .int a6] s B := by
  refine q_in (M := jm_M_says) rfl (Nat.le_of_ble_eq_true rfl) (ls := [some (.ref 146), some (.int a1), some (.int a2), some (.int a3), some (.int a4), some (.int a5), some (.int a6), none]) rfl ?_
  refine q_iload_n (pc' := 1) ja_M_says_0 rfl rfl ?_
  refine q_iconst (pc' := 2) ja_M_says_1 rfl 0 (by decide) ?_
  refine q_aload_n (pc' := 3) ja_M_says_2 rfl rfl ?_
  refine q_getf (pc' := 6) (v := .int (s 146 14)) ja_M_says_3 rfl (by decide) ⟨rfl, by decide⟩ rfl ?_
  refine q_iconst (pc' := 7) ja_M_says_6 rfl 1 (by decide) ?_
  refine q_isub (pc' := 8) ja_M_says_7 rfl ?_
  refine q_stat (pc' := 11) (as := [.int a1, .int 0, .int ((s 146 14) - 1)]) (r := []) ja_M_says_8 rfl (by decide) rfl rfl ?_
  refine q_in (M := jm_M_in) rfl (Nat.le_of_ble_eq_true rfl) (ls := [some (.int a1), some (.int 0), some (.int ((s 146 14) - 1))]) rfl ?_
  refine q_iload_n (pc' := 1) ja_M_in_0 rfl rfl ?_
  refine q_iload_n (pc' := 2) ja_M_in_1 rfl rfl ?_
  refine q_ic_lt (pc' := 5) ja_M_in_2 rfl ?_ ?_
  · intro h1
    refine q_iconst (pc' := 15) ja_M_in_14 rfl 0 (by decide) ?_
    refine q_iret ja_M_in_15 rfl (by decide) ?_
    show q_W _ _ _ _ 11 [some (.ref 146), some (.int a1), some (.int a2), some (.int a3), some (.int a4), some (.int a5), some (.int a6), none] [.int 0] s
    refine q_if_eq (pc' := 14) ja_M_says_11 rfl (fun _ => ?_) (fun h => absurd ((by decide : (0 : Int32) = 0)) h)
    refine q_iconst (pc' := 70) ja_M_says_69 rfl 0 (by decide) ?_
    refine q_istore (pc' := 72) (ls' := [some (.ref 146), some (.int a1), some (.int a2), some (.int a3), some (.int a4), some (.int a5), some (.int a6), some (.int 0)]) ja_M_says_70 rfl ⟨Nat.le_of_ble_eq_true rfl, rfl⟩ rfl ?_
    refine q_iload (pc' := 74) ja_M_says_72 rfl rfl ?_
    refine q_if_eq (pc' := 77) ja_M_says_74 rfl (fun _ => ?_) (fun h => absurd ((by decide : (0 : Int32) = 0)) h)
    refine q_ldc2 (pc' := 101) ja_M_says_98 rfl (-4611686018427387904) (by decide) ?_
    exact q_lret ja_M_says_101 rfl (k1 h1)
  · intro h2
    refine q_iload_n (pc' := 6) ja_M_in_5 rfl rfl ?_
    refine q_iload_n (pc' := 7) ja_M_in_6 rfl rfl ?_
    refine q_ic_gt (pc' := 10) ja_M_in_7 rfl ?_ ?_
    · intro h3
      refine q_iconst (pc' := 15) ja_M_in_14 rfl 0 (by decide) ?_
      refine q_iret ja_M_in_15 rfl (by decide) ?_
      show q_W _ _ _ _ 11 [some (.ref 146), some (.int a1), some (.int a2), some (.int a3), some (.int a4), some (.int a5), some (.int a6), none] [.int 0] s
      refine q_if_eq (pc' := 14) ja_M_says_11 rfl (fun _ => ?_) (fun h => absurd ((by decide : (0 : Int32) = 0)) h)
      refine q_iconst (pc' := 70) ja_M_says_69 rfl 0 (by decide) ?_
      refine q_istore (pc' := 72) (ls' := [some (.ref 146), some (.int a1), some (.int a2), some (.int a3), some (.int a4), some (.int a5), some (.int a6), some (.int 0)]) ja_M_says_70 rfl ⟨Nat.le_of_ble_eq_true rfl, rfl⟩ rfl ?_
      refine q_iload (pc' := 74) ja_M_says_72 rfl rfl ?_
      refine q_if_eq (pc' := 77) ja_M_says_74 rfl (fun _ => ?_) (fun h => absurd ((by decide : (0 : Int32) = 0)) h)
      refine q_ldc2 (pc' := 101) ja_M_says_98 rfl (-4611686018427387904) (by decide) ?_
      exact q_lret ja_M_says_101 rfl (k2 h2 h3)
    · intro h4
      refine q_iconst (pc' := 11) ja_M_in_10 rfl 1 (by decide) ?_
      refine q_goto ja_M_in_11 ?_
      refine q_iret ja_M_in_15 rfl (by decide) ?_
      show q_W _ _ _ _ 11 [some (.ref 146), some (.int a1), some (.int a2), some (.int a3), some (.int a4), some (.int a5), some (.int a6), none] [.int 1] s
      refine q_if_eq (pc' := 14) ja_M_says_11 rfl (fun h => absurd h ((by decide : ¬ (1 : Int32) = 0))) (fun _ => ?_)
      refine q_iload_n (pc' := 15) ja_M_says_14 rfl rfl ?_
      refine q_iconst (pc' := 16) ja_M_says_15 rfl 0 (by decide) ?_
      refine q_iconst (pc' := 17) ja_M_says_16 rfl 3 (by decide) ?_
      refine q_stat (pc' := 20) (as := [.int a2, .int 0, .int 3]) (r := []) ja_M_says_17 rfl (by decide) rfl rfl ?_
      refine q_in (M := jm_M_in) rfl (Nat.le_of_ble_eq_true rfl) (ls := [some (.int a2), some (.int 0), some (.int 3)]) rfl ?_
      refine q_iload_n (pc' := 1) ja_M_in_0 rfl rfl ?_
      refine q_iload_n (pc' := 2) ja_M_in_1 rfl rfl ?_
      refine q_ic_lt (pc' := 5) ja_M_in_2 rfl ?_ ?_
      · intro h5
        refine q_iconst (pc' := 15) ja_M_in_14 rfl 0 (by decide) ?_
        refine q_iret ja_M_in_15 rfl (by decide) ?_
        show q_W _ _ _ _ 20 [some (.ref 146), some (.int a1), some (.int a2), some (.int a3), some (.int a4), some (.int a5), some (.int a6), none] [.int 0] s
        refine q_if_eq (pc' := 23) ja_M_says_20 rfl (fun _ => ?_) (fun h => absurd ((by decide : (0 : Int32) = 0)) h)
        refine q_iconst (pc' := 70) ja_M_says_69 rfl 0 (by decide) ?_
        refine q_istore (pc' := 72) (ls' := [some (.ref 146), some (.int a1), some (.int a2), some (.int a3), some (.int a4), some (.int a5), some (.int a6), some (.int 0)]) ja_M_says_70 rfl ⟨Nat.le_of_ble_eq_true rfl, rfl⟩ rfl ?_
        refine q_iload (pc' := 74) ja_M_says_72 rfl rfl ?_
        refine q_if_eq (pc' := 77) ja_M_says_74 rfl (fun _ => ?_) (fun h => absurd ((by decide : (0 : Int32) = 0)) h)
        refine q_ldc2 (pc' := 101) ja_M_says_98 rfl (-4611686018427387904) (by decide) ?_
        exact q_lret ja_M_says_101 rfl (k3 h2 h4 h5)
      · intro h6
        refine q_iload_n (pc' := 6) ja_M_in_5 rfl rfl ?_
        refine q_iload_n (pc' := 7) ja_M_in_6 rfl rfl ?_
        refine q_ic_gt (pc' := 10) ja_M_in_7 rfl ?_ ?_
        · intro h7
          refine q_iconst (pc' := 15) ja_M_in_14 rfl 0 (by decide) ?_
          refine q_iret ja_M_in_15 rfl (by decide) ?_
          show q_W _ _ _ _ 20 [some (.ref 146), some (.int a1), some (.int a2), some (.int a3), some (.int a4), some (.int a5), some (.int a6), none] [.int 0] s
          refine q_if_eq (pc' := 23) ja_M_says_20 rfl (fun _ => ?_) (fun h => absurd ((by decide : (0 : Int32) = 0)) h)
          refine q_iconst (pc' := 70) ja_M_says_69 rfl 0 (by decide) ?_
          refine q_istore (pc' := 72) (ls' := [some (.ref 146), some (.int a1), some (.int a2), some (.int a3), some (.int a4), some (.int a5), some (.int a6), some (.int 0)]) ja_M_says_70 rfl ⟨Nat.le_of_ble_eq_true rfl, rfl⟩ rfl ?_
          refine q_iload (pc' := 74) ja_M_says_72 rfl rfl ?_
          refine q_if_eq (pc' := 77) ja_M_says_74 rfl (fun _ => ?_) (fun h => absurd ((by decide : (0 : Int32) = 0)) h)
          refine q_ldc2 (pc' := 101) ja_M_says_98 rfl (-4611686018427387904) (by decide) ?_
          exact q_lret ja_M_says_101 rfl (k4 h2 h4 h6 h7)
        · intro h8
          refine q_iconst (pc' := 11) ja_M_in_10 rfl 1 (by decide) ?_
          refine q_goto ja_M_in_11 ?_
          refine q_iret ja_M_in_15 rfl (by decide) ?_
          show q_W _ _ _ _ 20 [some (.ref 146), some (.int a1), some (.int a2), some (.int a3), some (.int a4), some (.int a5), some (.int a6), none] [.int 1] s
          refine q_if_eq (pc' := 23) ja_M_says_20 rfl (fun h => absurd h ((by decide : ¬ (1 : Int32) = 0))) (fun _ => ?_)
          refine q_iload_n (pc' := 24) ja_M_says_23 rfl rfl ?_
          refine q_iconst (pc' := 25) ja_M_says_24 rfl 0 (by decide) ?_
          refine q_bipush (pc' := 27) ja_M_says_25 rfl 6 (by decide) ?_
          refine q_stat (pc' := 30) (as := [.int a3, .int 0, .int 6]) (r := []) ja_M_says_27 rfl (by decide) rfl rfl ?_
          refine q_in (M := jm_M_in) rfl (Nat.le_of_ble_eq_true rfl) (ls := [some (.int a3), some (.int 0), some (.int 6)]) rfl ?_
          refine q_iload_n (pc' := 1) ja_M_in_0 rfl rfl ?_
          refine q_iload_n (pc' := 2) ja_M_in_1 rfl rfl ?_
          refine q_ic_lt (pc' := 5) ja_M_in_2 rfl ?_ ?_
          · intro h9
            refine q_iconst (pc' := 15) ja_M_in_14 rfl 0 (by decide) ?_
            refine q_iret ja_M_in_15 rfl (by decide) ?_
            show q_W _ _ _ _ 30 [some (.ref 146), some (.int a1), some (.int a2), some (.int a3), some (.int a4), some (.int a5), some (.int a6), none] [.int 0] s
            refine q_if_eq (pc' := 33) ja_M_says_30 rfl (fun _ => ?_) (fun h => absurd ((by decide : (0 : Int32) = 0)) h)
            refine q_iconst (pc' := 70) ja_M_says_69 rfl 0 (by decide) ?_
            refine q_istore (pc' := 72) (ls' := [some (.ref 146), some (.int a1), some (.int a2), some (.int a3), some (.int a4), some (.int a5), some (.int a6), some (.int 0)]) ja_M_says_70 rfl ⟨Nat.le_of_ble_eq_true rfl, rfl⟩ rfl ?_
            refine q_iload (pc' := 74) ja_M_says_72 rfl rfl ?_
            refine q_if_eq (pc' := 77) ja_M_says_74 rfl (fun _ => ?_) (fun h => absurd ((by decide : (0 : Int32) = 0)) h)
            refine q_ldc2 (pc' := 101) ja_M_says_98 rfl (-4611686018427387904) (by decide) ?_
            exact q_lret ja_M_says_101 rfl (k5 h2 h4 h6 h8 h9)
          · intro h10
            refine q_iload_n (pc' := 6) ja_M_in_5 rfl rfl ?_
            refine q_iload_n (pc' := 7) ja_M_in_6 rfl rfl ?_
            refine q_ic_gt (pc' := 10) ja_M_in_7 rfl ?_ ?_
            · intro h11
              refine q_iconst (pc' := 15) ja_M_in_14 rfl 0 (by decide) ?_
              refine q_iret ja_M_in_15 rfl (by decide) ?_
              show q_W _ _ _ _ 30 [some (.ref 146), some (.int a1), some (.int a2), some (.int a3), some (.int a4), some (.int a5), some (.int a6), none] [.int 0] s
              refine q_if_eq (pc' := 33) ja_M_says_30 rfl (fun _ => ?_) (fun h => absurd ((by decide : (0 : Int32) = 0)) h)
              refine q_iconst (pc' := 70) ja_M_says_69 rfl 0 (by decide) ?_
              refine q_istore (pc' := 72) (ls' := [some (.ref 146), some (.int a1), some (.int a2), some (.int a3), some (.int a4), some (.int a5), some (.int a6), some (.int 0)]) ja_M_says_70 rfl ⟨Nat.le_of_ble_eq_true rfl, rfl⟩ rfl ?_
              refine q_iload (pc' := 74) ja_M_says_72 rfl rfl ?_
              refine q_if_eq (pc' := 77) ja_M_says_74 rfl (fun _ => ?_) (fun h => absurd ((by decide : (0 : Int32) = 0)) h)
              refine q_ldc2 (pc' := 101) ja_M_says_98 rfl (-4611686018427387904) (by decide) ?_
              exact q_lret ja_M_says_101 rfl (k6 h2 h4 h6 h8 h10 h11)
            · intro h12
              refine q_iconst (pc' := 11) ja_M_in_10 rfl 1 (by decide) ?_
              refine q_goto ja_M_in_11 ?_
              refine q_iret ja_M_in_15 rfl (by decide) ?_
              show q_W _ _ _ _ 30 [some (.ref 146), some (.int a1), some (.int a2), some (.int a3), some (.int a4), some (.int a5), some (.int a6), none] [.int 1] s
              refine q_if_eq (pc' := 33) ja_M_says_30 rfl (fun h => absurd h ((by decide : ¬ (1 : Int32) = 0))) (fun _ => ?_)
              refine q_iload (pc' := 35) ja_M_says_33 rfl rfl ?_
              refine q_iconst (pc' := 36) ja_M_says_35 rfl 0 (by decide) ?_
              refine q_iconst (pc' := 37) ja_M_says_36 rfl 3 (by decide) ?_
              refine q_stat (pc' := 40) (as := [.int a4, .int 0, .int 3]) (r := []) ja_M_says_37 rfl (by decide) rfl rfl ?_
              refine q_in (M := jm_M_in) rfl (Nat.le_of_ble_eq_true rfl) (ls := [some (.int a4), some (.int 0), some (.int 3)]) rfl ?_
              refine q_iload_n (pc' := 1) ja_M_in_0 rfl rfl ?_
              refine q_iload_n (pc' := 2) ja_M_in_1 rfl rfl ?_
              refine q_ic_lt (pc' := 5) ja_M_in_2 rfl ?_ ?_
              · intro h13
                refine q_iconst (pc' := 15) ja_M_in_14 rfl 0 (by decide) ?_
                refine q_iret ja_M_in_15 rfl (by decide) ?_
                show q_W _ _ _ _ 40 [some (.ref 146), some (.int a1), some (.int a2), some (.int a3), some (.int a4), some (.int a5), some (.int a6), none] [.int 0] s
                refine q_if_eq (pc' := 43) ja_M_says_40 rfl (fun _ => ?_) (fun h => absurd ((by decide : (0 : Int32) = 0)) h)
                refine q_iconst (pc' := 70) ja_M_says_69 rfl 0 (by decide) ?_
                refine q_istore (pc' := 72) (ls' := [some (.ref 146), some (.int a1), some (.int a2), some (.int a3), some (.int a4), some (.int a5), some (.int a6), some (.int 0)]) ja_M_says_70 rfl ⟨Nat.le_of_ble_eq_true rfl, rfl⟩ rfl ?_
                refine q_iload (pc' := 74) ja_M_says_72 rfl rfl ?_
                refine q_if_eq (pc' := 77) ja_M_says_74 rfl (fun _ => ?_) (fun h => absurd ((by decide : (0 : Int32) = 0)) h)
                refine q_ldc2 (pc' := 101) ja_M_says_98 rfl (-4611686018427387904) (by decide) ?_
                exact q_lret ja_M_says_101 rfl (k7 h2 h4 h6 h8 h10 h12 h13)
              · intro h14
                refine q_iload_n (pc' := 6) ja_M_in_5 rfl rfl ?_
                refine q_iload_n (pc' := 7) ja_M_in_6 rfl rfl ?_
                refine q_ic_gt (pc' := 10) ja_M_in_7 rfl ?_ ?_
                · intro h15
                  refine q_iconst (pc' := 15) ja_M_in_14 rfl 0 (by decide) ?_
                  refine q_iret ja_M_in_15 rfl (by decide) ?_
                  show q_W _ _ _ _ 40 [some (.ref 146), some (.int a1), some (.int a2), some (.int a3), some (.int a4), some (.int a5), some (.int a6), none] [.int 0] s
                  refine q_if_eq (pc' := 43) ja_M_says_40 rfl (fun _ => ?_) (fun h => absurd ((by decide : (0 : Int32) = 0)) h)
                  refine q_iconst (pc' := 70) ja_M_says_69 rfl 0 (by decide) ?_
                  refine q_istore (pc' := 72) (ls' := [some (.ref 146), some (.int a1), some (.int a2), some (.int a3), some (.int a4), some (.int a5), some (.int a6), some (.int 0)]) ja_M_says_70 rfl ⟨Nat.le_of_ble_eq_true rfl, rfl⟩ rfl ?_
                  refine q_iload (pc' := 74) ja_M_says_72 rfl rfl ?_
                  refine q_if_eq (pc' := 77) ja_M_says_74 rfl (fun _ => ?_) (fun h => absurd ((by decide : (0 : Int32) = 0)) h)
                  refine q_ldc2 (pc' := 101) ja_M_says_98 rfl (-4611686018427387904) (by decide) ?_
                  exact q_lret ja_M_says_101 rfl (k8 h2 h4 h6 h8 h10 h12 h14 h15)
                · intro h16
                  refine q_iconst (pc' := 11) ja_M_in_10 rfl 1 (by decide) ?_
                  refine q_goto ja_M_in_11 ?_
                  refine q_iret ja_M_in_15 rfl (by decide) ?_
                  show q_W _ _ _ _ 40 [some (.ref 146), some (.int a1), some (.int a2), some (.int a3), some (.int a4), some (.int a5), some (.int a6), none] [.int 1] s
                  refine q_if_eq (pc' := 43) ja_M_says_40 rfl (fun h => absurd h ((by decide : ¬ (1 : Int32) = 0))) (fun _ => ?_)
                  refine q_iload (pc' := 45) ja_M_says_43 rfl rfl ?_
                  refine q_iconst (pc' := 46) ja_M_says_45 rfl 0 (by decide) ?_
                  refine q_bipush (pc' := 48) ja_M_says_46 rfl 15 (by decide) ?_
                  refine q_stat (pc' := 51) (as := [.int a5, .int 0, .int 15]) (r := []) ja_M_says_48 rfl (by decide) rfl rfl ?_
                  refine q_in (M := jm_M_in) rfl (Nat.le_of_ble_eq_true rfl) (ls := [some (.int a5), some (.int 0), some (.int 15)]) rfl ?_
                  refine q_iload_n (pc' := 1) ja_M_in_0 rfl rfl ?_
                  refine q_iload_n (pc' := 2) ja_M_in_1 rfl rfl ?_
                  refine q_ic_lt (pc' := 5) ja_M_in_2 rfl ?_ ?_
                  · intro h17
                    refine q_iconst (pc' := 15) ja_M_in_14 rfl 0 (by decide) ?_
                    refine q_iret ja_M_in_15 rfl (by decide) ?_
                    show q_W _ _ _ _ 51 [some (.ref 146), some (.int a1), some (.int a2), some (.int a3), some (.int a4), some (.int a5), some (.int a6), none] [.int 0] s
                    refine q_if_eq (pc' := 54) ja_M_says_51 rfl (fun _ => ?_) (fun h => absurd ((by decide : (0 : Int32) = 0)) h)
                    refine q_iconst (pc' := 70) ja_M_says_69 rfl 0 (by decide) ?_
                    refine q_istore (pc' := 72) (ls' := [some (.ref 146), some (.int a1), some (.int a2), some (.int a3), some (.int a4), some (.int a5), some (.int a6), some (.int 0)]) ja_M_says_70 rfl ⟨Nat.le_of_ble_eq_true rfl, rfl⟩ rfl ?_
                    refine q_iload (pc' := 74) ja_M_says_72 rfl rfl ?_
                    refine q_if_eq (pc' := 77) ja_M_says_74 rfl (fun _ => ?_) (fun h => absurd ((by decide : (0 : Int32) = 0)) h)
                    refine q_ldc2 (pc' := 101) ja_M_says_98 rfl (-4611686018427387904) (by decide) ?_
                    exact q_lret ja_M_says_101 rfl (k9 h2 h4 h6 h8 h10 h12 h14 h16 h17)
                  · intro h18
                    refine q_iload_n (pc' := 6) ja_M_in_5 rfl rfl ?_
                    refine q_iload_n (pc' := 7) ja_M_in_6 rfl rfl ?_
                    refine q_ic_gt (pc' := 10) ja_M_in_7 rfl ?_ ?_
                    · intro h19
                      refine q_iconst (pc' := 15) ja_M_in_14 rfl 0 (by decide) ?_
                      refine q_iret ja_M_in_15 rfl (by decide) ?_
                      show q_W _ _ _ _ 51 [some (.ref 146), some (.int a1), some (.int a2), some (.int a3), some (.int a4), some (.int a5), some (.int a6), none] [.int 0] s
                      refine q_if_eq (pc' := 54) ja_M_says_51 rfl (fun _ => ?_) (fun h => absurd ((by decide : (0 : Int32) = 0)) h)
                      refine q_iconst (pc' := 70) ja_M_says_69 rfl 0 (by decide) ?_
                      refine q_istore (pc' := 72) (ls' := [some (.ref 146), some (.int a1), some (.int a2), some (.int a3), some (.int a4), some (.int a5), some (.int a6), some (.int 0)]) ja_M_says_70 rfl ⟨Nat.le_of_ble_eq_true rfl, rfl⟩ rfl ?_
                      refine q_iload (pc' := 74) ja_M_says_72 rfl rfl ?_
                      refine q_if_eq (pc' := 77) ja_M_says_74 rfl (fun _ => ?_) (fun h => absurd ((by decide : (0 : Int32) = 0)) h)
                      refine q_ldc2 (pc' := 101) ja_M_says_98 rfl (-4611686018427387904) (by decide) ?_
                      exact q_lret ja_M_says_101 rfl (k10 h2 h4 h6 h8 h10 h12 h14 h16 h18 h19)
                    · intro h20
                      refine q_iconst (pc' := 11) ja_M_in_10 rfl 1 (by decide) ?_
                      refine q_goto ja_M_in_11 ?_
                      refine q_iret ja_M_in_15 rfl (by decide) ?_
                      show q_W _ _ _ _ 51 [some (.ref 146), some (.int a1), some (.int a2), some (.int a3), some (.int a4), some (.int a5), some (.int a6), none] [.int 1] s
                      refine q_if_eq (pc' := 54) ja_M_says_51 rfl (fun h => absurd h ((by decide : ¬ (1 : Int32) = 0))) (fun _ => ?_)
                      refine q_iload (pc' := 56) ja_M_says_54 rfl rfl ?_
                      refine q_iconst (pc' := 57) ja_M_says_56 rfl 0 (by decide) ?_
                      refine q_bipush (pc' := 59) ja_M_says_57 rfl 15 (by decide) ?_
                      refine q_stat (pc' := 62) (as := [.int a6, .int 0, .int 15]) (r := []) ja_M_says_59 rfl (by decide) rfl rfl ?_
                      refine q_in (M := jm_M_in) rfl (Nat.le_of_ble_eq_true rfl) (ls := [some (.int a6), some (.int 0), some (.int 15)]) rfl ?_
                      refine q_iload_n (pc' := 1) ja_M_in_0 rfl rfl ?_
                      refine q_iload_n (pc' := 2) ja_M_in_1 rfl rfl ?_
                      refine q_ic_lt (pc' := 5) ja_M_in_2 rfl ?_ ?_
                      · intro h21
                        refine q_iconst (pc' := 15) ja_M_in_14 rfl 0 (by decide) ?_
                        refine q_iret ja_M_in_15 rfl (by decide) ?_
                        show q_W _ _ _ _ 62 [some (.ref 146), some (.int a1), some (.int a2), some (.int a3), some (.int a4), some (.int a5), some (.int a6), none] [.int 0] s
                        refine q_if_eq (pc' := 65) ja_M_says_62 rfl (fun _ => ?_) (fun h => absurd ((by decide : (0 : Int32) = 0)) h)
                        refine q_iconst (pc' := 70) ja_M_says_69 rfl 0 (by decide) ?_
                        refine q_istore (pc' := 72) (ls' := [some (.ref 146), some (.int a1), some (.int a2), some (.int a3), some (.int a4), some (.int a5), some (.int a6), some (.int 0)]) ja_M_says_70 rfl ⟨Nat.le_of_ble_eq_true rfl, rfl⟩ rfl ?_
                        refine q_iload (pc' := 74) ja_M_says_72 rfl rfl ?_
                        refine q_if_eq (pc' := 77) ja_M_says_74 rfl (fun _ => ?_) (fun h => absurd ((by decide : (0 : Int32) = 0)) h)
                        refine q_ldc2 (pc' := 101) ja_M_says_98 rfl (-4611686018427387904) (by decide) ?_
                        exact q_lret ja_M_says_101 rfl (k11 h2 h4 h6 h8 h10 h12 h14 h16 h18 h20 h21)
                      · intro h22
                        refine q_iload_n (pc' := 6) ja_M_in_5 rfl rfl ?_
                        refine q_iload_n (pc' := 7) ja_M_in_6 rfl rfl ?_
                        refine q_ic_gt (pc' := 10) ja_M_in_7 rfl ?_ ?_
                        · intro h23
                          refine q_iconst (pc' := 15) ja_M_in_14 rfl 0 (by decide) ?_
                          refine q_iret ja_M_in_15 rfl (by decide) ?_
                          show q_W _ _ _ _ 62 [some (.ref 146), some (.int a1), some (.int a2), some (.int a3), some (.int a4), some (.int a5), some (.int a6), none] [.int 0] s
                          refine q_if_eq (pc' := 65) ja_M_says_62 rfl (fun _ => ?_) (fun h => absurd ((by decide : (0 : Int32) = 0)) h)
                          refine q_iconst (pc' := 70) ja_M_says_69 rfl 0 (by decide) ?_
                          refine q_istore (pc' := 72) (ls' := [some (.ref 146), some (.int a1), some (.int a2), some (.int a3), some (.int a4), some (.int a5), some (.int a6), some (.int 0)]) ja_M_says_70 rfl ⟨Nat.le_of_ble_eq_true rfl, rfl⟩ rfl ?_
                          refine q_iload (pc' := 74) ja_M_says_72 rfl rfl ?_
                          refine q_if_eq (pc' := 77) ja_M_says_74 rfl (fun _ => ?_) (fun h => absurd ((by decide : (0 : Int32) = 0)) h)
                          refine q_ldc2 (pc' := 101) ja_M_says_98 rfl (-4611686018427387904) (by decide) ?_
                          exact q_lret ja_M_says_101 rfl (k12 h2 h4 h6 h8 h10 h12 h14 h16 h18 h20 h22 h23)
                        · intro h24
                          refine q_iconst (pc' := 11) ja_M_in_10 rfl 1 (by decide) ?_
                          refine q_goto ja_M_in_11 ?_
                          refine q_iret ja_M_in_15 rfl (by decide) ?_
                          show q_W _ _ _ _ 62 [some (.ref 146), some (.int a1), some (.int a2), some (.int a3), some (.int a4), some (.int a5), some (.int a6), none] [.int 1] s
                          refine q_if_eq (pc' := 65) ja_M_says_62 rfl (fun h => absurd h ((by decide : ¬ (1 : Int32) = 0))) (fun _ => ?_)
                          refine q_iconst (pc' := 66) ja_M_says_65 rfl 1 (by decide) ?_
                          refine q_goto ja_M_says_66 ?_
                          refine q_istore (pc' := 72) (ls' := [some (.ref 146), some (.int a1), some (.int a2), some (.int a3), some (.int a4), some (.int a5), some (.int a6), some (.int 1)]) ja_M_says_70 rfl ⟨Nat.le_of_ble_eq_true rfl, rfl⟩ rfl ?_
                          refine q_iload (pc' := 74) ja_M_says_72 rfl rfl ?_
                          refine q_if_eq (pc' := 77) ja_M_says_74 rfl (fun h => absurd h ((by decide : ¬ (1 : Int32) = 0))) (fun _ => ?_)
                          refine q_aload_n (pc' := 78) ja_M_says_77 rfl rfl ?_
                          refine q_iload_n (pc' := 79) ja_M_says_78 rfl rfl ?_
                          refine q_iload_n (pc' := 80) ja_M_says_79 rfl rfl ?_
                          refine q_iload_n (pc' := 81) ja_M_says_80 rfl rfl ?_
                          refine q_iload (pc' := 83) ja_M_says_81 rfl rfl ?_
                          refine q_aload_n (pc' := 84) ja_M_says_83 rfl rfl ?_
                          refine q_getf (pc' := 87) (v := .int (s 146 18)) ja_M_says_84 rfl (by decide) ⟨rfl, by decide⟩ rfl ?_
                          refine q_iload (pc' := 89) ja_M_says_87 rfl rfl ?_
                          refine q_iload (pc' := 91) ja_M_says_89 rfl rfl ?_
                          refine q_virt (pc' := 94) (c := 146) (as := [.int a1, .int a2, .int a3, .int a4, .int (s 146 18), .int a5, .int a6]) (r := []) ja_M_says_91 rfl rfl rfl (by decide) ⟨rfl, by decide⟩ ?_
                          exact (k13 h2 h4 h6 h8 h10 h12 h14 h16 h18 h20 h22 h24)
set_option maxRecDepth 20000 in
theorem t_M_says_94 {G : jv_X} {d : Nat} {B : Option Value → jg_H → Prop} {s : jg_H} (x1 : Int32) (x2 : Int32) (x3 : Int32) (x4 : Int32) (x5 : Int32) (x6 : Int32) (x7 : Int32) (y0 : Int32)
    (k1 : B (some (.long (y0).toInt64)) s) :
    q_W G (d + 1) jm_M_says B 94 [some (.ref 146), some (.int x1), some (.int x2), some (.int x3), some (.int x4), some (.int x5), some (.int x6), some (.int x7)] [.int y0] s := by
  refine q_i2l (pc' := 95) ja_M_says_94 rfl ?_
  refine q_goto ja_M_says_95 ?_
  exact q_lret ja_M_says_101 rfl k1
set_option maxRecDepth 20000 in
theorem t_M_section {G : jv_X} {d : Nat} {B : Option Value → jg_H → Prop} {s : jg_H} (a1 : Int32) (a2 : Int32)
    (k1 : a1 < 0 → B (some (.int (-2))) s)
    (k2 : ¬ a1 < 0 → ¬ a1 ≤ ((s 146 6) - 1) → B (some (.int (-2))) s)
    (k3 : ¬ a1 < 0 → a1 ≤ ((s 146 6) - 1) → a2 < 1 → B (some (.int (-2))) s)
    (k4 : ¬ a1 < 0 → a1 ≤ ((s 146 6) - 1) → ¬ a2 < 1 → ¬ a2 ≤ 60 → B (some (.int (-2))) s)
    (k5 : ¬ a1 < 0 → a1 ≤ ((s 146 6) - 1) → ¬ a2 < 1 → a2 ≤ 60 → jv_in a1 8 = true)
    (k6 : ¬ a1 < 0 → a1 ≤ ((s 146 6) - 1) → ¬ a2 < 1 → a2 ≤ 60 → (s 152 a1.toNatClampNeg) = 0 → jv_in a1 8 = true)
    (k7 : ¬ a1 < 0 → a1 ≤ ((s 146 6) - 1) → ¬ a2 < 1 → a2 ≤ 60 → (s 152 a1.toNatClampNeg) = 0 → ¬ (s 153 a1.toNatClampNeg) = 10 → jv_in a1 8 = true)
    (k8 : ¬ a1 < 0 → a1 ≤ ((s 146 6) - 1) → ¬ a2 < 1 → a2 ≤ 60 → (s 152 a1.toNatClampNeg) = 0 → ¬ (s 153 a1.toNatClampNeg) = 10 → jv_in ((10 * a1) + (s 153 a1.toNatClampNeg)) 80 = true)
    (k9 : ¬ a1 < 0 → a1 ≤ ((s 146 6) - 1) → ¬ a2 < 1 → a2 ≤ 60 → (s 152 a1.toNatClampNeg) = 0 → ¬ (s 153 a1.toNatClampNeg) = 10 → ∀ s1 : jg_H, s1 = jg_up s 154 ((10 * a1) + (s 153 a1.toNatClampNeg)).toNatClampNeg a2 → jv_in a1 8 = true)
    (k10 : ¬ a1 < 0 → a1 ≤ ((s 146 6) - 1) → ¬ a2 < 1 → a2 ≤ 60 → (s 152 a1.toNatClampNeg) = 0 → ¬ (s 153 a1.toNatClampNeg) = 10 → ∀ s1 : jg_H, s1 = jg_up s 154 ((10 * a1) + (s 153 a1.toNatClampNeg)).toNatClampNeg a2 → jv_in a1 8 = true)
    (k11 : ¬ a1 < 0 → a1 ≤ ((s 146 6) - 1) → ¬ a2 < 1 → a2 ≤ 60 → (s 152 a1.toNatClampNeg) = 0 → ¬ (s 153 a1.toNatClampNeg) = 10 → ∀ s1 : jg_H, s1 = jg_up s 154 ((10 * a1) + (s 153 a1.toNatClampNeg)).toNatClampNeg a2 → ∀ s2 : jg_H, s2 = jg_up s1 153 a1.toNatClampNeg ((s1 153 a1.toNatClampNeg) + 1) → jv_in a1 8 = true)
    (k12 : ¬ a1 < 0 → a1 ≤ ((s 146 6) - 1) → ¬ a2 < 1 → a2 ≤ 60 → (s 152 a1.toNatClampNeg) = 0 → ¬ (s 153 a1.toNatClampNeg) = 10 → ∀ s1 : jg_H, s1 = jg_up s 154 ((10 * a1) + (s 153 a1.toNatClampNeg)).toNatClampNeg a2 → ∀ s2 : jg_H, s2 = jg_up s1 153 a1.toNatClampNeg ((s1 153 a1.toNatClampNeg) + 1) → B (some (.int (s2 153 a1.toNatClampNeg))) s2)
    (k13 : ¬ a1 < 0 → a1 ≤ ((s 146 6) - 1) → ¬ a2 < 1 → a2 ≤ 60 → (s 152 a1.toNatClampNeg) = 0 → (s 153 a1.toNatClampNeg) = 10 → B (some (.int (-4))) s)
    (k14 : ¬ a1 < 0 → a1 ≤ ((s 146 6) - 1) → ¬ a2 < 1 → a2 ≤ 60 → ¬ (s 152 a1.toNatClampNeg) = 0 → B (some (.int (-3))) s) :
    q_P G (d + 3) 162 [.ref 146, .int a1, .int a2] s B := by
  refine q_in (M := jm_M_section) rfl (Nat.le_of_ble_eq_true rfl) (ls := [some (.ref 146), some (.int a1), some (.int a2)]) rfl ?_
  refine q_aload_n (pc' := 1) ja_M_section_0 rfl rfl ?_
  refine q_iload_n (pc' := 2) ja_M_section_1 rfl rfl ?_
  refine q_virt (pc' := 5) (c := 146) (as := [.int a1]) (r := []) ja_M_section_2 rfl rfl rfl (by decide) ⟨rfl, by decide⟩ ?_
  refine q_in (M := jm_M_isBill) rfl (Nat.le_of_ble_eq_true rfl) (ls := [some (.ref 146), some (.int a1)]) rfl ?_
  refine q_iload_n (pc' := 1) ja_M_isBill_0 rfl rfl ?_
  refine q_iconst (pc' := 2) ja_M_isBill_1 rfl 0 (by decide) ?_
  refine q_aload_n (pc' := 3) ja_M_isBill_2 rfl rfl ?_
  refine q_getf (pc' := 6) (v := .int (s 146 6)) ja_M_isBill_3 rfl (by decide) ⟨rfl, by decide⟩ rfl ?_
  refine q_iconst (pc' := 7) ja_M_isBill_6 rfl 1 (by decide) ?_
  refine q_isub (pc' := 8) ja_M_isBill_7 rfl ?_
  refine q_stat (pc' := 11) (as := [.int a1, .int 0, .int ((s 146 6) - 1)]) (r := []) ja_M_isBill_8 rfl (by decide) rfl rfl ?_
  refine q_in (M := jm_M_in) rfl (Nat.le_of_ble_eq_true rfl) (ls := [some (.int a1), some (.int 0), some (.int ((s 146 6) - 1))]) rfl ?_
  refine q_iload_n (pc' := 1) ja_M_in_0 rfl rfl ?_
  refine q_iload_n (pc' := 2) ja_M_in_1 rfl rfl ?_
  refine q_ic_lt (pc' := 5) ja_M_in_2 rfl ?_ ?_
  · intro h1
    refine q_iconst (pc' := 15) ja_M_in_14 rfl 0 (by decide) ?_
    refine q_iret ja_M_in_15 rfl (by decide) ?_
    show q_W _ _ _ _ 11 [some (.ref 146), some (.int a1)] [.int 0] s
    refine q_iret ja_M_isBill_11 rfl (by decide) ?_
    show q_W _ _ _ _ 5 [some (.ref 146), some (.int a1), some (.int a2)] [.int 0] s
    refine q_if_eq (pc' := 8) ja_M_section_5 rfl (fun _ => ?_) (fun h => absurd ((by decide : (0 : Int32) = 0)) h)
    refine q_bipush (pc' := 17) ja_M_section_15 rfl (-2) (by decide) ?_
    exact q_iret ja_M_section_17 rfl rfl (k1 h1)
  · intro h2
    refine q_iload_n (pc' := 6) ja_M_in_5 rfl rfl ?_
    refine q_iload_n (pc' := 7) ja_M_in_6 rfl rfl ?_
    refine q_ic_gt (pc' := 10) ja_M_in_7 rfl ?_ ?_
    · intro h3
      refine q_iconst (pc' := 15) ja_M_in_14 rfl 0 (by decide) ?_
      refine q_iret ja_M_in_15 rfl (by decide) ?_
      show q_W _ _ _ _ 11 [some (.ref 146), some (.int a1)] [.int 0] s
      refine q_iret ja_M_isBill_11 rfl (by decide) ?_
      show q_W _ _ _ _ 5 [some (.ref 146), some (.int a1), some (.int a2)] [.int 0] s
      refine q_if_eq (pc' := 8) ja_M_section_5 rfl (fun _ => ?_) (fun h => absurd ((by decide : (0 : Int32) = 0)) h)
      refine q_bipush (pc' := 17) ja_M_section_15 rfl (-2) (by decide) ?_
      exact q_iret ja_M_section_17 rfl rfl (k2 h2 h3)
    · intro h4
      refine q_iconst (pc' := 11) ja_M_in_10 rfl 1 (by decide) ?_
      refine q_goto ja_M_in_11 ?_
      refine q_iret ja_M_in_15 rfl (by decide) ?_
      show q_W _ _ _ _ 11 [some (.ref 146), some (.int a1)] [.int 1] s
      refine q_iret ja_M_isBill_11 rfl (by decide) ?_
      show q_W _ _ _ _ 5 [some (.ref 146), some (.int a1), some (.int a2)] [.int 1] s
      refine q_if_eq (pc' := 8) ja_M_section_5 rfl (fun h => absurd h ((by decide : ¬ (1 : Int32) = 0))) (fun _ => ?_)
      refine q_iload_n (pc' := 9) ja_M_section_8 rfl rfl ?_
      refine q_stat (pc' := 12) (as := [.int a2]) (r := []) ja_M_section_9 rfl (by decide) rfl rfl ?_
      refine q_in (M := jm_M_isWord) rfl (Nat.le_of_ble_eq_true rfl) (ls := [some (.int a2)]) rfl ?_
      refine q_iload_n (pc' := 1) ja_M_isWord_0 rfl rfl ?_
      refine q_iconst (pc' := 2) ja_M_isWord_1 rfl 1 (by decide) ?_
      refine q_bipush (pc' := 4) ja_M_isWord_2 rfl 60 (by decide) ?_
      refine q_stat (pc' := 7) (as := [.int a2, .int 1, .int 60]) (r := []) ja_M_isWord_4 rfl (by decide) rfl rfl ?_
      refine q_in (M := jm_M_in) rfl (Nat.le_of_ble_eq_true rfl) (ls := [some (.int a2), some (.int 1), some (.int 60)]) rfl ?_
      refine q_iload_n (pc' := 1) ja_M_in_0 rfl rfl ?_
      refine q_iload_n (pc' := 2) ja_M_in_1 rfl rfl ?_
      refine q_ic_lt (pc' := 5) ja_M_in_2 rfl ?_ ?_
      · intro h5
        refine q_iconst (pc' := 15) ja_M_in_14 rfl 0 (by decide) ?_
        refine q_iret ja_M_in_15 rfl (by decide) ?_
        show q_W _ _ _ _ 7 [some (.int a2)] [.int 0] s
        refine q_iret ja_M_isWord_7 rfl (by decide) ?_
        show q_W _ _ _ _ 12 [some (.ref 146), some (.int a1), some (.int a2)] [.int 0] s
        refine q_if_ne (pc' := 15) ja_M_section_12 rfl (fun h => absurd ((by decide : (0 : Int32) = 0)) h) (fun _ => ?_)
        refine q_bipush (pc' := 17) ja_M_section_15 rfl (-2) (by decide) ?_
        exact q_iret ja_M_section_17 rfl rfl (k3 h2 h4 h5)
      · intro h6
        refine q_iload_n (pc' := 6) ja_M_in_5 rfl rfl ?_
        refine q_iload_n (pc' := 7) ja_M_in_6 rfl rfl ?_
        refine q_ic_gt (pc' := 10) ja_M_in_7 rfl ?_ ?_
        · intro h7
          refine q_iconst (pc' := 15) ja_M_in_14 rfl 0 (by decide) ?_
          refine q_iret ja_M_in_15 rfl (by decide) ?_
          show q_W _ _ _ _ 7 [some (.int a2)] [.int 0] s
          refine q_iret ja_M_isWord_7 rfl (by decide) ?_
          show q_W _ _ _ _ 12 [some (.ref 146), some (.int a1), some (.int a2)] [.int 0] s
          refine q_if_ne (pc' := 15) ja_M_section_12 rfl (fun h => absurd ((by decide : (0 : Int32) = 0)) h) (fun _ => ?_)
          refine q_bipush (pc' := 17) ja_M_section_15 rfl (-2) (by decide) ?_
          exact q_iret ja_M_section_17 rfl rfl (k4 h2 h4 h6 h7)
        · intro h8
          refine q_iconst (pc' := 11) ja_M_in_10 rfl 1 (by decide) ?_
          refine q_goto ja_M_in_11 ?_
          refine q_iret ja_M_in_15 rfl (by decide) ?_
          show q_W _ _ _ _ 7 [some (.int a2)] [.int 1] s
          refine q_iret ja_M_isWord_7 rfl (by decide) ?_
          show q_W _ _ _ _ 12 [some (.ref 146), some (.int a1), some (.int a2)] [.int 1] s
          refine q_if_ne (pc' := 15) ja_M_section_12 rfl (fun _ => ?_) (fun h => absurd h ((by decide : ¬ (1 : Int32) = 0)))
          refine q_aload_n (pc' := 19) ja_M_section_18 rfl rfl ?_
          refine q_getf (pc' := 22) (v := .ref 152) ja_M_section_19 rfl (by decide) ⟨rfl, by decide⟩ rfl ?_
          refine q_iload_n (pc' := 23) ja_M_section_22 rfl rfl ?_
          refine q_iald (pc' := 24) (v := .int (s 152 a1.toNatClampNeg)) ja_M_section_23 rfl (by decide) (l := 8) rfl (k5 h2 h4 h6 h8) rfl ?_
          refine q_if_eq (pc' := 27) ja_M_section_24 rfl ?_ ?_
          · intro h9
            refine q_aload_n (pc' := 31) ja_M_section_30 rfl rfl ?_
            refine q_getf (pc' := 34) (v := .ref 153) ja_M_section_31 rfl (by decide) ⟨rfl, by decide⟩ rfl ?_
            refine q_iload_n (pc' := 35) ja_M_section_34 rfl rfl ?_
            refine q_iald (pc' := 36) (v := .int (s 153 a1.toNatClampNeg)) ja_M_section_35 rfl (by decide) (l := 8) rfl (k6 h2 h4 h6 h8 h9) rfl ?_
            refine q_bipush (pc' := 38) ja_M_section_36 rfl 10 (by decide) ?_
            refine q_ic_ne (pc' := 41) ja_M_section_38 rfl ?_ ?_
            · intro h10
              refine q_aload_n (pc' := 45) ja_M_section_44 rfl rfl ?_
              refine q_getf (pc' := 48) (v := .ref 154) ja_M_section_45 rfl (by decide) ⟨rfl, by decide⟩ rfl ?_
              refine q_bipush (pc' := 50) ja_M_section_48 rfl 10 (by decide) ?_
              refine q_iload_n (pc' := 51) ja_M_section_50 rfl rfl ?_
              refine q_imul (pc' := 52) ja_M_section_51 rfl ?_
              refine q_aload_n (pc' := 53) ja_M_section_52 rfl rfl ?_
              refine q_getf (pc' := 56) (v := .ref 153) ja_M_section_53 rfl (by decide) ⟨rfl, by decide⟩ rfl ?_
              refine q_iload_n (pc' := 57) ja_M_section_56 rfl rfl ?_
              refine q_iald (pc' := 58) (v := .int (s 153 a1.toNatClampNeg)) ja_M_section_57 rfl (by decide) (l := 8) rfl (k7 h2 h4 h6 h8 h9 h10) rfl ?_
              refine q_iadd (pc' := 59) ja_M_section_58 rfl ?_
              refine q_iload_n (pc' := 60) ja_M_section_59 rfl rfl ?_
              refine q_iast (pc' := 61) ja_M_section_60 rfl (by decide) (l := 80) rfl (k8 h2 h4 h6 h8 h9 h10) ?_
              intro s1 e1
              refine q_aload_n (pc' := 62) ja_M_section_61 rfl rfl ?_
              refine q_getf (pc' := 65) (v := .ref 153) ja_M_section_62 rfl (by decide) ⟨rfl, by decide⟩ rfl ?_
              refine q_iload_n (pc' := 66) ja_M_section_65 rfl rfl ?_
              refine q_dup2 (pc' := 67) ja_M_section_66 rfl ⟨rfl, rfl⟩ ?_
              refine q_iald (pc' := 68) (v := .int (s1 153 a1.toNatClampNeg)) ja_M_section_67 rfl (by decide) (l := 8) rfl (k9 h2 h4 h6 h8 h9 h10 s1 e1) rfl ?_
              refine q_iconst (pc' := 69) ja_M_section_68 rfl 1 (by decide) ?_
              refine q_iadd (pc' := 70) ja_M_section_69 rfl ?_
              refine q_iast (pc' := 71) ja_M_section_70 rfl (by decide) (l := 8) rfl (k10 h2 h4 h6 h8 h9 h10 s1 e1) ?_
              intro s2 e2
              refine q_aload_n (pc' := 72) ja_M_section_71 rfl rfl ?_
              refine q_getf (pc' := 75) (v := .ref 153) ja_M_section_72 rfl (by decide) ⟨rfl, by decide⟩ rfl ?_
              refine q_iload_n (pc' := 76) ja_M_section_75 rfl rfl ?_
              refine q_iald (pc' := 77) (v := .int (s2 153 a1.toNatClampNeg)) ja_M_section_76 rfl (by decide) (l := 8) rfl (k11 h2 h4 h6 h8 h9 h10 s1 e1 s2 e2) rfl ?_
              exact q_iret ja_M_section_77 rfl rfl (k12 h2 h4 h6 h8 h9 h10 s1 e1 s2 e2)
            · intro h11
              refine q_bipush (pc' := 43) ja_M_section_41 rfl (-4) (by decide) ?_
              exact q_iret ja_M_section_43 rfl rfl (k13 h2 h4 h6 h8 h9 h11)
          · intro h12
            refine q_bipush (pc' := 29) ja_M_section_27 rfl (-3) (by decide) ?_
            exact q_iret ja_M_section_29 rfl rfl (k14 h2 h4 h6 h8 h12)
set_option maxRecDepth 20000 in
theorem t_M_sectionOf {G : jv_X} {d : Nat} {B : Option Value → jg_H → Prop} {s : jg_H} (a1 : Int32)
    (k1 : jv_in a1 13 = true)
    (k2 : (s 161 a1.toNatClampNeg) = 0 → jv_in a1 13 = true)
    (k3 : (s 161 a1.toNatClampNeg) = 0 → B (some (.int (s 159 a1.toNatClampNeg))) s)
    (k4 : ¬ (s 161 a1.toNatClampNeg) = 0 → B (some (.int (s 146 53))) s) :
    q_P G (d + 1) 195 [.ref 146, .int a1] s B := by
  refine q_in (M := jm_M_sectionOf) rfl (Nat.le_of_ble_eq_true rfl) (ls := [some (.ref 146), some (.int a1)]) rfl ?_
  refine q_aload_n (pc' := 1) ja_M_sectionOf_0 rfl rfl ?_
  refine q_getf (pc' := 4) (v := .ref 161) ja_M_sectionOf_1 rfl (by decide) ⟨rfl, by decide⟩ rfl ?_
  refine q_iload_n (pc' := 5) ja_M_sectionOf_4 rfl rfl ?_
  refine q_bald (pc' := 6) (v := .int (s 161 a1.toNatClampNeg)) ja_M_sectionOf_5 rfl (by decide) (l := 13) rfl k1 rfl ?_
  refine q_if_eq (pc' := 9) ja_M_sectionOf_6 rfl ?_ ?_
  · intro h1
    refine q_aload_n (pc' := 17) ja_M_sectionOf_16 rfl rfl ?_
    refine q_getf (pc' := 20) (v := .ref 159) ja_M_sectionOf_17 rfl (by decide) ⟨rfl, by decide⟩ rfl ?_
    refine q_iload_n (pc' := 21) ja_M_sectionOf_20 rfl rfl ?_
    refine q_iald (pc' := 22) (v := .int (s 159 a1.toNatClampNeg)) ja_M_sectionOf_21 rfl (by decide) (l := 13) rfl (k2 h1) rfl ?_
    exact q_iret ja_M_sectionOf_22 rfl rfl (k3 h1)
  · intro h2
    refine q_aload_n (pc' := 10) ja_M_sectionOf_9 rfl rfl ?_
    refine q_getf (pc' := 13) (v := .int (s 146 53)) ja_M_sectionOf_10 rfl (by decide) ⟨rfl, by decide⟩ rfl ?_
    refine q_goto ja_M_sectionOf_13 ?_
    exact q_iret ja_M_sectionOf_22 rfl rfl (k4 h2)
