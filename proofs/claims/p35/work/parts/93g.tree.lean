set_option maxRecDepth 20000 in
theorem t_M_sets {G : jv_X} {d : Nat} {B : Option Value → jg_H → Prop} {s : jg_H} (a1 : Int32) (a2 : Int32) (a3 : Int32) (a4 : Int32) (a5 : Int32)
    (k1 : jv_in a1 13 = true)
    (k2 : ∀ s1 : jg_H, s1 = jg_up s 157 a1.toNatClampNeg a2 → jv_in a1 13 = true)
    (k3 : ∀ s1 : jg_H, s1 = jg_up s 157 a1.toNatClampNeg a2 → ∀ s2 : jg_H, s2 = jg_up s1 158 a1.toNatClampNeg a3 → ¬ a2 = 2 → jv_in a1 13 = true)
    (k4 : ∀ s1 : jg_H, s1 = jg_up s 157 a1.toNatClampNeg a2 → ∀ s2 : jg_H, s2 = jg_up s1 158 a1.toNatClampNeg a3 → ¬ a2 = 2 → ∀ s3 : jg_H, s3 = jg_up s2 161 a1.toNatClampNeg 0 → a2 < 1 → jv_in a1 13 = true)
    (k5 : ∀ s1 : jg_H, s1 = jg_up s 157 a1.toNatClampNeg a2 → ∀ s2 : jg_H, s2 = jg_up s1 158 a1.toNatClampNeg a3 → ¬ a2 = 2 → ∀ s3 : jg_H, s3 = jg_up s2 161 a1.toNatClampNeg 0 → a2 < 1 → ∀ s4 : jg_H, s4 = jg_up s3 159 a1.toNatClampNeg (-1) → a2 < 2 → ¬ a2 = 6 → jv_in a1 13 = true)
    (k6 : ∀ s1 : jg_H, s1 = jg_up s 157 a1.toNatClampNeg a2 → ∀ s2 : jg_H, s2 = jg_up s1 158 a1.toNatClampNeg a3 → ¬ a2 = 2 → ∀ s3 : jg_H, s3 = jg_up s2 161 a1.toNatClampNeg 0 → a2 < 1 → ∀ s4 : jg_H, s4 = jg_up s3 159 a1.toNatClampNeg (-1) → a2 < 2 → ¬ a2 = 6 → ∀ s5 : jg_H, s5 = jg_up s4 160 a1.toNatClampNeg (-1) → B none s5)
    (k7 : ∀ s1 : jg_H, s1 = jg_up s 157 a1.toNatClampNeg a2 → ∀ s2 : jg_H, s2 = jg_up s1 158 a1.toNatClampNeg a3 → ¬ a2 = 2 → ∀ s3 : jg_H, s3 = jg_up s2 161 a1.toNatClampNeg 0 → a2 < 1 → ∀ s4 : jg_H, s4 = jg_up s3 159 a1.toNatClampNeg (-1) → a2 < 2 → a2 = 6 → jv_in a1 13 = true)
    (k8 : ∀ s1 : jg_H, s1 = jg_up s 157 a1.toNatClampNeg a2 → ∀ s2 : jg_H, s2 = jg_up s1 158 a1.toNatClampNeg a3 → ¬ a2 = 2 → ∀ s3 : jg_H, s3 = jg_up s2 161 a1.toNatClampNeg 0 → a2 < 1 → ∀ s4 : jg_H, s4 = jg_up s3 159 a1.toNatClampNeg (-1) → a2 < 2 → a2 = 6 → ∀ s6 : jg_H, s6 = jg_up s4 160 a1.toNatClampNeg a5 → B none s6)
    (k9 : ∀ s1 : jg_H, s1 = jg_up s 157 a1.toNatClampNeg a2 → ∀ s2 : jg_H, s2 = jg_up s1 158 a1.toNatClampNeg a3 → ¬ a2 = 2 → ∀ s3 : jg_H, s3 = jg_up s2 161 a1.toNatClampNeg 0 → a2 < 1 → ∀ s4 : jg_H, s4 = jg_up s3 159 a1.toNatClampNeg (-1) → ¬ a2 < 2 → ¬ a2 ≤ 3 → ¬ a2 = 6 → jv_in a1 13 = true)
    (k10 : ∀ s1 : jg_H, s1 = jg_up s 157 a1.toNatClampNeg a2 → ∀ s2 : jg_H, s2 = jg_up s1 158 a1.toNatClampNeg a3 → ¬ a2 = 2 → ∀ s3 : jg_H, s3 = jg_up s2 161 a1.toNatClampNeg 0 → a2 < 1 → ∀ s4 : jg_H, s4 = jg_up s3 159 a1.toNatClampNeg (-1) → ¬ a2 < 2 → ¬ a2 ≤ 3 → ¬ a2 = 6 → ∀ s7 : jg_H, s7 = jg_up s4 160 a1.toNatClampNeg (-1) → B none s7)
    (k11 : ∀ s1 : jg_H, s1 = jg_up s 157 a1.toNatClampNeg a2 → ∀ s2 : jg_H, s2 = jg_up s1 158 a1.toNatClampNeg a3 → ¬ a2 = 2 → ∀ s3 : jg_H, s3 = jg_up s2 161 a1.toNatClampNeg 0 → a2 < 1 → ∀ s4 : jg_H, s4 = jg_up s3 159 a1.toNatClampNeg (-1) → ¬ a2 < 2 → ¬ a2 ≤ 3 → a2 = 6 → jv_in a1 13 = true)
    (k12 : ∀ s1 : jg_H, s1 = jg_up s 157 a1.toNatClampNeg a2 → ∀ s2 : jg_H, s2 = jg_up s1 158 a1.toNatClampNeg a3 → ¬ a2 = 2 → ∀ s3 : jg_H, s3 = jg_up s2 161 a1.toNatClampNeg 0 → a2 < 1 → ∀ s4 : jg_H, s4 = jg_up s3 159 a1.toNatClampNeg (-1) → ¬ a2 < 2 → ¬ a2 ≤ 3 → a2 = 6 → ∀ s8 : jg_H, s8 = jg_up s4 160 a1.toNatClampNeg a5 → B none s8)
    (k13 : ∀ s1 : jg_H, s1 = jg_up s 157 a1.toNatClampNeg a2 → ∀ s2 : jg_H, s2 = jg_up s1 158 a1.toNatClampNeg a3 → ¬ a2 = 2 → ∀ s3 : jg_H, s3 = jg_up s2 161 a1.toNatClampNeg 0 → a2 < 1 → ∀ s4 : jg_H, s4 = jg_up s3 159 a1.toNatClampNeg (-1) → ¬ a2 < 2 → a2 ≤ 3 → jv_in a1 13 = true)
    (k14 : ∀ s1 : jg_H, s1 = jg_up s 157 a1.toNatClampNeg a2 → ∀ s2 : jg_H, s2 = jg_up s1 158 a1.toNatClampNeg a3 → ¬ a2 = 2 → ∀ s3 : jg_H, s3 = jg_up s2 161 a1.toNatClampNeg 0 → a2 < 1 → ∀ s4 : jg_H, s4 = jg_up s3 159 a1.toNatClampNeg (-1) → ¬ a2 < 2 → a2 ≤ 3 → ∀ s9 : jg_H, s9 = jg_up s4 160 a1.toNatClampNeg a5 → B none s9)
    (k15 : ∀ s1 : jg_H, s1 = jg_up s 157 a1.toNatClampNeg a2 → ∀ s2 : jg_H, s2 = jg_up s1 158 a1.toNatClampNeg a3 → ¬ a2 = 2 → ∀ s3 : jg_H, s3 = jg_up s2 161 a1.toNatClampNeg 0 → ¬ a2 < 1 → ¬ a2 ≤ 3 → jv_in a1 13 = true)
    (k16 : ∀ s1 : jg_H, s1 = jg_up s 157 a1.toNatClampNeg a2 → ∀ s2 : jg_H, s2 = jg_up s1 158 a1.toNatClampNeg a3 → ¬ a2 = 2 → ∀ s3 : jg_H, s3 = jg_up s2 161 a1.toNatClampNeg 0 → ¬ a2 < 1 → ¬ a2 ≤ 3 → ∀ s10 : jg_H, s10 = jg_up s3 159 a1.toNatClampNeg (-1) → a2 < 2 → ¬ a2 = 6 → jv_in a1 13 = true)
    (k17 : ∀ s1 : jg_H, s1 = jg_up s 157 a1.toNatClampNeg a2 → ∀ s2 : jg_H, s2 = jg_up s1 158 a1.toNatClampNeg a3 → ¬ a2 = 2 → ∀ s3 : jg_H, s3 = jg_up s2 161 a1.toNatClampNeg 0 → ¬ a2 < 1 → ¬ a2 ≤ 3 → ∀ s10 : jg_H, s10 = jg_up s3 159 a1.toNatClampNeg (-1) → a2 < 2 → ¬ a2 = 6 → ∀ s11 : jg_H, s11 = jg_up s10 160 a1.toNatClampNeg (-1) → B none s11)
    (k18 : ∀ s1 : jg_H, s1 = jg_up s 157 a1.toNatClampNeg a2 → ∀ s2 : jg_H, s2 = jg_up s1 158 a1.toNatClampNeg a3 → ¬ a2 = 2 → ∀ s3 : jg_H, s3 = jg_up s2 161 a1.toNatClampNeg 0 → ¬ a2 < 1 → ¬ a2 ≤ 3 → ∀ s10 : jg_H, s10 = jg_up s3 159 a1.toNatClampNeg (-1) → a2 < 2 → a2 = 6 → jv_in a1 13 = true)
    (k19 : ∀ s1 : jg_H, s1 = jg_up s 157 a1.toNatClampNeg a2 → ∀ s2 : jg_H, s2 = jg_up s1 158 a1.toNatClampNeg a3 → ¬ a2 = 2 → ∀ s3 : jg_H, s3 = jg_up s2 161 a1.toNatClampNeg 0 → ¬ a2 < 1 → ¬ a2 ≤ 3 → ∀ s10 : jg_H, s10 = jg_up s3 159 a1.toNatClampNeg (-1) → a2 < 2 → a2 = 6 → ∀ s12 : jg_H, s12 = jg_up s10 160 a1.toNatClampNeg a5 → B none s12)
    (k20 : ∀ s1 : jg_H, s1 = jg_up s 157 a1.toNatClampNeg a2 → ∀ s2 : jg_H, s2 = jg_up s1 158 a1.toNatClampNeg a3 → ¬ a2 = 2 → ∀ s3 : jg_H, s3 = jg_up s2 161 a1.toNatClampNeg 0 → ¬ a2 < 1 → ¬ a2 ≤ 3 → ∀ s10 : jg_H, s10 = jg_up s3 159 a1.toNatClampNeg (-1) → ¬ a2 < 2 → ¬ a2 = 6 → jv_in a1 13 = true)
    (k21 : ∀ s1 : jg_H, s1 = jg_up s 157 a1.toNatClampNeg a2 → ∀ s2 : jg_H, s2 = jg_up s1 158 a1.toNatClampNeg a3 → ¬ a2 = 2 → ∀ s3 : jg_H, s3 = jg_up s2 161 a1.toNatClampNeg 0 → ¬ a2 < 1 → ¬ a2 ≤ 3 → ∀ s10 : jg_H, s10 = jg_up s3 159 a1.toNatClampNeg (-1) → ¬ a2 < 2 → ¬ a2 = 6 → ∀ s13 : jg_H, s13 = jg_up s10 160 a1.toNatClampNeg (-1) → B none s13)
    (k22 : ∀ s1 : jg_H, s1 = jg_up s 157 a1.toNatClampNeg a2 → ∀ s2 : jg_H, s2 = jg_up s1 158 a1.toNatClampNeg a3 → ¬ a2 = 2 → ∀ s3 : jg_H, s3 = jg_up s2 161 a1.toNatClampNeg 0 → ¬ a2 < 1 → ¬ a2 ≤ 3 → ∀ s10 : jg_H, s10 = jg_up s3 159 a1.toNatClampNeg (-1) → ¬ a2 < 2 → a2 = 6 → jv_in a1 13 = true)
    (k23 : ∀ s1 : jg_H, s1 = jg_up s 157 a1.toNatClampNeg a2 → ∀ s2 : jg_H, s2 = jg_up s1 158 a1.toNatClampNeg a3 → ¬ a2 = 2 → ∀ s3 : jg_H, s3 = jg_up s2 161 a1.toNatClampNeg 0 → ¬ a2 < 1 → ¬ a2 ≤ 3 → ∀ s10 : jg_H, s10 = jg_up s3 159 a1.toNatClampNeg (-1) → ¬ a2 < 2 → a2 = 6 → ∀ s14 : jg_H, s14 = jg_up s10 160 a1.toNatClampNeg a5 → B none s14)
    (k24 : ∀ s1 : jg_H, s1 = jg_up s 157 a1.toNatClampNeg a2 → ∀ s2 : jg_H, s2 = jg_up s1 158 a1.toNatClampNeg a3 → ¬ a2 = 2 → ∀ s3 : jg_H, s3 = jg_up s2 161 a1.toNatClampNeg 0 → ¬ a2 < 1 → a2 ≤ 3 → jv_in a1 13 = true)
    (k25 : ∀ s1 : jg_H, s1 = jg_up s 157 a1.toNatClampNeg a2 → ∀ s2 : jg_H, s2 = jg_up s1 158 a1.toNatClampNeg a3 → ¬ a2 = 2 → ∀ s3 : jg_H, s3 = jg_up s2 161 a1.toNatClampNeg 0 → ¬ a2 < 1 → a2 ≤ 3 → ∀ s15 : jg_H, s15 = jg_up s3 159 a1.toNatClampNeg a4 → a2 < 2 → ¬ a2 = 6 → jv_in a1 13 = true)
    (k26 : ∀ s1 : jg_H, s1 = jg_up s 157 a1.toNatClampNeg a2 → ∀ s2 : jg_H, s2 = jg_up s1 158 a1.toNatClampNeg a3 → ¬ a2 = 2 → ∀ s3 : jg_H, s3 = jg_up s2 161 a1.toNatClampNeg 0 → ¬ a2 < 1 → a2 ≤ 3 → ∀ s15 : jg_H, s15 = jg_up s3 159 a1.toNatClampNeg a4 → a2 < 2 → ¬ a2 = 6 → ∀ s16 : jg_H, s16 = jg_up s15 160 a1.toNatClampNeg (-1) → B none s16)
    (k27 : ∀ s1 : jg_H, s1 = jg_up s 157 a1.toNatClampNeg a2 → ∀ s2 : jg_H, s2 = jg_up s1 158 a1.toNatClampNeg a3 → ¬ a2 = 2 → ∀ s3 : jg_H, s3 = jg_up s2 161 a1.toNatClampNeg 0 → ¬ a2 < 1 → a2 ≤ 3 → ∀ s15 : jg_H, s15 = jg_up s3 159 a1.toNatClampNeg a4 → a2 < 2 → a2 = 6 → jv_in a1 13 = true)
    (k28 : ∀ s1 : jg_H, s1 = jg_up s 157 a1.toNatClampNeg a2 → ∀ s2 : jg_H, s2 = jg_up s1 158 a1.toNatClampNeg a3 → ¬ a2 = 2 → ∀ s3 : jg_H, s3 = jg_up s2 161 a1.toNatClampNeg 0 → ¬ a2 < 1 → a2 ≤ 3 → ∀ s15 : jg_H, s15 = jg_up s3 159 a1.toNatClampNeg a4 → a2 < 2 → a2 = 6 → ∀ s17 : jg_H, s17 = jg_up s15 160 a1.toNatClampNeg a5 → B none s17)
    (k29 : ∀ s1 : jg_H, s1 = jg_up s 157 a1.toNatClampNeg a2 → ∀ s2 : jg_H, s2 = jg_up s1 158 a1.toNatClampNeg a3 → ¬ a2 = 2 → ∀ s3 : jg_H, s3 = jg_up s2 161 a1.toNatClampNeg 0 → ¬ a2 < 1 → a2 ≤ 3 → ∀ s15 : jg_H, s15 = jg_up s3 159 a1.toNatClampNeg a4 → ¬ a2 < 2 → jv_in a1 13 = true)
    (k30 : ∀ s1 : jg_H, s1 = jg_up s 157 a1.toNatClampNeg a2 → ∀ s2 : jg_H, s2 = jg_up s1 158 a1.toNatClampNeg a3 → ¬ a2 = 2 → ∀ s3 : jg_H, s3 = jg_up s2 161 a1.toNatClampNeg 0 → ¬ a2 < 1 → a2 ≤ 3 → ∀ s15 : jg_H, s15 = jg_up s3 159 a1.toNatClampNeg a4 → ¬ a2 < 2 → ∀ s18 : jg_H, s18 = jg_up s15 160 a1.toNatClampNeg a5 → B none s18)
    (k31 : ∀ s1 : jg_H, s1 = jg_up s 157 a1.toNatClampNeg a2 → ∀ s2 : jg_H, s2 = jg_up s1 158 a1.toNatClampNeg a3 → a2 = 2 → jv_in (s2 146 13) 8 = true)
    (k32 : ∀ s1 : jg_H, s1 = jg_up s 157 a1.toNatClampNeg a2 → ∀ s2 : jg_H, s2 = jg_up s1 158 a1.toNatClampNeg a3 → a2 = 2 → ¬ a4 = (s2 153 (s2 146 13).toNatClampNeg) → jv_in a1 13 = true)
    (k33 : ∀ s1 : jg_H, s1 = jg_up s 157 a1.toNatClampNeg a2 → ∀ s2 : jg_H, s2 = jg_up s1 158 a1.toNatClampNeg a3 → a2 = 2 → ¬ a4 = (s2 153 (s2 146 13).toNatClampNeg) → ∀ s19 : jg_H, s19 = jg_up s2 161 a1.toNatClampNeg 0 → a2 < 1 → jv_in a1 13 = true)
    (k34 : ∀ s1 : jg_H, s1 = jg_up s 157 a1.toNatClampNeg a2 → ∀ s2 : jg_H, s2 = jg_up s1 158 a1.toNatClampNeg a3 → a2 = 2 → ¬ a4 = (s2 153 (s2 146 13).toNatClampNeg) → ∀ s19 : jg_H, s19 = jg_up s2 161 a1.toNatClampNeg 0 → a2 < 1 → ∀ s20 : jg_H, s20 = jg_up s19 159 a1.toNatClampNeg (-1) → a2 < 2 → ¬ a2 = 6 → jv_in a1 13 = true)
    (k35 : ∀ s1 : jg_H, s1 = jg_up s 157 a1.toNatClampNeg a2 → ∀ s2 : jg_H, s2 = jg_up s1 158 a1.toNatClampNeg a3 → a2 = 2 → ¬ a4 = (s2 153 (s2 146 13).toNatClampNeg) → ∀ s19 : jg_H, s19 = jg_up s2 161 a1.toNatClampNeg 0 → a2 < 1 → ∀ s20 : jg_H, s20 = jg_up s19 159 a1.toNatClampNeg (-1) → a2 < 2 → ¬ a2 = 6 → ∀ s21 : jg_H, s21 = jg_up s20 160 a1.toNatClampNeg (-1) → B none s21)
    (k36 : ∀ s1 : jg_H, s1 = jg_up s 157 a1.toNatClampNeg a2 → ∀ s2 : jg_H, s2 = jg_up s1 158 a1.toNatClampNeg a3 → a2 = 2 → ¬ a4 = (s2 153 (s2 146 13).toNatClampNeg) → ∀ s19 : jg_H, s19 = jg_up s2 161 a1.toNatClampNeg 0 → a2 < 1 → ∀ s20 : jg_H, s20 = jg_up s19 159 a1.toNatClampNeg (-1) → a2 < 2 → a2 = 6 → jv_in a1 13 = true)
    (k37 : ∀ s1 : jg_H, s1 = jg_up s 157 a1.toNatClampNeg a2 → ∀ s2 : jg_H, s2 = jg_up s1 158 a1.toNatClampNeg a3 → a2 = 2 → ¬ a4 = (s2 153 (s2 146 13).toNatClampNeg) → ∀ s19 : jg_H, s19 = jg_up s2 161 a1.toNatClampNeg 0 → a2 < 1 → ∀ s20 : jg_H, s20 = jg_up s19 159 a1.toNatClampNeg (-1) → a2 < 2 → a2 = 6 → ∀ s22 : jg_H, s22 = jg_up s20 160 a1.toNatClampNeg a5 → B none s22)
    (k38 : ∀ s1 : jg_H, s1 = jg_up s 157 a1.toNatClampNeg a2 → ∀ s2 : jg_H, s2 = jg_up s1 158 a1.toNatClampNeg a3 → a2 = 2 → ¬ a4 = (s2 153 (s2 146 13).toNatClampNeg) → ∀ s19 : jg_H, s19 = jg_up s2 161 a1.toNatClampNeg 0 → a2 < 1 → ∀ s20 : jg_H, s20 = jg_up s19 159 a1.toNatClampNeg (-1) → ¬ a2 < 2 → ¬ a2 ≤ 3 → ¬ a2 = 6 → jv_in a1 13 = true)
    (k39 : ∀ s1 : jg_H, s1 = jg_up s 157 a1.toNatClampNeg a2 → ∀ s2 : jg_H, s2 = jg_up s1 158 a1.toNatClampNeg a3 → a2 = 2 → ¬ a4 = (s2 153 (s2 146 13).toNatClampNeg) → ∀ s19 : jg_H, s19 = jg_up s2 161 a1.toNatClampNeg 0 → a2 < 1 → ∀ s20 : jg_H, s20 = jg_up s19 159 a1.toNatClampNeg (-1) → ¬ a2 < 2 → ¬ a2 ≤ 3 → ¬ a2 = 6 → ∀ s23 : jg_H, s23 = jg_up s20 160 a1.toNatClampNeg (-1) → B none s23)
    (k40 : ∀ s1 : jg_H, s1 = jg_up s 157 a1.toNatClampNeg a2 → ∀ s2 : jg_H, s2 = jg_up s1 158 a1.toNatClampNeg a3 → a2 = 2 → ¬ a4 = (s2 153 (s2 146 13).toNatClampNeg) → ∀ s19 : jg_H, s19 = jg_up s2 161 a1.toNatClampNeg 0 → a2 < 1 → ∀ s20 : jg_H, s20 = jg_up s19 159 a1.toNatClampNeg (-1) → ¬ a2 < 2 → ¬ a2 ≤ 3 → a2 = 6 → jv_in a1 13 = true)
    (k41 : ∀ s1 : jg_H, s1 = jg_up s 157 a1.toNatClampNeg a2 → ∀ s2 : jg_H, s2 = jg_up s1 158 a1.toNatClampNeg a3 → a2 = 2 → ¬ a4 = (s2 153 (s2 146 13).toNatClampNeg) → ∀ s19 : jg_H, s19 = jg_up s2 161 a1.toNatClampNeg 0 → a2 < 1 → ∀ s20 : jg_H, s20 = jg_up s19 159 a1.toNatClampNeg (-1) → ¬ a2 < 2 → ¬ a2 ≤ 3 → a2 = 6 → ∀ s24 : jg_H, s24 = jg_up s20 160 a1.toNatClampNeg a5 → B none s24)
    (k42 : ∀ s1 : jg_H, s1 = jg_up s 157 a1.toNatClampNeg a2 → ∀ s2 : jg_H, s2 = jg_up s1 158 a1.toNatClampNeg a3 → a2 = 2 → ¬ a4 = (s2 153 (s2 146 13).toNatClampNeg) → ∀ s19 : jg_H, s19 = jg_up s2 161 a1.toNatClampNeg 0 → a2 < 1 → ∀ s20 : jg_H, s20 = jg_up s19 159 a1.toNatClampNeg (-1) → ¬ a2 < 2 → a2 ≤ 3 → jv_in a1 13 = true)
    (k43 : ∀ s1 : jg_H, s1 = jg_up s 157 a1.toNatClampNeg a2 → ∀ s2 : jg_H, s2 = jg_up s1 158 a1.toNatClampNeg a3 → a2 = 2 → ¬ a4 = (s2 153 (s2 146 13).toNatClampNeg) → ∀ s19 : jg_H, s19 = jg_up s2 161 a1.toNatClampNeg 0 → a2 < 1 → ∀ s20 : jg_H, s20 = jg_up s19 159 a1.toNatClampNeg (-1) → ¬ a2 < 2 → a2 ≤ 3 → ∀ s25 : jg_H, s25 = jg_up s20 160 a1.toNatClampNeg a5 → B none s25)
    (k44 : ∀ s1 : jg_H, s1 = jg_up s 157 a1.toNatClampNeg a2 → ∀ s2 : jg_H, s2 = jg_up s1 158 a1.toNatClampNeg a3 → a2 = 2 → ¬ a4 = (s2 153 (s2 146 13).toNatClampNeg) → ∀ s19 : jg_H, s19 = jg_up s2 161 a1.toNatClampNeg 0 → ¬ a2 < 1 → ¬ a2 ≤ 3 → jv_in a1 13 = true)
    (k45 : ∀ s1 : jg_H, s1 = jg_up s 157 a1.toNatClampNeg a2 → ∀ s2 : jg_H, s2 = jg_up s1 158 a1.toNatClampNeg a3 → a2 = 2 → ¬ a4 = (s2 153 (s2 146 13).toNatClampNeg) → ∀ s19 : jg_H, s19 = jg_up s2 161 a1.toNatClampNeg 0 → ¬ a2 < 1 → ¬ a2 ≤ 3 → ∀ s26 : jg_H, s26 = jg_up s19 159 a1.toNatClampNeg (-1) → a2 < 2 → ¬ a2 = 6 → jv_in a1 13 = true)
    (k46 : ∀ s1 : jg_H, s1 = jg_up s 157 a1.toNatClampNeg a2 → ∀ s2 : jg_H, s2 = jg_up s1 158 a1.toNatClampNeg a3 → a2 = 2 → ¬ a4 = (s2 153 (s2 146 13).toNatClampNeg) → ∀ s19 : jg_H, s19 = jg_up s2 161 a1.toNatClampNeg 0 → ¬ a2 < 1 → ¬ a2 ≤ 3 → ∀ s26 : jg_H, s26 = jg_up s19 159 a1.toNatClampNeg (-1) → a2 < 2 → ¬ a2 = 6 → ∀ s27 : jg_H, s27 = jg_up s26 160 a1.toNatClampNeg (-1) → B none s27)
    (k47 : ∀ s1 : jg_H, s1 = jg_up s 157 a1.toNatClampNeg a2 → ∀ s2 : jg_H, s2 = jg_up s1 158 a1.toNatClampNeg a3 → a2 = 2 → ¬ a4 = (s2 153 (s2 146 13).toNatClampNeg) → ∀ s19 : jg_H, s19 = jg_up s2 161 a1.toNatClampNeg 0 → ¬ a2 < 1 → ¬ a2 ≤ 3 → ∀ s26 : jg_H, s26 = jg_up s19 159 a1.toNatClampNeg (-1) → a2 < 2 → a2 = 6 → jv_in a1 13 = true)
    (k48 : ∀ s1 : jg_H, s1 = jg_up s 157 a1.toNatClampNeg a2 → ∀ s2 : jg_H, s2 = jg_up s1 158 a1.toNatClampNeg a3 → a2 = 2 → ¬ a4 = (s2 153 (s2 146 13).toNatClampNeg) → ∀ s19 : jg_H, s19 = jg_up s2 161 a1.toNatClampNeg 0 → ¬ a2 < 1 → ¬ a2 ≤ 3 → ∀ s26 : jg_H, s26 = jg_up s19 159 a1.toNatClampNeg (-1) → a2 < 2 → a2 = 6 → ∀ s28 : jg_H, s28 = jg_up s26 160 a1.toNatClampNeg a5 → B none s28)
    (k49 : ∀ s1 : jg_H, s1 = jg_up s 157 a1.toNatClampNeg a2 → ∀ s2 : jg_H, s2 = jg_up s1 158 a1.toNatClampNeg a3 → a2 = 2 → ¬ a4 = (s2 153 (s2 146 13).toNatClampNeg) → ∀ s19 : jg_H, s19 = jg_up s2 161 a1.toNatClampNeg 0 → ¬ a2 < 1 → ¬ a2 ≤ 3 → ∀ s26 : jg_H, s26 = jg_up s19 159 a1.toNatClampNeg (-1) → ¬ a2 < 2 → ¬ a2 = 6 → jv_in a1 13 = true)
    (k50 : ∀ s1 : jg_H, s1 = jg_up s 157 a1.toNatClampNeg a2 → ∀ s2 : jg_H, s2 = jg_up s1 158 a1.toNatClampNeg a3 → a2 = 2 → ¬ a4 = (s2 153 (s2 146 13).toNatClampNeg) → ∀ s19 : jg_H, s19 = jg_up s2 161 a1.toNatClampNeg 0 → ¬ a2 < 1 → ¬ a2 ≤ 3 → ∀ s26 : jg_H, s26 = jg_up s19 159 a1.toNatClampNeg (-1) → ¬ a2 < 2 → ¬ a2 = 6 → ∀ s29 : jg_H, s29 = jg_up s26 160 a1.toNatClampNeg (-1) → B none s29)
    (k51 : ∀ s1 : jg_H, s1 = jg_up s 157 a1.toNatClampNeg a2 → ∀ s2 : jg_H, s2 = jg_up s1 158 a1.toNatClampNeg a3 → a2 = 2 → ¬ a4 = (s2 153 (s2 146 13).toNatClampNeg) → ∀ s19 : jg_H, s19 = jg_up s2 161 a1.toNatClampNeg 0 → ¬ a2 < 1 → ¬ a2 ≤ 3 → ∀ s26 : jg_H, s26 = jg_up s19 159 a1.toNatClampNeg (-1) → ¬ a2 < 2 → a2 = 6 → jv_in a1 13 = true)
    (k52 : ∀ s1 : jg_H, s1 = jg_up s 157 a1.toNatClampNeg a2 → ∀ s2 : jg_H, s2 = jg_up s1 158 a1.toNatClampNeg a3 → a2 = 2 → ¬ a4 = (s2 153 (s2 146 13).toNatClampNeg) → ∀ s19 : jg_H, s19 = jg_up s2 161 a1.toNatClampNeg 0 → ¬ a2 < 1 → ¬ a2 ≤ 3 → ∀ s26 : jg_H, s26 = jg_up s19 159 a1.toNatClampNeg (-1) → ¬ a2 < 2 → a2 = 6 → ∀ s30 : jg_H, s30 = jg_up s26 160 a1.toNatClampNeg a5 → B none s30)
    (k53 : ∀ s1 : jg_H, s1 = jg_up s 157 a1.toNatClampNeg a2 → ∀ s2 : jg_H, s2 = jg_up s1 158 a1.toNatClampNeg a3 → a2 = 2 → ¬ a4 = (s2 153 (s2 146 13).toNatClampNeg) → ∀ s19 : jg_H, s19 = jg_up s2 161 a1.toNatClampNeg 0 → ¬ a2 < 1 → a2 ≤ 3 → jv_in a1 13 = true)
    (k54 : ∀ s1 : jg_H, s1 = jg_up s 157 a1.toNatClampNeg a2 → ∀ s2 : jg_H, s2 = jg_up s1 158 a1.toNatClampNeg a3 → a2 = 2 → ¬ a4 = (s2 153 (s2 146 13).toNatClampNeg) → ∀ s19 : jg_H, s19 = jg_up s2 161 a1.toNatClampNeg 0 → ¬ a2 < 1 → a2 ≤ 3 → ∀ s31 : jg_H, s31 = jg_up s19 159 a1.toNatClampNeg a4 → a2 < 2 → ¬ a2 = 6 → jv_in a1 13 = true)
    (k55 : ∀ s1 : jg_H, s1 = jg_up s 157 a1.toNatClampNeg a2 → ∀ s2 : jg_H, s2 = jg_up s1 158 a1.toNatClampNeg a3 → a2 = 2 → ¬ a4 = (s2 153 (s2 146 13).toNatClampNeg) → ∀ s19 : jg_H, s19 = jg_up s2 161 a1.toNatClampNeg 0 → ¬ a2 < 1 → a2 ≤ 3 → ∀ s31 : jg_H, s31 = jg_up s19 159 a1.toNatClampNeg a4 → a2 < 2 → ¬ a2 = 6 → ∀ s32 : jg_H, s32 = jg_up s31 160 a1.toNatClampNeg (-1) → B none s32)
    (k56 : ∀ s1 : jg_H, s1 = jg_up s 157 a1.toNatClampNeg a2 → ∀ s2 : jg_H, s2 = jg_up s1 158 a1.toNatClampNeg a3 → a2 = 2 → ¬ a4 = (s2 153 (s2 146 13).toNatClampNeg) → ∀ s19 : jg_H, s19 = jg_up s2 161 a1.toNatClampNeg 0 → ¬ a2 < 1 → a2 ≤ 3 → ∀ s31 : jg_H, s31 = jg_up s19 159 a1.toNatClampNeg a4 → a2 < 2 → a2 = 6 → jv_in a1 13 = true)
    (k57 : ∀ s1 : jg_H, s1 = jg_up s 157 a1.toNatClampNeg a2 → ∀ s2 : jg_H, s2 = jg_up s1 158 a1.toNatClampNeg a3 → a2 = 2 → ¬ a4 = (s2 153 (s2 146 13).toNatClampNeg) → ∀ s19 : jg_H, s19 = jg_up s2 161 a1.toNatClampNeg 0 → ¬ a2 < 1 → a2 ≤ 3 → ∀ s31 : jg_H, s31 = jg_up s19 159 a1.toNatClampNeg a4 → a2 < 2 → a2 = 6 → ∀ s33 : jg_H, s33 = jg_up s31 160 a1.toNatClampNeg a5 → B none s33)
    (k58 : ∀ s1 : jg_H, s1 = jg_up s 157 a1.toNatClampNeg a2 → ∀ s2 : jg_H, s2 = jg_up s1 158 a1.toNatClampNeg a3 → a2 = 2 → ¬ a4 = (s2 153 (s2 146 13).toNatClampNeg) → ∀ s19 : jg_H, s19 = jg_up s2 161 a1.toNatClampNeg 0 → ¬ a2 < 1 → a2 ≤ 3 → ∀ s31 : jg_H, s31 = jg_up s19 159 a1.toNatClampNeg a4 → ¬ a2 < 2 → jv_in a1 13 = true)
    (k59 : ∀ s1 : jg_H, s1 = jg_up s 157 a1.toNatClampNeg a2 → ∀ s2 : jg_H, s2 = jg_up s1 158 a1.toNatClampNeg a3 → a2 = 2 → ¬ a4 = (s2 153 (s2 146 13).toNatClampNeg) → ∀ s19 : jg_H, s19 = jg_up s2 161 a1.toNatClampNeg 0 → ¬ a2 < 1 → a2 ≤ 3 → ∀ s31 : jg_H, s31 = jg_up s19 159 a1.toNatClampNeg a4 → ¬ a2 < 2 → ∀ s34 : jg_H, s34 = jg_up s31 160 a1.toNatClampNeg a5 → B none s34)
    (k60 : ∀ s1 : jg_H, s1 = jg_up s 157 a1.toNatClampNeg a2 → ∀ s2 : jg_H, s2 = jg_up s1 158 a1.toNatClampNeg a3 → a2 = 2 → a4 = (s2 153 (s2 146 13).toNatClampNeg) → jv_in a1 13 = true)
    (k61 : ∀ s1 : jg_H, s1 = jg_up s 157 a1.toNatClampNeg a2 → ∀ s2 : jg_H, s2 = jg_up s1 158 a1.toNatClampNeg a3 → a2 = 2 → a4 = (s2 153 (s2 146 13).toNatClampNeg) → ∀ s35 : jg_H, s35 = jg_up s2 161 a1.toNatClampNeg 1 → a2 < 1 → jv_in a1 13 = true)
    (k62 : ∀ s1 : jg_H, s1 = jg_up s 157 a1.toNatClampNeg a2 → ∀ s2 : jg_H, s2 = jg_up s1 158 a1.toNatClampNeg a3 → a2 = 2 → a4 = (s2 153 (s2 146 13).toNatClampNeg) → ∀ s35 : jg_H, s35 = jg_up s2 161 a1.toNatClampNeg 1 → a2 < 1 → ∀ s36 : jg_H, s36 = jg_up s35 159 a1.toNatClampNeg (-1) → a2 < 2 → ¬ a2 = 6 → jv_in a1 13 = true)
    (k63 : ∀ s1 : jg_H, s1 = jg_up s 157 a1.toNatClampNeg a2 → ∀ s2 : jg_H, s2 = jg_up s1 158 a1.toNatClampNeg a3 → a2 = 2 → a4 = (s2 153 (s2 146 13).toNatClampNeg) → ∀ s35 : jg_H, s35 = jg_up s2 161 a1.toNatClampNeg 1 → a2 < 1 → ∀ s36 : jg_H, s36 = jg_up s35 159 a1.toNatClampNeg (-1) → a2 < 2 → ¬ a2 = 6 → ∀ s37 : jg_H, s37 = jg_up s36 160 a1.toNatClampNeg (-1) → B none s37)
    (k64 : ∀ s1 : jg_H, s1 = jg_up s 157 a1.toNatClampNeg a2 → ∀ s2 : jg_H, s2 = jg_up s1 158 a1.toNatClampNeg a3 → a2 = 2 → a4 = (s2 153 (s2 146 13).toNatClampNeg) → ∀ s35 : jg_H, s35 = jg_up s2 161 a1.toNatClampNeg 1 → a2 < 1 → ∀ s36 : jg_H, s36 = jg_up s35 159 a1.toNatClampNeg (-1) → a2 < 2 → a2 = 6 → jv_in a1 13 = true)
    (k65 : ∀ s1 : jg_H, s1 = jg_up s 157 a1.toNatClampNeg a2 → ∀ s2 : jg_H, s2 = jg_up s1 158 a1.toNatClampNeg a3 → a2 = 2 → a4 = (s2 153 (s2 146 13).toNatClampNeg) → ∀ s35 : jg_H, s35 = jg_up s2 161 a1.toNatClampNeg 1 → a2 < 1 → ∀ s36 : jg_H, s36 = jg_up s35 159 a1.toNatClampNeg (-1) → a2 < 2 → a2 = 6 → ∀ s38 : jg_H, s38 = jg_up s36 160 a1.toNatClampNeg a5 → B none s38)
    (k66 : ∀ s1 : jg_H, s1 = jg_up s 157 a1.toNatClampNeg a2 → ∀ s2 : jg_H, s2 = jg_up s1 158 a1.toNatClampNeg a3 → a2 = 2 → a4 = (s2 153 (s2 146 13).toNatClampNeg) → ∀ s35 : jg_H, s35 = jg_up s2 161 a1.toNatClampNeg 1 → a2 < 1 → ∀ s36 : jg_H, s36 = jg_up s35 159 a1.toNatClampNeg (-1) → ¬ a2 < 2 → ¬ a2 ≤ 3 → ¬ a2 = 6 → jv_in a1 13 = true)
    (k67 : ∀ s1 : jg_H, s1 = jg_up s 157 a1.toNatClampNeg a2 → ∀ s2 : jg_H, s2 = jg_up s1 158 a1.toNatClampNeg a3 → a2 = 2 → a4 = (s2 153 (s2 146 13).toNatClampNeg) → ∀ s35 : jg_H, s35 = jg_up s2 161 a1.toNatClampNeg 1 → a2 < 1 → ∀ s36 : jg_H, s36 = jg_up s35 159 a1.toNatClampNeg (-1) → ¬ a2 < 2 → ¬ a2 ≤ 3 → ¬ a2 = 6 → ∀ s39 : jg_H, s39 = jg_up s36 160 a1.toNatClampNeg (-1) → B none s39)
    (k68 : ∀ s1 : jg_H, s1 = jg_up s 157 a1.toNatClampNeg a2 → ∀ s2 : jg_H, s2 = jg_up s1 158 a1.toNatClampNeg a3 → a2 = 2 → a4 = (s2 153 (s2 146 13).toNatClampNeg) → ∀ s35 : jg_H, s35 = jg_up s2 161 a1.toNatClampNeg 1 → a2 < 1 → ∀ s36 : jg_H, s36 = jg_up s35 159 a1.toNatClampNeg (-1) → ¬ a2 < 2 → ¬ a2 ≤ 3 → a2 = 6 → jv_in a1 13 = true)
    (k69 : ∀ s1 : jg_H, s1 = jg_up s 157 a1.toNatClampNeg a2 → ∀ s2 : jg_H, s2 = jg_up s1 158 a1.toNatClampNeg a3 → a2 = 2 → a4 = (s2 153 (s2 146 13).toNatClampNeg) → ∀ s35 : jg_H, s35 = jg_up s2 161 a1.toNatClampNeg 1 → a2 < 1 → ∀ s36 : jg_H, s36 = jg_up s35 159 a1.toNatClampNeg (-1) → ¬ a2 < 2 → ¬ a2 ≤ 3 → a2 = 6 → ∀ s40 : jg_H, s40 = jg_up s36 160 a1.toNatClampNeg a5 → B none s40)
    (k70 : ∀ s1 : jg_H, s1 = jg_up s 157 a1.toNatClampNeg a2 → ∀ s2 : jg_H, s2 = jg_up s1 158 a1.toNatClampNeg a3 → a2 = 2 → a4 = (s2 153 (s2 146 13).toNatClampNeg) → ∀ s35 : jg_H, s35 = jg_up s2 161 a1.toNatClampNeg 1 → a2 < 1 → ∀ s36 : jg_H, s36 = jg_up s35 159 a1.toNatClampNeg (-1) → ¬ a2 < 2 → a2 ≤ 3 → jv_in a1 13 = true)
    (k71 : ∀ s1 : jg_H, s1 = jg_up s 157 a1.toNatClampNeg a2 → ∀ s2 : jg_H, s2 = jg_up s1 158 a1.toNatClampNeg a3 → a2 = 2 → a4 = (s2 153 (s2 146 13).toNatClampNeg) → ∀ s35 : jg_H, s35 = jg_up s2 161 a1.toNatClampNeg 1 → a2 < 1 → ∀ s36 : jg_H, s36 = jg_up s35 159 a1.toNatClampNeg (-1) → ¬ a2 < 2 → a2 ≤ 3 → ∀ s41 : jg_H, s41 = jg_up s36 160 a1.toNatClampNeg a5 → B none s41)
    (k72 : ∀ s1 : jg_H, s1 = jg_up s 157 a1.toNatClampNeg a2 → ∀ s2 : jg_H, s2 = jg_up s1 158 a1.toNatClampNeg a3 → a2 = 2 → a4 = (s2 153 (s2 146 13).toNatClampNeg) → ∀ s35 : jg_H, s35 = jg_up s2 161 a1.toNatClampNeg 1 → ¬ a2 < 1 → ¬ a2 ≤ 3 → jv_in a1 13 = true)
    (k73 : ∀ s1 : jg_H, s1 = jg_up s 157 a1.toNatClampNeg a2 → ∀ s2 : jg_H, s2 = jg_up s1 158 a1.toNatClampNeg a3 → a2 = 2 → a4 = (s2 153 (s2 146 13).toNatClampNeg) → ∀ s35 : jg_H, s35 = jg_up s2 161 a1.toNatClampNeg 1 → ¬ a2 < 1 → ¬ a2 ≤ 3 → ∀ s42 : jg_H, s42 = jg_up s35 159 a1.toNatClampNeg (-1) → a2 < 2 → ¬ a2 = 6 → jv_in a1 13 = true)
    (k74 : ∀ s1 : jg_H, s1 = jg_up s 157 a1.toNatClampNeg a2 → ∀ s2 : jg_H, s2 = jg_up s1 158 a1.toNatClampNeg a3 → a2 = 2 → a4 = (s2 153 (s2 146 13).toNatClampNeg) → ∀ s35 : jg_H, s35 = jg_up s2 161 a1.toNatClampNeg 1 → ¬ a2 < 1 → ¬ a2 ≤ 3 → ∀ s42 : jg_H, s42 = jg_up s35 159 a1.toNatClampNeg (-1) → a2 < 2 → ¬ a2 = 6 → ∀ s43 : jg_H, s43 = jg_up s42 160 a1.toNatClampNeg (-1) → B none s43)
    (k75 : ∀ s1 : jg_H, s1 = jg_up s 157 a1.toNatClampNeg a2 → ∀ s2 : jg_H, s2 = jg_up s1 158 a1.toNatClampNeg a3 → a2 = 2 → a4 = (s2 153 (s2 146 13).toNatClampNeg) → ∀ s35 : jg_H, s35 = jg_up s2 161 a1.toNatClampNeg 1 → ¬ a2 < 1 → ¬ a2 ≤ 3 → ∀ s42 : jg_H, s42 = jg_up s35 159 a1.toNatClampNeg (-1) → a2 < 2 → a2 = 6 → jv_in a1 13 = true)
    (k76 : ∀ s1 : jg_H, s1 = jg_up s 157 a1.toNatClampNeg a2 → ∀ s2 : jg_H, s2 = jg_up s1 158 a1.toNatClampNeg a3 → a2 = 2 → a4 = (s2 153 (s2 146 13).toNatClampNeg) → ∀ s35 : jg_H, s35 = jg_up s2 161 a1.toNatClampNeg 1 → ¬ a2 < 1 → ¬ a2 ≤ 3 → ∀ s42 : jg_H, s42 = jg_up s35 159 a1.toNatClampNeg (-1) → a2 < 2 → a2 = 6 → ∀ s44 : jg_H, s44 = jg_up s42 160 a1.toNatClampNeg a5 → B none s44)
    (k77 : ∀ s1 : jg_H, s1 = jg_up s 157 a1.toNatClampNeg a2 → ∀ s2 : jg_H, s2 = jg_up s1 158 a1.toNatClampNeg a3 → a2 = 2 → a4 = (s2 153 (s2 146 13).toNatClampNeg) → ∀ s35 : jg_H, s35 = jg_up s2 161 a1.toNatClampNeg 1 → ¬ a2 < 1 → ¬ a2 ≤ 3 → ∀ s42 : jg_H, s42 = jg_up s35 159 a1.toNatClampNeg (-1) → ¬ a2 < 2 → ¬ a2 = 6 → jv_in a1 13 = true)
    (k78 : ∀ s1 : jg_H, s1 = jg_up s 157 a1.toNatClampNeg a2 → ∀ s2 : jg_H, s2 = jg_up s1 158 a1.toNatClampNeg a3 → a2 = 2 → a4 = (s2 153 (s2 146 13).toNatClampNeg) → ∀ s35 : jg_H, s35 = jg_up s2 161 a1.toNatClampNeg 1 → ¬ a2 < 1 → ¬ a2 ≤ 3 → ∀ s42 : jg_H, s42 = jg_up s35 159 a1.toNatClampNeg (-1) → ¬ a2 < 2 → ¬ a2 = 6 → ∀ s45 : jg_H, s45 = jg_up s42 160 a1.toNatClampNeg (-1) → B none s45)
    (k79 : ∀ s1 : jg_H, s1 = jg_up s 157 a1.toNatClampNeg a2 → ∀ s2 : jg_H, s2 = jg_up s1 158 a1.toNatClampNeg a3 → a2 = 2 → a4 = (s2 153 (s2 146 13).toNatClampNeg) → ∀ s35 : jg_H, s35 = jg_up s2 161 a1.toNatClampNeg 1 → ¬ a2 < 1 → ¬ a2 ≤ 3 → ∀ s42 : jg_H, s42 = jg_up s35 159 a1.toNatClampNeg (-1) → ¬ a2 < 2 → a2 = 6 → jv_in a1 13 = true)
    (k80 : ∀ s1 : jg_H, s1 = jg_up s 157 a1.toNatClampNeg a2 → ∀ s2 : jg_H, s2 = jg_up s1 158 a1.toNatClampNeg a3 → a2 = 2 → a4 = (s2 153 (s2 146 13).toNatClampNeg) → ∀ s35 : jg_H, s35 = jg_up s2 161 a1.toNatClampNeg 1 → ¬ a2 < 1 → ¬ a2 ≤ 3 → ∀ s42 : jg_H, s42 = jg_up s35 159 a1.toNatClampNeg (-1) → ¬ a2 < 2 → a2 = 6 → ∀ s46 : jg_H, s46 = jg_up s42 160 a1.toNatClampNeg a5 → B none s46)
    (k81 : ∀ s1 : jg_H, s1 = jg_up s 157 a1.toNatClampNeg a2 → ∀ s2 : jg_H, s2 = jg_up s1 158 a1.toNatClampNeg a3 → a2 = 2 → a4 = (s2 153 (s2 146 13).toNatClampNeg) → ∀ s35 : jg_H, s35 = jg_up s2 161 a1.toNatClampNeg 1 → ¬ a2 < 1 → a2 ≤ 3 → jv_in a1 13 = true)
    (k82 : ∀ s1 : jg_H, s1 = jg_up s 157 a1.toNatClampNeg a2 → ∀ s2 : jg_H, s2 = jg_up s1 158 a1.toNatClampNeg a3 → a2 = 2 → a4 = (s2 153 (s2 146 13).toNatClampNeg) → ∀ s35 : jg_H, s35 = jg_up s2 161 a1.toNatClampNeg 1 → ¬ a2 < 1 → a2 ≤ 3 → ∀ s47 : jg_H, s47 = jg_up s35 159 a1.toNatClampNeg a4 → a2 < 2 → ¬ a2 = 6 → jv_in a1 13 = true)
    (k83 : ∀ s1 : jg_H, s1 = jg_up s 157 a1.toNatClampNeg a2 → ∀ s2 : jg_H, s2 = jg_up s1 158 a1.toNatClampNeg a3 → a2 = 2 → a4 = (s2 153 (s2 146 13).toNatClampNeg) → ∀ s35 : jg_H, s35 = jg_up s2 161 a1.toNatClampNeg 1 → ¬ a2 < 1 → a2 ≤ 3 → ∀ s47 : jg_H, s47 = jg_up s35 159 a1.toNatClampNeg a4 → a2 < 2 → ¬ a2 = 6 → ∀ s48 : jg_H, s48 = jg_up s47 160 a1.toNatClampNeg (-1) → B none s48)
    (k84 : ∀ s1 : jg_H, s1 = jg_up s 157 a1.toNatClampNeg a2 → ∀ s2 : jg_H, s2 = jg_up s1 158 a1.toNatClampNeg a3 → a2 = 2 → a4 = (s2 153 (s2 146 13).toNatClampNeg) → ∀ s35 : jg_H, s35 = jg_up s2 161 a1.toNatClampNeg 1 → ¬ a2 < 1 → a2 ≤ 3 → ∀ s47 : jg_H, s47 = jg_up s35 159 a1.toNatClampNeg a4 → a2 < 2 → a2 = 6 → jv_in a1 13 = true)
    (k85 : ∀ s1 : jg_H, s1 = jg_up s 157 a1.toNatClampNeg a2 → ∀ s2 : jg_H, s2 = jg_up s1 158 a1.toNatClampNeg a3 → a2 = 2 → a4 = (s2 153 (s2 146 13).toNatClampNeg) → ∀ s35 : jg_H, s35 = jg_up s2 161 a1.toNatClampNeg 1 → ¬ a2 < 1 → a2 ≤ 3 → ∀ s47 : jg_H, s47 = jg_up s35 159 a1.toNatClampNeg a4 → a2 < 2 → a2 = 6 → ∀ s49 : jg_H, s49 = jg_up s47 160 a1.toNatClampNeg a5 → B none s49)
    (k86 : ∀ s1 : jg_H, s1 = jg_up s 157 a1.toNatClampNeg a2 → ∀ s2 : jg_H, s2 = jg_up s1 158 a1.toNatClampNeg a3 → a2 = 2 → a4 = (s2 153 (s2 146 13).toNatClampNeg) → ∀ s35 : jg_H, s35 = jg_up s2 161 a1.toNatClampNeg 1 → ¬ a2 < 1 → a2 ≤ 3 → ∀ s47 : jg_H, s47 = jg_up s35 159 a1.toNatClampNeg a4 → ¬ a2 < 2 → jv_in a1 13 = true)
    (k87 : ∀ s1 : jg_H, s1 = jg_up s 157 a1.toNatClampNeg a2 → ∀ s2 : jg_H, s2 = jg_up s1 158 a1.toNatClampNeg a3 → a2 = 2 → a4 = (s2 153 (s2 146 13).toNatClampNeg) → ∀ s35 : jg_H, s35 = jg_up s2 161 a1.toNatClampNeg 1 → ¬ a2 < 1 → a2 ≤ 3 → ∀ s47 : jg_H, s47 = jg_up s35 159 a1.toNatClampNeg a4 → ¬ a2 < 2 → ∀ s50 : jg_H, s50 = jg_up s47 160 a1.toNatClampNeg a5 → B none s50) :
    q_P G (d + 2) 188 [.ref 146, .int a1, .int a2, .int a3, .int a4, .int a5] s B := by
  refine q_in (M := jm_M_sets) rfl (Nat.le_of_ble_eq_true rfl) (ls := [some (.ref 146), some (.int a1), some (.int a2), some (.int a3), some (.int a4), some (.int a5)]) rfl ?_
  refine q_aload_n (pc' := 1) ja_M_sets_0 rfl rfl ?_
  refine q_getf (pc' := 4) (v := .ref 157) ja_M_sets_1 rfl (by decide) ⟨rfl, by decide⟩ rfl ?_
  refine q_iload_n (pc' := 5) ja_M_sets_4 rfl rfl ?_
  refine q_iload_n (pc' := 6) ja_M_sets_5 rfl rfl ?_
  refine q_iast (pc' := 7) ja_M_sets_6 rfl (by decide) (l := 13) rfl k1 ?_
  intro s1 e1
  refine q_aload_n (pc' := 8) ja_M_sets_7 rfl rfl ?_
  refine q_getf (pc' := 11) (v := .ref 158) ja_M_sets_8 rfl (by decide) ⟨rfl, by decide⟩ rfl ?_
  refine q_iload_n (pc' := 12) ja_M_sets_11 rfl rfl ?_
  refine q_iload_n (pc' := 13) ja_M_sets_12 rfl rfl ?_
  refine q_iast (pc' := 14) ja_M_sets_13 rfl (by decide) (l := 13) rfl (k2 s1 e1) ?_
  intro s2 e2
  refine q_aload_n (pc' := 15) ja_M_sets_14 rfl rfl ?_
  refine q_getf (pc' := 18) (v := .ref 161) ja_M_sets_15 rfl (by decide) ⟨rfl, by decide⟩ rfl ?_
  refine q_iload_n (pc' := 19) ja_M_sets_18 rfl rfl ?_
  refine q_iload_n (pc' := 20) ja_M_sets_19 rfl rfl ?_
  refine q_iconst (pc' := 21) ja_M_sets_20 rfl 2 (by decide) ?_
  refine q_ic_ne (pc' := 24) ja_M_sets_21 rfl ?_ ?_
  · intro h1
    refine q_iconst (pc' := 43) ja_M_sets_42 rfl 0 (by decide) ?_
    refine q_bast (pc' := 44) ja_M_sets_43 rfl (by decide) (l := 13) rfl (k3 s1 e1 s2 e2 h1) (by decide) ?_
    intro s3 e3
    refine q_aload_n (pc' := 45) ja_M_sets_44 rfl rfl ?_
    refine q_getf (pc' := 48) (v := .ref 159) ja_M_sets_45 rfl (by decide) ⟨rfl, by decide⟩ rfl ?_
    refine q_iload_n (pc' := 49) ja_M_sets_48 rfl rfl ?_
    refine q_iload_n (pc' := 50) ja_M_sets_49 rfl rfl ?_
    refine q_iconst (pc' := 51) ja_M_sets_50 rfl 1 (by decide) ?_
    refine q_iconst (pc' := 52) ja_M_sets_51 rfl 3 (by decide) ?_
    refine q_stat (pc' := 55) (as := [.int a2, .int 1, .int 3]) (r := [.int a1, .ref 159]) ja_M_sets_52 rfl (by decide) rfl rfl ?_
    refine q_in (M := jm_M_in) rfl (Nat.le_of_ble_eq_true rfl) (ls := [some (.int a2), some (.int 1), some (.int 3)]) rfl ?_
    refine q_iload_n (pc' := 1) ja_M_in_0 rfl rfl ?_
    refine q_iload_n (pc' := 2) ja_M_in_1 rfl rfl ?_
    refine q_ic_lt (pc' := 5) ja_M_in_2 rfl ?_ ?_
    · intro h2
      refine q_iconst (pc' := 15) ja_M_in_14 rfl 0 (by decide) ?_
      refine q_iret ja_M_in_15 rfl (by decide) ?_
      show q_W _ _ _ _ 55 [some (.ref 146), some (.int a1), some (.int a2), some (.int a3), some (.int a4), some (.int a5)] [.int 0, .int a1, .ref 159] s3
      refine q_if_eq (pc' := 58) ja_M_sets_55 rfl (fun _ => ?_) (fun h => absurd ((by decide : (0 : Int32) = 0)) h)
      refine q_iconst (pc' := 64) ja_M_sets_63 rfl (-1) (by decide) ?_
      refine q_iast (pc' := 65) ja_M_sets_64 rfl (by decide) (l := 13) rfl (k4 s1 e1 s2 e2 h1 s3 e3 h2) ?_
      intro s4 e4
      refine q_aload_n (pc' := 66) ja_M_sets_65 rfl rfl ?_
      refine q_getf (pc' := 69) (v := .ref 160) ja_M_sets_66 rfl (by decide) ⟨rfl, by decide⟩ rfl ?_
      refine q_iload_n (pc' := 70) ja_M_sets_69 rfl rfl ?_
      refine q_iload_n (pc' := 71) ja_M_sets_70 rfl rfl ?_
      refine q_iconst (pc' := 72) ja_M_sets_71 rfl 2 (by decide) ?_
      refine q_iconst (pc' := 73) ja_M_sets_72 rfl 3 (by decide) ?_
      refine q_stat (pc' := 76) (as := [.int a2, .int 2, .int 3]) (r := [.int a1, .ref 160]) ja_M_sets_73 rfl (by decide) rfl rfl ?_
      refine q_in (M := jm_M_in) rfl (Nat.le_of_ble_eq_true rfl) (ls := [some (.int a2), some (.int 2), some (.int 3)]) rfl ?_
      refine q_iload_n (pc' := 1) ja_M_in_0 rfl rfl ?_
      refine q_iload_n (pc' := 2) ja_M_in_1 rfl rfl ?_
      refine q_ic_lt (pc' := 5) ja_M_in_2 rfl ?_ ?_
      · intro h3
        refine q_iconst (pc' := 15) ja_M_in_14 rfl 0 (by decide) ?_
        refine q_iret ja_M_in_15 rfl (by decide) ?_
        show q_W _ _ _ _ 76 [some (.ref 146), some (.int a1), some (.int a2), some (.int a3), some (.int a4), some (.int a5)] [.int 0, .int a1, .ref 160] s4
        refine q_if_ne (pc' := 79) ja_M_sets_76 rfl (fun h => absurd ((by decide : (0 : Int32) = 0)) h) (fun _ => ?_)
        refine q_iload_n (pc' := 80) ja_M_sets_79 rfl rfl ?_
        refine q_bipush (pc' := 82) ja_M_sets_80 rfl 6 (by decide) ?_
        refine q_ic_ne (pc' := 85) ja_M_sets_82 rfl ?_ ?_
        · intro h4
          refine q_iconst (pc' := 91) ja_M_sets_90 rfl (-1) (by decide) ?_
          refine q_iast (pc' := 92) ja_M_sets_91 rfl (by decide) (l := 13) rfl (k5 s1 e1 s2 e2 h1 s3 e3 h2 s4 e4 h3 h4) ?_
          intro s5 e5
          exact q_vret ja_M_sets_92 rfl (k6 s1 e1 s2 e2 h1 s3 e3 h2 s4 e4 h3 h4 s5 e5)
        · intro h5
          refine q_iload (pc' := 87) ja_M_sets_85 rfl rfl ?_
          refine q_goto ja_M_sets_87 ?_
          refine q_iast (pc' := 92) ja_M_sets_91 rfl (by decide) (l := 13) rfl (k7 s1 e1 s2 e2 h1 s3 e3 h2 s4 e4 h3 h5) ?_
          intro s6 e6
          exact q_vret ja_M_sets_92 rfl (k8 s1 e1 s2 e2 h1 s3 e3 h2 s4 e4 h3 h5 s6 e6)
      · intro h6
        refine q_iload_n (pc' := 6) ja_M_in_5 rfl rfl ?_
        refine q_iload_n (pc' := 7) ja_M_in_6 rfl rfl ?_
        refine q_ic_gt (pc' := 10) ja_M_in_7 rfl ?_ ?_
        · intro h7
          refine q_iconst (pc' := 15) ja_M_in_14 rfl 0 (by decide) ?_
          refine q_iret ja_M_in_15 rfl (by decide) ?_
          show q_W _ _ _ _ 76 [some (.ref 146), some (.int a1), some (.int a2), some (.int a3), some (.int a4), some (.int a5)] [.int 0, .int a1, .ref 160] s4
          refine q_if_ne (pc' := 79) ja_M_sets_76 rfl (fun h => absurd ((by decide : (0 : Int32) = 0)) h) (fun _ => ?_)
          refine q_iload_n (pc' := 80) ja_M_sets_79 rfl rfl ?_
          refine q_bipush (pc' := 82) ja_M_sets_80 rfl 6 (by decide) ?_
          refine q_ic_ne (pc' := 85) ja_M_sets_82 rfl ?_ ?_
          · intro h8
            refine q_iconst (pc' := 91) ja_M_sets_90 rfl (-1) (by decide) ?_
            refine q_iast (pc' := 92) ja_M_sets_91 rfl (by decide) (l := 13) rfl (k9 s1 e1 s2 e2 h1 s3 e3 h2 s4 e4 h6 h7 h8) ?_
            intro s7 e7
            exact q_vret ja_M_sets_92 rfl (k10 s1 e1 s2 e2 h1 s3 e3 h2 s4 e4 h6 h7 h8 s7 e7)
          · intro h9
            refine q_iload (pc' := 87) ja_M_sets_85 rfl rfl ?_
            refine q_goto ja_M_sets_87 ?_
            refine q_iast (pc' := 92) ja_M_sets_91 rfl (by decide) (l := 13) rfl (k11 s1 e1 s2 e2 h1 s3 e3 h2 s4 e4 h6 h7 h9) ?_
            intro s8 e8
            exact q_vret ja_M_sets_92 rfl (k12 s1 e1 s2 e2 h1 s3 e3 h2 s4 e4 h6 h7 h9 s8 e8)
        · intro h10
          refine q_iconst (pc' := 11) ja_M_in_10 rfl 1 (by decide) ?_
          refine q_goto ja_M_in_11 ?_
          refine q_iret ja_M_in_15 rfl (by decide) ?_
          show q_W _ _ _ _ 76 [some (.ref 146), some (.int a1), some (.int a2), some (.int a3), some (.int a4), some (.int a5)] [.int 1, .int a1, .ref 160] s4
          refine q_if_ne (pc' := 79) ja_M_sets_76 rfl (fun _ => ?_) (fun h => absurd h ((by decide : ¬ (1 : Int32) = 0)))
          refine q_iload (pc' := 87) ja_M_sets_85 rfl rfl ?_
          refine q_goto ja_M_sets_87 ?_
          refine q_iast (pc' := 92) ja_M_sets_91 rfl (by decide) (l := 13) rfl (k13 s1 e1 s2 e2 h1 s3 e3 h2 s4 e4 h6 h10) ?_
          intro s9 e9
          exact q_vret ja_M_sets_92 rfl (k14 s1 e1 s2 e2 h1 s3 e3 h2 s4 e4 h6 h10 s9 e9)
    · intro h11
      refine q_iload_n (pc' := 6) ja_M_in_5 rfl rfl ?_
      refine q_iload_n (pc' := 7) ja_M_in_6 rfl rfl ?_
      refine q_ic_gt (pc' := 10) ja_M_in_7 rfl ?_ ?_
      · intro h12
        refine q_iconst (pc' := 15) ja_M_in_14 rfl 0 (by decide) ?_
        refine q_iret ja_M_in_15 rfl (by decide) ?_
        show q_W _ _ _ _ 55 [some (.ref 146), some (.int a1), some (.int a2), some (.int a3), some (.int a4), some (.int a5)] [.int 0, .int a1, .ref 159] s3
        refine q_if_eq (pc' := 58) ja_M_sets_55 rfl (fun _ => ?_) (fun h => absurd ((by decide : (0 : Int32) = 0)) h)
        refine q_iconst (pc' := 64) ja_M_sets_63 rfl (-1) (by decide) ?_
        refine q_iast (pc' := 65) ja_M_sets_64 rfl (by decide) (l := 13) rfl (k15 s1 e1 s2 e2 h1 s3 e3 h11 h12) ?_
        intro s10 e10
        refine q_aload_n (pc' := 66) ja_M_sets_65 rfl rfl ?_
        refine q_getf (pc' := 69) (v := .ref 160) ja_M_sets_66 rfl (by decide) ⟨rfl, by decide⟩ rfl ?_
        refine q_iload_n (pc' := 70) ja_M_sets_69 rfl rfl ?_
        refine q_iload_n (pc' := 71) ja_M_sets_70 rfl rfl ?_
        refine q_iconst (pc' := 72) ja_M_sets_71 rfl 2 (by decide) ?_
        refine q_iconst (pc' := 73) ja_M_sets_72 rfl 3 (by decide) ?_
        refine q_stat (pc' := 76) (as := [.int a2, .int 2, .int 3]) (r := [.int a1, .ref 160]) ja_M_sets_73 rfl (by decide) rfl rfl ?_
        refine q_in (M := jm_M_in) rfl (Nat.le_of_ble_eq_true rfl) (ls := [some (.int a2), some (.int 2), some (.int 3)]) rfl ?_
        refine q_iload_n (pc' := 1) ja_M_in_0 rfl rfl ?_
        refine q_iload_n (pc' := 2) ja_M_in_1 rfl rfl ?_
        refine q_ic_lt (pc' := 5) ja_M_in_2 rfl ?_ ?_
        · intro h13
          refine q_iconst (pc' := 15) ja_M_in_14 rfl 0 (by decide) ?_
          refine q_iret ja_M_in_15 rfl (by decide) ?_
          show q_W _ _ _ _ 76 [some (.ref 146), some (.int a1), some (.int a2), some (.int a3), some (.int a4), some (.int a5)] [.int 0, .int a1, .ref 160] s10
          refine q_if_ne (pc' := 79) ja_M_sets_76 rfl (fun h => absurd ((by decide : (0 : Int32) = 0)) h) (fun _ => ?_)
          refine q_iload_n (pc' := 80) ja_M_sets_79 rfl rfl ?_
          refine q_bipush (pc' := 82) ja_M_sets_80 rfl 6 (by decide) ?_
          refine q_ic_ne (pc' := 85) ja_M_sets_82 rfl ?_ ?_
          · intro h14
            refine q_iconst (pc' := 91) ja_M_sets_90 rfl (-1) (by decide) ?_
            refine q_iast (pc' := 92) ja_M_sets_91 rfl (by decide) (l := 13) rfl (k16 s1 e1 s2 e2 h1 s3 e3 h11 h12 s10 e10 h13 h14) ?_
            intro s11 e11
            exact q_vret ja_M_sets_92 rfl (k17 s1 e1 s2 e2 h1 s3 e3 h11 h12 s10 e10 h13 h14 s11 e11)
          · intro h15
            refine q_iload (pc' := 87) ja_M_sets_85 rfl rfl ?_
            refine q_goto ja_M_sets_87 ?_
            refine q_iast (pc' := 92) ja_M_sets_91 rfl (by decide) (l := 13) rfl (k18 s1 e1 s2 e2 h1 s3 e3 h11 h12 s10 e10 h13 h15) ?_
            intro s12 e12
            exact q_vret ja_M_sets_92 rfl (k19 s1 e1 s2 e2 h1 s3 e3 h11 h12 s10 e10 h13 h15 s12 e12)
        · intro h16
          refine q_iload_n (pc' := 6) ja_M_in_5 rfl rfl ?_
          refine q_iload_n (pc' := 7) ja_M_in_6 rfl rfl ?_
          refine q_ic_gt (pc' := 10) ja_M_in_7 rfl (fun _ => ?_) (fun h => absurd h (h12))
          refine q_iconst (pc' := 15) ja_M_in_14 rfl 0 (by decide) ?_
          refine q_iret ja_M_in_15 rfl (by decide) ?_
          show q_W _ _ _ _ 76 [some (.ref 146), some (.int a1), some (.int a2), some (.int a3), some (.int a4), some (.int a5)] [.int 0, .int a1, .ref 160] s10
          refine q_if_ne (pc' := 79) ja_M_sets_76 rfl (fun h => absurd ((by decide : (0 : Int32) = 0)) h) (fun _ => ?_)
          refine q_iload_n (pc' := 80) ja_M_sets_79 rfl rfl ?_
          refine q_bipush (pc' := 82) ja_M_sets_80 rfl 6 (by decide) ?_
          refine q_ic_ne (pc' := 85) ja_M_sets_82 rfl ?_ ?_
          · intro h17
            refine q_iconst (pc' := 91) ja_M_sets_90 rfl (-1) (by decide) ?_
            refine q_iast (pc' := 92) ja_M_sets_91 rfl (by decide) (l := 13) rfl (k20 s1 e1 s2 e2 h1 s3 e3 h11 h12 s10 e10 h16 h17) ?_
            intro s13 e13
            exact q_vret ja_M_sets_92 rfl (k21 s1 e1 s2 e2 h1 s3 e3 h11 h12 s10 e10 h16 h17 s13 e13)
          · intro h18
            refine q_iload (pc' := 87) ja_M_sets_85 rfl rfl ?_
            refine q_goto ja_M_sets_87 ?_
            refine q_iast (pc' := 92) ja_M_sets_91 rfl (by decide) (l := 13) rfl (k22 s1 e1 s2 e2 h1 s3 e3 h11 h12 s10 e10 h16 h18) ?_
            intro s14 e14
            exact q_vret ja_M_sets_92 rfl (k23 s1 e1 s2 e2 h1 s3 e3 h11 h12 s10 e10 h16 h18 s14 e14)
      · intro h19
        refine q_iconst (pc' := 11) ja_M_in_10 rfl 1 (by decide) ?_
        refine q_goto ja_M_in_11 ?_
        refine q_iret ja_M_in_15 rfl (by decide) ?_
        show q_W _ _ _ _ 55 [some (.ref 146), some (.int a1), some (.int a2), some (.int a3), some (.int a4), some (.int a5)] [.int 1, .int a1, .ref 159] s3
        refine q_if_eq (pc' := 58) ja_M_sets_55 rfl (fun h => absurd h ((by decide : ¬ (1 : Int32) = 0))) (fun _ => ?_)
        refine q_iload (pc' := 60) ja_M_sets_58 rfl rfl ?_
        refine q_goto ja_M_sets_60 ?_
        refine q_iast (pc' := 65) ja_M_sets_64 rfl (by decide) (l := 13) rfl (k24 s1 e1 s2 e2 h1 s3 e3 h11 h19) ?_
        intro s15 e15
        refine q_aload_n (pc' := 66) ja_M_sets_65 rfl rfl ?_
        refine q_getf (pc' := 69) (v := .ref 160) ja_M_sets_66 rfl (by decide) ⟨rfl, by decide⟩ rfl ?_
        refine q_iload_n (pc' := 70) ja_M_sets_69 rfl rfl ?_
        refine q_iload_n (pc' := 71) ja_M_sets_70 rfl rfl ?_
        refine q_iconst (pc' := 72) ja_M_sets_71 rfl 2 (by decide) ?_
        refine q_iconst (pc' := 73) ja_M_sets_72 rfl 3 (by decide) ?_
        refine q_stat (pc' := 76) (as := [.int a2, .int 2, .int 3]) (r := [.int a1, .ref 160]) ja_M_sets_73 rfl (by decide) rfl rfl ?_
        refine q_in (M := jm_M_in) rfl (Nat.le_of_ble_eq_true rfl) (ls := [some (.int a2), some (.int 2), some (.int 3)]) rfl ?_
        refine q_iload_n (pc' := 1) ja_M_in_0 rfl rfl ?_
        refine q_iload_n (pc' := 2) ja_M_in_1 rfl rfl ?_
        refine q_ic_lt (pc' := 5) ja_M_in_2 rfl ?_ ?_
        · intro h20
          refine q_iconst (pc' := 15) ja_M_in_14 rfl 0 (by decide) ?_
          refine q_iret ja_M_in_15 rfl (by decide) ?_
          show q_W _ _ _ _ 76 [some (.ref 146), some (.int a1), some (.int a2), some (.int a3), some (.int a4), some (.int a5)] [.int 0, .int a1, .ref 160] s15
          refine q_if_ne (pc' := 79) ja_M_sets_76 rfl (fun h => absurd ((by decide : (0 : Int32) = 0)) h) (fun _ => ?_)
          refine q_iload_n (pc' := 80) ja_M_sets_79 rfl rfl ?_
          refine q_bipush (pc' := 82) ja_M_sets_80 rfl 6 (by decide) ?_
          refine q_ic_ne (pc' := 85) ja_M_sets_82 rfl ?_ ?_
          · intro h21
            refine q_iconst (pc' := 91) ja_M_sets_90 rfl (-1) (by decide) ?_
            refine q_iast (pc' := 92) ja_M_sets_91 rfl (by decide) (l := 13) rfl (k25 s1 e1 s2 e2 h1 s3 e3 h11 h19 s15 e15 h20 h21) ?_
            intro s16 e16
            exact q_vret ja_M_sets_92 rfl (k26 s1 e1 s2 e2 h1 s3 e3 h11 h19 s15 e15 h20 h21 s16 e16)
          · intro h22
            refine q_iload (pc' := 87) ja_M_sets_85 rfl rfl ?_
            refine q_goto ja_M_sets_87 ?_
            refine q_iast (pc' := 92) ja_M_sets_91 rfl (by decide) (l := 13) rfl (k27 s1 e1 s2 e2 h1 s3 e3 h11 h19 s15 e15 h20 h22) ?_
            intro s17 e17
            exact q_vret ja_M_sets_92 rfl (k28 s1 e1 s2 e2 h1 s3 e3 h11 h19 s15 e15 h20 h22 s17 e17)
        · intro h23
          refine q_iload_n (pc' := 6) ja_M_in_5 rfl rfl ?_
          refine q_iload_n (pc' := 7) ja_M_in_6 rfl rfl ?_
          refine q_ic_gt (pc' := 10) ja_M_in_7 rfl (fun h => absurd (h19) h) (fun _ => ?_)
          refine q_iconst (pc' := 11) ja_M_in_10 rfl 1 (by decide) ?_
          refine q_goto ja_M_in_11 ?_
          refine q_iret ja_M_in_15 rfl (by decide) ?_
          show q_W _ _ _ _ 76 [some (.ref 146), some (.int a1), some (.int a2), some (.int a3), some (.int a4), some (.int a5)] [.int 1, .int a1, .ref 160] s15
          refine q_if_ne (pc' := 79) ja_M_sets_76 rfl (fun _ => ?_) (fun h => absurd h ((by decide : ¬ (1 : Int32) = 0)))
          refine q_iload (pc' := 87) ja_M_sets_85 rfl rfl ?_
          refine q_goto ja_M_sets_87 ?_
          refine q_iast (pc' := 92) ja_M_sets_91 rfl (by decide) (l := 13) rfl (k29 s1 e1 s2 e2 h1 s3 e3 h11 h19 s15 e15 h23) ?_
          intro s18 e18
          exact q_vret ja_M_sets_92 rfl (k30 s1 e1 s2 e2 h1 s3 e3 h11 h19 s15 e15 h23 s18 e18)
  · intro h24
    refine q_iload (pc' := 26) ja_M_sets_24 rfl rfl ?_
    refine q_aload_n (pc' := 27) ja_M_sets_26 rfl rfl ?_
    refine q_getf (pc' := 30) (v := .ref 153) ja_M_sets_27 rfl (by decide) ⟨rfl, by decide⟩ rfl ?_
    refine q_aload_n (pc' := 31) ja_M_sets_30 rfl rfl ?_
    refine q_getf (pc' := 34) (v := .int (s2 146 13)) ja_M_sets_31 rfl (by decide) ⟨rfl, by decide⟩ rfl ?_
    refine q_iald (pc' := 35) (v := .int (s2 153 (s2 146 13).toNatClampNeg)) ja_M_sets_34 rfl (by decide) (l := 8) rfl (k31 s1 e1 s2 e2 h24) rfl ?_
    refine q_ic_ne (pc' := 38) ja_M_sets_35 rfl ?_ ?_
    · intro h25
      refine q_iconst (pc' := 43) ja_M_sets_42 rfl 0 (by decide) ?_
      refine q_bast (pc' := 44) ja_M_sets_43 rfl (by decide) (l := 13) rfl (k32 s1 e1 s2 e2 h24 h25) (by decide) ?_
      intro s19 e19
      refine q_aload_n (pc' := 45) ja_M_sets_44 rfl rfl ?_
      refine q_getf (pc' := 48) (v := .ref 159) ja_M_sets_45 rfl (by decide) ⟨rfl, by decide⟩ rfl ?_
      refine q_iload_n (pc' := 49) ja_M_sets_48 rfl rfl ?_
      refine q_iload_n (pc' := 50) ja_M_sets_49 rfl rfl ?_
      refine q_iconst (pc' := 51) ja_M_sets_50 rfl 1 (by decide) ?_
      refine q_iconst (pc' := 52) ja_M_sets_51 rfl 3 (by decide) ?_
      refine q_stat (pc' := 55) (as := [.int a2, .int 1, .int 3]) (r := [.int a1, .ref 159]) ja_M_sets_52 rfl (by decide) rfl rfl ?_
      refine q_in (M := jm_M_in) rfl (Nat.le_of_ble_eq_true rfl) (ls := [some (.int a2), some (.int 1), some (.int 3)]) rfl ?_
      refine q_iload_n (pc' := 1) ja_M_in_0 rfl rfl ?_
      refine q_iload_n (pc' := 2) ja_M_in_1 rfl rfl ?_
      refine q_ic_lt (pc' := 5) ja_M_in_2 rfl ?_ ?_
      · intro h26
        refine q_iconst (pc' := 15) ja_M_in_14 rfl 0 (by decide) ?_
        refine q_iret ja_M_in_15 rfl (by decide) ?_
        show q_W _ _ _ _ 55 [some (.ref 146), some (.int a1), some (.int a2), some (.int a3), some (.int a4), some (.int a5)] [.int 0, .int a1, .ref 159] s19
        refine q_if_eq (pc' := 58) ja_M_sets_55 rfl (fun _ => ?_) (fun h => absurd ((by decide : (0 : Int32) = 0)) h)
        refine q_iconst (pc' := 64) ja_M_sets_63 rfl (-1) (by decide) ?_
        refine q_iast (pc' := 65) ja_M_sets_64 rfl (by decide) (l := 13) rfl (k33 s1 e1 s2 e2 h24 h25 s19 e19 h26) ?_
        intro s20 e20
        refine q_aload_n (pc' := 66) ja_M_sets_65 rfl rfl ?_
        refine q_getf (pc' := 69) (v := .ref 160) ja_M_sets_66 rfl (by decide) ⟨rfl, by decide⟩ rfl ?_
        refine q_iload_n (pc' := 70) ja_M_sets_69 rfl rfl ?_
        refine q_iload_n (pc' := 71) ja_M_sets_70 rfl rfl ?_
        refine q_iconst (pc' := 72) ja_M_sets_71 rfl 2 (by decide) ?_
        refine q_iconst (pc' := 73) ja_M_sets_72 rfl 3 (by decide) ?_
        refine q_stat (pc' := 76) (as := [.int a2, .int 2, .int 3]) (r := [.int a1, .ref 160]) ja_M_sets_73 rfl (by decide) rfl rfl ?_
        refine q_in (M := jm_M_in) rfl (Nat.le_of_ble_eq_true rfl) (ls := [some (.int a2), some (.int 2), some (.int 3)]) rfl ?_
        refine q_iload_n (pc' := 1) ja_M_in_0 rfl rfl ?_
        refine q_iload_n (pc' := 2) ja_M_in_1 rfl rfl ?_
        refine q_ic_lt (pc' := 5) ja_M_in_2 rfl ?_ ?_
        · intro h27
          refine q_iconst (pc' := 15) ja_M_in_14 rfl 0 (by decide) ?_
          refine q_iret ja_M_in_15 rfl (by decide) ?_
          show q_W _ _ _ _ 76 [some (.ref 146), some (.int a1), some (.int a2), some (.int a3), some (.int a4), some (.int a5)] [.int 0, .int a1, .ref 160] s20
          refine q_if_ne (pc' := 79) ja_M_sets_76 rfl (fun h => absurd ((by decide : (0 : Int32) = 0)) h) (fun _ => ?_)
          refine q_iload_n (pc' := 80) ja_M_sets_79 rfl rfl ?_
          refine q_bipush (pc' := 82) ja_M_sets_80 rfl 6 (by decide) ?_
          refine q_ic_ne (pc' := 85) ja_M_sets_82 rfl ?_ ?_
          · intro h28
            refine q_iconst (pc' := 91) ja_M_sets_90 rfl (-1) (by decide) ?_
            refine q_iast (pc' := 92) ja_M_sets_91 rfl (by decide) (l := 13) rfl (k34 s1 e1 s2 e2 h24 h25 s19 e19 h26 s20 e20 h27 h28) ?_
            intro s21 e21
            exact q_vret ja_M_sets_92 rfl (k35 s1 e1 s2 e2 h24 h25 s19 e19 h26 s20 e20 h27 h28 s21 e21)
          · intro h29
            refine q_iload (pc' := 87) ja_M_sets_85 rfl rfl ?_
            refine q_goto ja_M_sets_87 ?_
            refine q_iast (pc' := 92) ja_M_sets_91 rfl (by decide) (l := 13) rfl (k36 s1 e1 s2 e2 h24 h25 s19 e19 h26 s20 e20 h27 h29) ?_
            intro s22 e22
            exact q_vret ja_M_sets_92 rfl (k37 s1 e1 s2 e2 h24 h25 s19 e19 h26 s20 e20 h27 h29 s22 e22)
        · intro h30
          refine q_iload_n (pc' := 6) ja_M_in_5 rfl rfl ?_
          refine q_iload_n (pc' := 7) ja_M_in_6 rfl rfl ?_
          refine q_ic_gt (pc' := 10) ja_M_in_7 rfl ?_ ?_
          · intro h31
            refine q_iconst (pc' := 15) ja_M_in_14 rfl 0 (by decide) ?_
            refine q_iret ja_M_in_15 rfl (by decide) ?_
            show q_W _ _ _ _ 76 [some (.ref 146), some (.int a1), some (.int a2), some (.int a3), some (.int a4), some (.int a5)] [.int 0, .int a1, .ref 160] s20
            refine q_if_ne (pc' := 79) ja_M_sets_76 rfl (fun h => absurd ((by decide : (0 : Int32) = 0)) h) (fun _ => ?_)
            refine q_iload_n (pc' := 80) ja_M_sets_79 rfl rfl ?_
            refine q_bipush (pc' := 82) ja_M_sets_80 rfl 6 (by decide) ?_
            refine q_ic_ne (pc' := 85) ja_M_sets_82 rfl ?_ ?_
            · intro h32
              refine q_iconst (pc' := 91) ja_M_sets_90 rfl (-1) (by decide) ?_
              refine q_iast (pc' := 92) ja_M_sets_91 rfl (by decide) (l := 13) rfl (k38 s1 e1 s2 e2 h24 h25 s19 e19 h26 s20 e20 h30 h31 h32) ?_
              intro s23 e23
              exact q_vret ja_M_sets_92 rfl (k39 s1 e1 s2 e2 h24 h25 s19 e19 h26 s20 e20 h30 h31 h32 s23 e23)
            · intro h33
              refine q_iload (pc' := 87) ja_M_sets_85 rfl rfl ?_
              refine q_goto ja_M_sets_87 ?_
              refine q_iast (pc' := 92) ja_M_sets_91 rfl (by decide) (l := 13) rfl (k40 s1 e1 s2 e2 h24 h25 s19 e19 h26 s20 e20 h30 h31 h33) ?_
              intro s24 e24
              exact q_vret ja_M_sets_92 rfl (k41 s1 e1 s2 e2 h24 h25 s19 e19 h26 s20 e20 h30 h31 h33 s24 e24)
          · intro h34
            refine q_iconst (pc' := 11) ja_M_in_10 rfl 1 (by decide) ?_
            refine q_goto ja_M_in_11 ?_
            refine q_iret ja_M_in_15 rfl (by decide) ?_
            show q_W _ _ _ _ 76 [some (.ref 146), some (.int a1), some (.int a2), some (.int a3), some (.int a4), some (.int a5)] [.int 1, .int a1, .ref 160] s20
            refine q_if_ne (pc' := 79) ja_M_sets_76 rfl (fun _ => ?_) (fun h => absurd h ((by decide : ¬ (1 : Int32) = 0)))
            refine q_iload (pc' := 87) ja_M_sets_85 rfl rfl ?_
            refine q_goto ja_M_sets_87 ?_
            refine q_iast (pc' := 92) ja_M_sets_91 rfl (by decide) (l := 13) rfl (k42 s1 e1 s2 e2 h24 h25 s19 e19 h26 s20 e20 h30 h34) ?_
            intro s25 e25
            exact q_vret ja_M_sets_92 rfl (k43 s1 e1 s2 e2 h24 h25 s19 e19 h26 s20 e20 h30 h34 s25 e25)
      · intro h35
        refine q_iload_n (pc' := 6) ja_M_in_5 rfl rfl ?_
        refine q_iload_n (pc' := 7) ja_M_in_6 rfl rfl ?_
        refine q_ic_gt (pc' := 10) ja_M_in_7 rfl ?_ ?_
        · intro h36
          refine q_iconst (pc' := 15) ja_M_in_14 rfl 0 (by decide) ?_
          refine q_iret ja_M_in_15 rfl (by decide) ?_
          show q_W _ _ _ _ 55 [some (.ref 146), some (.int a1), some (.int a2), some (.int a3), some (.int a4), some (.int a5)] [.int 0, .int a1, .ref 159] s19
          refine q_if_eq (pc' := 58) ja_M_sets_55 rfl (fun _ => ?_) (fun h => absurd ((by decide : (0 : Int32) = 0)) h)
          refine q_iconst (pc' := 64) ja_M_sets_63 rfl (-1) (by decide) ?_
          refine q_iast (pc' := 65) ja_M_sets_64 rfl (by decide) (l := 13) rfl (k44 s1 e1 s2 e2 h24 h25 s19 e19 h35 h36) ?_
          intro s26 e26
          refine q_aload_n (pc' := 66) ja_M_sets_65 rfl rfl ?_
          refine q_getf (pc' := 69) (v := .ref 160) ja_M_sets_66 rfl (by decide) ⟨rfl, by decide⟩ rfl ?_
          refine q_iload_n (pc' := 70) ja_M_sets_69 rfl rfl ?_
          refine q_iload_n (pc' := 71) ja_M_sets_70 rfl rfl ?_
          refine q_iconst (pc' := 72) ja_M_sets_71 rfl 2 (by decide) ?_
          refine q_iconst (pc' := 73) ja_M_sets_72 rfl 3 (by decide) ?_
          refine q_stat (pc' := 76) (as := [.int a2, .int 2, .int 3]) (r := [.int a1, .ref 160]) ja_M_sets_73 rfl (by decide) rfl rfl ?_
          refine q_in (M := jm_M_in) rfl (Nat.le_of_ble_eq_true rfl) (ls := [some (.int a2), some (.int 2), some (.int 3)]) rfl ?_
          refine q_iload_n (pc' := 1) ja_M_in_0 rfl rfl ?_
          refine q_iload_n (pc' := 2) ja_M_in_1 rfl rfl ?_
          refine q_ic_lt (pc' := 5) ja_M_in_2 rfl ?_ ?_
          · intro h37
            refine q_iconst (pc' := 15) ja_M_in_14 rfl 0 (by decide) ?_
            refine q_iret ja_M_in_15 rfl (by decide) ?_
            show q_W _ _ _ _ 76 [some (.ref 146), some (.int a1), some (.int a2), some (.int a3), some (.int a4), some (.int a5)] [.int 0, .int a1, .ref 160] s26
            refine q_if_ne (pc' := 79) ja_M_sets_76 rfl (fun h => absurd ((by decide : (0 : Int32) = 0)) h) (fun _ => ?_)
            refine q_iload_n (pc' := 80) ja_M_sets_79 rfl rfl ?_
            refine q_bipush (pc' := 82) ja_M_sets_80 rfl 6 (by decide) ?_
            refine q_ic_ne (pc' := 85) ja_M_sets_82 rfl ?_ ?_
            · intro h38
              refine q_iconst (pc' := 91) ja_M_sets_90 rfl (-1) (by decide) ?_
              refine q_iast (pc' := 92) ja_M_sets_91 rfl (by decide) (l := 13) rfl (k45 s1 e1 s2 e2 h24 h25 s19 e19 h35 h36 s26 e26 h37 h38) ?_
              intro s27 e27
              exact q_vret ja_M_sets_92 rfl (k46 s1 e1 s2 e2 h24 h25 s19 e19 h35 h36 s26 e26 h37 h38 s27 e27)
            · intro h39
              refine q_iload (pc' := 87) ja_M_sets_85 rfl rfl ?_
              refine q_goto ja_M_sets_87 ?_
              refine q_iast (pc' := 92) ja_M_sets_91 rfl (by decide) (l := 13) rfl (k47 s1 e1 s2 e2 h24 h25 s19 e19 h35 h36 s26 e26 h37 h39) ?_
              intro s28 e28
              exact q_vret ja_M_sets_92 rfl (k48 s1 e1 s2 e2 h24 h25 s19 e19 h35 h36 s26 e26 h37 h39 s28 e28)
          · intro h40
            refine q_iload_n (pc' := 6) ja_M_in_5 rfl rfl ?_
            refine q_iload_n (pc' := 7) ja_M_in_6 rfl rfl ?_
            refine q_ic_gt (pc' := 10) ja_M_in_7 rfl (fun _ => ?_) (fun h => absurd h (h36))
            refine q_iconst (pc' := 15) ja_M_in_14 rfl 0 (by decide) ?_
            refine q_iret ja_M_in_15 rfl (by decide) ?_
            show q_W _ _ _ _ 76 [some (.ref 146), some (.int a1), some (.int a2), some (.int a3), some (.int a4), some (.int a5)] [.int 0, .int a1, .ref 160] s26
            refine q_if_ne (pc' := 79) ja_M_sets_76 rfl (fun h => absurd ((by decide : (0 : Int32) = 0)) h) (fun _ => ?_)
            refine q_iload_n (pc' := 80) ja_M_sets_79 rfl rfl ?_
            refine q_bipush (pc' := 82) ja_M_sets_80 rfl 6 (by decide) ?_
            refine q_ic_ne (pc' := 85) ja_M_sets_82 rfl ?_ ?_
            · intro h41
              refine q_iconst (pc' := 91) ja_M_sets_90 rfl (-1) (by decide) ?_
              refine q_iast (pc' := 92) ja_M_sets_91 rfl (by decide) (l := 13) rfl (k49 s1 e1 s2 e2 h24 h25 s19 e19 h35 h36 s26 e26 h40 h41) ?_
              intro s29 e29
              exact q_vret ja_M_sets_92 rfl (k50 s1 e1 s2 e2 h24 h25 s19 e19 h35 h36 s26 e26 h40 h41 s29 e29)
            · intro h42
              refine q_iload (pc' := 87) ja_M_sets_85 rfl rfl ?_
              refine q_goto ja_M_sets_87 ?_
              refine q_iast (pc' := 92) ja_M_sets_91 rfl (by decide) (l := 13) rfl (k51 s1 e1 s2 e2 h24 h25 s19 e19 h35 h36 s26 e26 h40 h42) ?_
              intro s30 e30
              exact q_vret ja_M_sets_92 rfl (k52 s1 e1 s2 e2 h24 h25 s19 e19 h35 h36 s26 e26 h40 h42 s30 e30)
        · intro h43
          refine q_iconst (pc' := 11) ja_M_in_10 rfl 1 (by decide) ?_
          refine q_goto ja_M_in_11 ?_
          refine q_iret ja_M_in_15 rfl (by decide) ?_
          show q_W _ _ _ _ 55 [some (.ref 146), some (.int a1), some (.int a2), some (.int a3), some (.int a4), some (.int a5)] [.int 1, .int a1, .ref 159] s19
          refine q_if_eq (pc' := 58) ja_M_sets_55 rfl (fun h => absurd h ((by decide : ¬ (1 : Int32) = 0))) (fun _ => ?_)
          refine q_iload (pc' := 60) ja_M_sets_58 rfl rfl ?_
          refine q_goto ja_M_sets_60 ?_
          refine q_iast (pc' := 65) ja_M_sets_64 rfl (by decide) (l := 13) rfl (k53 s1 e1 s2 e2 h24 h25 s19 e19 h35 h43) ?_
          intro s31 e31
          refine q_aload_n (pc' := 66) ja_M_sets_65 rfl rfl ?_
          refine q_getf (pc' := 69) (v := .ref 160) ja_M_sets_66 rfl (by decide) ⟨rfl, by decide⟩ rfl ?_
          refine q_iload_n (pc' := 70) ja_M_sets_69 rfl rfl ?_
          refine q_iload_n (pc' := 71) ja_M_sets_70 rfl rfl ?_
          refine q_iconst (pc' := 72) ja_M_sets_71 rfl 2 (by decide) ?_
          refine q_iconst (pc' := 73) ja_M_sets_72 rfl 3 (by decide) ?_
          refine q_stat (pc' := 76) (as := [.int a2, .int 2, .int 3]) (r := [.int a1, .ref 160]) ja_M_sets_73 rfl (by decide) rfl rfl ?_
          refine q_in (M := jm_M_in) rfl (Nat.le_of_ble_eq_true rfl) (ls := [some (.int a2), some (.int 2), some (.int 3)]) rfl ?_
          refine q_iload_n (pc' := 1) ja_M_in_0 rfl rfl ?_
          refine q_iload_n (pc' := 2) ja_M_in_1 rfl rfl ?_
          refine q_ic_lt (pc' := 5) ja_M_in_2 rfl ?_ ?_
          · intro h44
            refine q_iconst (pc' := 15) ja_M_in_14 rfl 0 (by decide) ?_
            refine q_iret ja_M_in_15 rfl (by decide) ?_
            show q_W _ _ _ _ 76 [some (.ref 146), some (.int a1), some (.int a2), some (.int a3), some (.int a4), some (.int a5)] [.int 0, .int a1, .ref 160] s31
            refine q_if_ne (pc' := 79) ja_M_sets_76 rfl (fun h => absurd ((by decide : (0 : Int32) = 0)) h) (fun _ => ?_)
            refine q_iload_n (pc' := 80) ja_M_sets_79 rfl rfl ?_
            refine q_bipush (pc' := 82) ja_M_sets_80 rfl 6 (by decide) ?_
            refine q_ic_ne (pc' := 85) ja_M_sets_82 rfl ?_ ?_
            · intro h45
              refine q_iconst (pc' := 91) ja_M_sets_90 rfl (-1) (by decide) ?_
              refine q_iast (pc' := 92) ja_M_sets_91 rfl (by decide) (l := 13) rfl (k54 s1 e1 s2 e2 h24 h25 s19 e19 h35 h43 s31 e31 h44 h45) ?_
              intro s32 e32
              exact q_vret ja_M_sets_92 rfl (k55 s1 e1 s2 e2 h24 h25 s19 e19 h35 h43 s31 e31 h44 h45 s32 e32)
            · intro h46
              refine q_iload (pc' := 87) ja_M_sets_85 rfl rfl ?_
              refine q_goto ja_M_sets_87 ?_
              refine q_iast (pc' := 92) ja_M_sets_91 rfl (by decide) (l := 13) rfl (k56 s1 e1 s2 e2 h24 h25 s19 e19 h35 h43 s31 e31 h44 h46) ?_
              intro s33 e33
              exact q_vret ja_M_sets_92 rfl (k57 s1 e1 s2 e2 h24 h25 s19 e19 h35 h43 s31 e31 h44 h46 s33 e33)
          · intro h47
            refine q_iload_n (pc' := 6) ja_M_in_5 rfl rfl ?_
            refine q_iload_n (pc' := 7) ja_M_in_6 rfl rfl ?_
            refine q_ic_gt (pc' := 10) ja_M_in_7 rfl (fun h => absurd (h43) h) (fun _ => ?_)
            refine q_iconst (pc' := 11) ja_M_in_10 rfl 1 (by decide) ?_
            refine q_goto ja_M_in_11 ?_
            refine q_iret ja_M_in_15 rfl (by decide) ?_
            show q_W _ _ _ _ 76 [some (.ref 146), some (.int a1), some (.int a2), some (.int a3), some (.int a4), some (.int a5)] [.int 1, .int a1, .ref 160] s31
            refine q_if_ne (pc' := 79) ja_M_sets_76 rfl (fun _ => ?_) (fun h => absurd h ((by decide : ¬ (1 : Int32) = 0)))
            refine q_iload (pc' := 87) ja_M_sets_85 rfl rfl ?_
            refine q_goto ja_M_sets_87 ?_
            refine q_iast (pc' := 92) ja_M_sets_91 rfl (by decide) (l := 13) rfl (k58 s1 e1 s2 e2 h24 h25 s19 e19 h35 h43 s31 e31 h47) ?_
            intro s34 e34
            exact q_vret ja_M_sets_92 rfl (k59 s1 e1 s2 e2 h24 h25 s19 e19 h35 h43 s31 e31 h47 s34 e34)
    · intro h48
      refine q_iconst (pc' := 39) ja_M_sets_38 rfl 1 (by decide) ?_
      refine q_goto ja_M_sets_39 ?_
      refine q_bast (pc' := 44) ja_M_sets_43 rfl (by decide) (l := 13) rfl (k60 s1 e1 s2 e2 h24 h48) (by decide) ?_
      intro s35 e35
      refine q_aload_n (pc' := 45) ja_M_sets_44 rfl rfl ?_
      refine q_getf (pc' := 48) (v := .ref 159) ja_M_sets_45 rfl (by decide) ⟨rfl, by decide⟩ rfl ?_
      refine q_iload_n (pc' := 49) ja_M_sets_48 rfl rfl ?_
      refine q_iload_n (pc' := 50) ja_M_sets_49 rfl rfl ?_
      refine q_iconst (pc' := 51) ja_M_sets_50 rfl 1 (by decide) ?_
      refine q_iconst (pc' := 52) ja_M_sets_51 rfl 3 (by decide) ?_
      refine q_stat (pc' := 55) (as := [.int a2, .int 1, .int 3]) (r := [.int a1, .ref 159]) ja_M_sets_52 rfl (by decide) rfl rfl ?_
      refine q_in (M := jm_M_in) rfl (Nat.le_of_ble_eq_true rfl) (ls := [some (.int a2), some (.int 1), some (.int 3)]) rfl ?_
      refine q_iload_n (pc' := 1) ja_M_in_0 rfl rfl ?_
      refine q_iload_n (pc' := 2) ja_M_in_1 rfl rfl ?_
      refine q_ic_lt (pc' := 5) ja_M_in_2 rfl ?_ ?_
      · intro h49
        refine q_iconst (pc' := 15) ja_M_in_14 rfl 0 (by decide) ?_
        refine q_iret ja_M_in_15 rfl (by decide) ?_
        show q_W _ _ _ _ 55 [some (.ref 146), some (.int a1), some (.int a2), some (.int a3), some (.int a4), some (.int a5)] [.int 0, .int a1, .ref 159] s35
        refine q_if_eq (pc' := 58) ja_M_sets_55 rfl (fun _ => ?_) (fun h => absurd ((by decide : (0 : Int32) = 0)) h)
        refine q_iconst (pc' := 64) ja_M_sets_63 rfl (-1) (by decide) ?_
        refine q_iast (pc' := 65) ja_M_sets_64 rfl (by decide) (l := 13) rfl (k61 s1 e1 s2 e2 h24 h48 s35 e35 h49) ?_
        intro s36 e36
        refine q_aload_n (pc' := 66) ja_M_sets_65 rfl rfl ?_
        refine q_getf (pc' := 69) (v := .ref 160) ja_M_sets_66 rfl (by decide) ⟨rfl, by decide⟩ rfl ?_
        refine q_iload_n (pc' := 70) ja_M_sets_69 rfl rfl ?_
        refine q_iload_n (pc' := 71) ja_M_sets_70 rfl rfl ?_
        refine q_iconst (pc' := 72) ja_M_sets_71 rfl 2 (by decide) ?_
        refine q_iconst (pc' := 73) ja_M_sets_72 rfl 3 (by decide) ?_
        refine q_stat (pc' := 76) (as := [.int a2, .int 2, .int 3]) (r := [.int a1, .ref 160]) ja_M_sets_73 rfl (by decide) rfl rfl ?_
        refine q_in (M := jm_M_in) rfl (Nat.le_of_ble_eq_true rfl) (ls := [some (.int a2), some (.int 2), some (.int 3)]) rfl ?_
        refine q_iload_n (pc' := 1) ja_M_in_0 rfl rfl ?_
        refine q_iload_n (pc' := 2) ja_M_in_1 rfl rfl ?_
        refine q_ic_lt (pc' := 5) ja_M_in_2 rfl ?_ ?_
        · intro h50
          refine q_iconst (pc' := 15) ja_M_in_14 rfl 0 (by decide) ?_
          refine q_iret ja_M_in_15 rfl (by decide) ?_
          show q_W _ _ _ _ 76 [some (.ref 146), some (.int a1), some (.int a2), some (.int a3), some (.int a4), some (.int a5)] [.int 0, .int a1, .ref 160] s36
          refine q_if_ne (pc' := 79) ja_M_sets_76 rfl (fun h => absurd ((by decide : (0 : Int32) = 0)) h) (fun _ => ?_)
          refine q_iload_n (pc' := 80) ja_M_sets_79 rfl rfl ?_
          refine q_bipush (pc' := 82) ja_M_sets_80 rfl 6 (by decide) ?_
          refine q_ic_ne (pc' := 85) ja_M_sets_82 rfl ?_ ?_
          · intro h51
            refine q_iconst (pc' := 91) ja_M_sets_90 rfl (-1) (by decide) ?_
            refine q_iast (pc' := 92) ja_M_sets_91 rfl (by decide) (l := 13) rfl (k62 s1 e1 s2 e2 h24 h48 s35 e35 h49 s36 e36 h50 h51) ?_
            intro s37 e37
            exact q_vret ja_M_sets_92 rfl (k63 s1 e1 s2 e2 h24 h48 s35 e35 h49 s36 e36 h50 h51 s37 e37)
          · intro h52
            refine q_iload (pc' := 87) ja_M_sets_85 rfl rfl ?_
            refine q_goto ja_M_sets_87 ?_
            refine q_iast (pc' := 92) ja_M_sets_91 rfl (by decide) (l := 13) rfl (k64 s1 e1 s2 e2 h24 h48 s35 e35 h49 s36 e36 h50 h52) ?_
            intro s38 e38
            exact q_vret ja_M_sets_92 rfl (k65 s1 e1 s2 e2 h24 h48 s35 e35 h49 s36 e36 h50 h52 s38 e38)
        · intro h53
          refine q_iload_n (pc' := 6) ja_M_in_5 rfl rfl ?_
          refine q_iload_n (pc' := 7) ja_M_in_6 rfl rfl ?_
          refine q_ic_gt (pc' := 10) ja_M_in_7 rfl ?_ ?_
          · intro h54
            refine q_iconst (pc' := 15) ja_M_in_14 rfl 0 (by decide) ?_
            refine q_iret ja_M_in_15 rfl (by decide) ?_
            show q_W _ _ _ _ 76 [some (.ref 146), some (.int a1), some (.int a2), some (.int a3), some (.int a4), some (.int a5)] [.int 0, .int a1, .ref 160] s36
            refine q_if_ne (pc' := 79) ja_M_sets_76 rfl (fun h => absurd ((by decide : (0 : Int32) = 0)) h) (fun _ => ?_)
            refine q_iload_n (pc' := 80) ja_M_sets_79 rfl rfl ?_
            refine q_bipush (pc' := 82) ja_M_sets_80 rfl 6 (by decide) ?_
            refine q_ic_ne (pc' := 85) ja_M_sets_82 rfl ?_ ?_
            · intro h55
              refine q_iconst (pc' := 91) ja_M_sets_90 rfl (-1) (by decide) ?_
              refine q_iast (pc' := 92) ja_M_sets_91 rfl (by decide) (l := 13) rfl (k66 s1 e1 s2 e2 h24 h48 s35 e35 h49 s36 e36 h53 h54 h55) ?_
              intro s39 e39
              exact q_vret ja_M_sets_92 rfl (k67 s1 e1 s2 e2 h24 h48 s35 e35 h49 s36 e36 h53 h54 h55 s39 e39)
            · intro h56
              refine q_iload (pc' := 87) ja_M_sets_85 rfl rfl ?_
              refine q_goto ja_M_sets_87 ?_
              refine q_iast (pc' := 92) ja_M_sets_91 rfl (by decide) (l := 13) rfl (k68 s1 e1 s2 e2 h24 h48 s35 e35 h49 s36 e36 h53 h54 h56) ?_
              intro s40 e40
              exact q_vret ja_M_sets_92 rfl (k69 s1 e1 s2 e2 h24 h48 s35 e35 h49 s36 e36 h53 h54 h56 s40 e40)
          · intro h57
            refine q_iconst (pc' := 11) ja_M_in_10 rfl 1 (by decide) ?_
            refine q_goto ja_M_in_11 ?_
            refine q_iret ja_M_in_15 rfl (by decide) ?_
            show q_W _ _ _ _ 76 [some (.ref 146), some (.int a1), some (.int a2), some (.int a3), some (.int a4), some (.int a5)] [.int 1, .int a1, .ref 160] s36
            refine q_if_ne (pc' := 79) ja_M_sets_76 rfl (fun _ => ?_) (fun h => absurd h ((by decide : ¬ (1 : Int32) = 0)))
            refine q_iload (pc' := 87) ja_M_sets_85 rfl rfl ?_
            refine q_goto ja_M_sets_87 ?_
            refine q_iast (pc' := 92) ja_M_sets_91 rfl (by decide) (l := 13) rfl (k70 s1 e1 s2 e2 h24 h48 s35 e35 h49 s36 e36 h53 h57) ?_
            intro s41 e41
            exact q_vret ja_M_sets_92 rfl (k71 s1 e1 s2 e2 h24 h48 s35 e35 h49 s36 e36 h53 h57 s41 e41)
      · intro h58
        refine q_iload_n (pc' := 6) ja_M_in_5 rfl rfl ?_
        refine q_iload_n (pc' := 7) ja_M_in_6 rfl rfl ?_
        refine q_ic_gt (pc' := 10) ja_M_in_7 rfl ?_ ?_
        · intro h59
          refine q_iconst (pc' := 15) ja_M_in_14 rfl 0 (by decide) ?_
          refine q_iret ja_M_in_15 rfl (by decide) ?_
          show q_W _ _ _ _ 55 [some (.ref 146), some (.int a1), some (.int a2), some (.int a3), some (.int a4), some (.int a5)] [.int 0, .int a1, .ref 159] s35
          refine q_if_eq (pc' := 58) ja_M_sets_55 rfl (fun _ => ?_) (fun h => absurd ((by decide : (0 : Int32) = 0)) h)
          refine q_iconst (pc' := 64) ja_M_sets_63 rfl (-1) (by decide) ?_
          refine q_iast (pc' := 65) ja_M_sets_64 rfl (by decide) (l := 13) rfl (k72 s1 e1 s2 e2 h24 h48 s35 e35 h58 h59) ?_
          intro s42 e42
          refine q_aload_n (pc' := 66) ja_M_sets_65 rfl rfl ?_
          refine q_getf (pc' := 69) (v := .ref 160) ja_M_sets_66 rfl (by decide) ⟨rfl, by decide⟩ rfl ?_
          refine q_iload_n (pc' := 70) ja_M_sets_69 rfl rfl ?_
          refine q_iload_n (pc' := 71) ja_M_sets_70 rfl rfl ?_
          refine q_iconst (pc' := 72) ja_M_sets_71 rfl 2 (by decide) ?_
          refine q_iconst (pc' := 73) ja_M_sets_72 rfl 3 (by decide) ?_
          refine q_stat (pc' := 76) (as := [.int a2, .int 2, .int 3]) (r := [.int a1, .ref 160]) ja_M_sets_73 rfl (by decide) rfl rfl ?_
          refine q_in (M := jm_M_in) rfl (Nat.le_of_ble_eq_true rfl) (ls := [some (.int a2), some (.int 2), some (.int 3)]) rfl ?_
          refine q_iload_n (pc' := 1) ja_M_in_0 rfl rfl ?_
          refine q_iload_n (pc' := 2) ja_M_in_1 rfl rfl ?_
          refine q_ic_lt (pc' := 5) ja_M_in_2 rfl ?_ ?_
          · intro h60
            refine q_iconst (pc' := 15) ja_M_in_14 rfl 0 (by decide) ?_
            refine q_iret ja_M_in_15 rfl (by decide) ?_
            show q_W _ _ _ _ 76 [some (.ref 146), some (.int a1), some (.int a2), some (.int a3), some (.int a4), some (.int a5)] [.int 0, .int a1, .ref 160] s42
            refine q_if_ne (pc' := 79) ja_M_sets_76 rfl (fun h => absurd ((by decide : (0 : Int32) = 0)) h) (fun _ => ?_)
            refine q_iload_n (pc' := 80) ja_M_sets_79 rfl rfl ?_
            refine q_bipush (pc' := 82) ja_M_sets_80 rfl 6 (by decide) ?_
            refine q_ic_ne (pc' := 85) ja_M_sets_82 rfl ?_ ?_
            · intro h61
              refine q_iconst (pc' := 91) ja_M_sets_90 rfl (-1) (by decide) ?_
              refine q_iast (pc' := 92) ja_M_sets_91 rfl (by decide) (l := 13) rfl (k73 s1 e1 s2 e2 h24 h48 s35 e35 h58 h59 s42 e42 h60 h61) ?_
              intro s43 e43
              exact q_vret ja_M_sets_92 rfl (k74 s1 e1 s2 e2 h24 h48 s35 e35 h58 h59 s42 e42 h60 h61 s43 e43)
            · intro h62
              refine q_iload (pc' := 87) ja_M_sets_85 rfl rfl ?_
              refine q_goto ja_M_sets_87 ?_
              refine q_iast (pc' := 92) ja_M_sets_91 rfl (by decide) (l := 13) rfl (k75 s1 e1 s2 e2 h24 h48 s35 e35 h58 h59 s42 e42 h60 h62) ?_
              intro s44 e44
              exact q_vret ja_M_sets_92 rfl (k76 s1 e1 s2 e2 h24 h48 s35 e35 h58 h59 s42 e42 h60 h62 s44 e44)
          · intro h63
            refine q_iload_n (pc' := 6) ja_M_in_5 rfl rfl ?_
            refine q_iload_n (pc' := 7) ja_M_in_6 rfl rfl ?_
            refine q_ic_gt (pc' := 10) ja_M_in_7 rfl (fun _ => ?_) (fun h => absurd h (h59))
            refine q_iconst (pc' := 15) ja_M_in_14 rfl 0 (by decide) ?_
            refine q_iret ja_M_in_15 rfl (by decide) ?_
            show q_W _ _ _ _ 76 [some (.ref 146), some (.int a1), some (.int a2), some (.int a3), some (.int a4), some (.int a5)] [.int 0, .int a1, .ref 160] s42
            refine q_if_ne (pc' := 79) ja_M_sets_76 rfl (fun h => absurd ((by decide : (0 : Int32) = 0)) h) (fun _ => ?_)
            refine q_iload_n (pc' := 80) ja_M_sets_79 rfl rfl ?_
            refine q_bipush (pc' := 82) ja_M_sets_80 rfl 6 (by decide) ?_
            refine q_ic_ne (pc' := 85) ja_M_sets_82 rfl ?_ ?_
            · intro h64
              refine q_iconst (pc' := 91) ja_M_sets_90 rfl (-1) (by decide) ?_
              refine q_iast (pc' := 92) ja_M_sets_91 rfl (by decide) (l := 13) rfl (k77 s1 e1 s2 e2 h24 h48 s35 e35 h58 h59 s42 e42 h63 h64) ?_
              intro s45 e45
              exact q_vret ja_M_sets_92 rfl (k78 s1 e1 s2 e2 h24 h48 s35 e35 h58 h59 s42 e42 h63 h64 s45 e45)
            · intro h65
              refine q_iload (pc' := 87) ja_M_sets_85 rfl rfl ?_
              refine q_goto ja_M_sets_87 ?_
              refine q_iast (pc' := 92) ja_M_sets_91 rfl (by decide) (l := 13) rfl (k79 s1 e1 s2 e2 h24 h48 s35 e35 h58 h59 s42 e42 h63 h65) ?_
              intro s46 e46
              exact q_vret ja_M_sets_92 rfl (k80 s1 e1 s2 e2 h24 h48 s35 e35 h58 h59 s42 e42 h63 h65 s46 e46)
        · intro h66
          refine q_iconst (pc' := 11) ja_M_in_10 rfl 1 (by decide) ?_
          refine q_goto ja_M_in_11 ?_
          refine q_iret ja_M_in_15 rfl (by decide) ?_
          show q_W _ _ _ _ 55 [some (.ref 146), some (.int a1), some (.int a2), some (.int a3), some (.int a4), some (.int a5)] [.int 1, .int a1, .ref 159] s35
          refine q_if_eq (pc' := 58) ja_M_sets_55 rfl (fun h => absurd h ((by decide : ¬ (1 : Int32) = 0))) (fun _ => ?_)
          refine q_iload (pc' := 60) ja_M_sets_58 rfl rfl ?_
          refine q_goto ja_M_sets_60 ?_
          refine q_iast (pc' := 65) ja_M_sets_64 rfl (by decide) (l := 13) rfl (k81 s1 e1 s2 e2 h24 h48 s35 e35 h58 h66) ?_
          intro s47 e47
          refine q_aload_n (pc' := 66) ja_M_sets_65 rfl rfl ?_
          refine q_getf (pc' := 69) (v := .ref 160) ja_M_sets_66 rfl (by decide) ⟨rfl, by decide⟩ rfl ?_
          refine q_iload_n (pc' := 70) ja_M_sets_69 rfl rfl ?_
          refine q_iload_n (pc' := 71) ja_M_sets_70 rfl rfl ?_
          refine q_iconst (pc' := 72) ja_M_sets_71 rfl 2 (by decide) ?_
          refine q_iconst (pc' := 73) ja_M_sets_72 rfl 3 (by decide) ?_
          refine q_stat (pc' := 76) (as := [.int a2, .int 2, .int 3]) (r := [.int a1, .ref 160]) ja_M_sets_73 rfl (by decide) rfl rfl ?_
          refine q_in (M := jm_M_in) rfl (Nat.le_of_ble_eq_true rfl) (ls := [some (.int a2), some (.int 2), some (.int 3)]) rfl ?_
          refine q_iload_n (pc' := 1) ja_M_in_0 rfl rfl ?_
          refine q_iload_n (pc' := 2) ja_M_in_1 rfl rfl ?_
          refine q_ic_lt (pc' := 5) ja_M_in_2 rfl ?_ ?_
          · intro h67
            refine q_iconst (pc' := 15) ja_M_in_14 rfl 0 (by decide) ?_
            refine q_iret ja_M_in_15 rfl (by decide) ?_
            show q_W _ _ _ _ 76 [some (.ref 146), some (.int a1), some (.int a2), some (.int a3), some (.int a4), some (.int a5)] [.int 0, .int a1, .ref 160] s47
            refine q_if_ne (pc' := 79) ja_M_sets_76 rfl (fun h => absurd ((by decide : (0 : Int32) = 0)) h) (fun _ => ?_)
            refine q_iload_n (pc' := 80) ja_M_sets_79 rfl rfl ?_
            refine q_bipush (pc' := 82) ja_M_sets_80 rfl 6 (by decide) ?_
            refine q_ic_ne (pc' := 85) ja_M_sets_82 rfl ?_ ?_
            · intro h68
              refine q_iconst (pc' := 91) ja_M_sets_90 rfl (-1) (by decide) ?_
              refine q_iast (pc' := 92) ja_M_sets_91 rfl (by decide) (l := 13) rfl (k82 s1 e1 s2 e2 h24 h48 s35 e35 h58 h66 s47 e47 h67 h68) ?_
              intro s48 e48
              exact q_vret ja_M_sets_92 rfl (k83 s1 e1 s2 e2 h24 h48 s35 e35 h58 h66 s47 e47 h67 h68 s48 e48)
            · intro h69
              refine q_iload (pc' := 87) ja_M_sets_85 rfl rfl ?_
              refine q_goto ja_M_sets_87 ?_
              refine q_iast (pc' := 92) ja_M_sets_91 rfl (by decide) (l := 13) rfl (k84 s1 e1 s2 e2 h24 h48 s35 e35 h58 h66 s47 e47 h67 h69) ?_
              intro s49 e49
              exact q_vret ja_M_sets_92 rfl (k85 s1 e1 s2 e2 h24 h48 s35 e35 h58 h66 s47 e47 h67 h69 s49 e49)
          · intro h70
            refine q_iload_n (pc' := 6) ja_M_in_5 rfl rfl ?_
            refine q_iload_n (pc' := 7) ja_M_in_6 rfl rfl ?_
            refine q_ic_gt (pc' := 10) ja_M_in_7 rfl (fun h => absurd (h66) h) (fun _ => ?_)
            refine q_iconst (pc' := 11) ja_M_in_10 rfl 1 (by decide) ?_
            refine q_goto ja_M_in_11 ?_
            refine q_iret ja_M_in_15 rfl (by decide) ?_
            show q_W _ _ _ _ 76 [some (.ref 146), some (.int a1), some (.int a2), some (.int a3), some (.int a4), some (.int a5)] [.int 1, .int a1, .ref 160] s47
            refine q_if_ne (pc' := 79) ja_M_sets_76 rfl (fun _ => ?_) (fun h => absurd h ((by decide : ¬ (1 : Int32) = 0)))
            refine q_iload (pc' := 87) ja_M_sets_85 rfl rfl ?_
            refine q_goto ja_M_sets_87 ?_
            refine q_iast (pc' := 92) ja_M_sets_91 rfl (by decide) (l := 13) rfl (k86 s1 e1 s2 e2 h24 h48 s35 e35 h58 h66 s47 e47 h70) ?_
            intro s50 e50
            exact q_vret ja_M_sets_92 rfl (k87 s1 e1 s2 e2 h24 h48 s35 e35 h58 h66 s47 e47 h70 s50 e50)
set_option maxRecDepth 20000 in
theorem t_M_sign {G : jv_X} {d : Nat} {B : Option Value → jg_H → Prop} {s : jg_H} (a1 : Int32) (a2 : Int32)
    (k1 : a1 < 0 → B (some (.int (-2))) s)
    (k2 : ¬ a1 < 0 → ¬ a1 ≤ ((s 146 6) - 1) → B (some (.int (-2))) s)
    (k3 : ¬ a1 < 0 → a1 ≤ ((s 146 6) - 1) → a2 < 0 → B (some (.int (-2))) s)
    (k4 : ¬ a1 < 0 → a1 ≤ ((s 146 6) - 1) → ¬ a2 < 0 → ¬ a2 ≤ ((s 146 0) - 1) → B (some (.int (-2))) s)
    (k5 : ¬ a1 < 0 → a1 ≤ ((s 146 6) - 1) → ¬ a2 < 0 → a2 ≤ ((s 146 0) - 1) → jv_in a1 8 = true)
    (k6 : ¬ a1 < 0 → a1 ≤ ((s 146 6) - 1) → ¬ a2 < 0 → a2 ≤ ((s 146 0) - 1) → ¬ (s 152 a1.toNatClampNeg) = 0 → B (some (.int (-3))) s)
    (k7 : ¬ a1 < 0 → a1 ≤ ((s 146 6) - 1) → ¬ a2 < 0 → a2 ≤ ((s 146 0) - 1) → (s 152 a1.toNatClampNeg) = 0 → jv_in a1 8 = true)
    (k8 : ¬ a1 < 0 → a1 ≤ ((s 146 6) - 1) → ¬ a2 < 0 → a2 ≤ ((s 146 0) - 1) → (s 152 a1.toNatClampNeg) = 0 → ¬ (((s 155 a1.toNatClampNeg) >>> (a2 &&& 31)) &&& 1) = 1 → jv_in a1 8 = true)
    (k9 : ¬ a1 < 0 → a1 ≤ ((s 146 6) - 1) → ¬ a2 < 0 → a2 ≤ ((s 146 0) - 1) → (s 152 a1.toNatClampNeg) = 0 → ¬ (((s 155 a1.toNatClampNeg) >>> (a2 &&& 31)) &&& 1) = 1 → jv_in a1 8 = true)
    (k10 : ¬ a1 < 0 → a1 ≤ ((s 146 6) - 1) → ¬ a2 < 0 → a2 ≤ ((s 146 0) - 1) → (s 152 a1.toNatClampNeg) = 0 → ¬ (((s 155 a1.toNatClampNeg) >>> (a2 &&& 31)) &&& 1) = 1 → ∀ s1 : jg_H, s1 = jg_up s 155 a1.toNatClampNeg ((s 155 a1.toNatClampNeg) ||| (1 <<< (a2 &&& 31))) → jv_in a1 8 = true)
    (k11 : ¬ a1 < 0 → a1 ≤ ((s 146 6) - 1) → ¬ a2 < 0 → a2 ≤ ((s 146 0) - 1) → (s 152 a1.toNatClampNeg) = 0 → ¬ (((s 155 a1.toNatClampNeg) >>> (a2 &&& 31)) &&& 1) = 1 → ∀ s1 : jg_H, s1 = jg_up s 155 a1.toNatClampNeg ((s 155 a1.toNatClampNeg) ||| (1 <<< (a2 &&& 31))) → q_P G (d + 2) 166 [.int (s1 155 a1.toNatClampNeg)] s1 (fun v t => q_W G (d + 2) jm_M_sign B 66 [some (.ref 146), some (.int a1), some (.int a2), none, none] (v.toList ++ []) t))
    (k12 : ¬ a1 < 0 → a1 ≤ ((s 146 6) - 1) → ¬ a2 < 0 → a2 ≤ ((s 146 0) - 1) → (s 152 a1.toNatClampNeg) = 0 → (((s 155 a1.toNatClampNeg) >>> (a2 &&& 31)) &&& 1) = 1 → B (some (.int (-3))) s) :
    q_P G (d + 3) 173 [.ref 146, .int a1, .int a2] s B := by
  refine q_in (M := jm_M_sign) rfl (Nat.le_of_ble_eq_true rfl) (ls := [some (.ref 146), some (.int a1), some (.int a2), none, none]) rfl ?_
  refine q_aload_n (pc' := 1) ja_M_sign_0 rfl rfl ?_
  refine q_iload_n (pc' := 2) ja_M_sign_1 rfl rfl ?_
  refine q_virt (pc' := 5) (c := 146) (as := [.int a1]) (r := []) ja_M_sign_2 rfl rfl rfl (by decide) ⟨rfl, by decide⟩ ?_
  refine q_in (M := jm_M_isBill) rfl (Nat.le_of_ble_eq_true rfl) (ls := [some (.ref 146), some (.int a1)]) rfl ?_
  refine q_iload_n (pc' := 1) ja_M_isBill_0 rfl rfl ?_
  refine q_iconst (pc' := 2) ja_M_isBill_1 rfl 0 (by decide) ?_
  refine q_aload_n (pc' := 3) ja_M_isBill_2 rfl rfl ?_
  refine q_getf (pc' := 6) (v := .int (s 146 6)) ja_M_isBill_3 rfl (by decide) ⟨rfl, by decide⟩ rfl ?_
  refine q_iconst (pc' := 7) ja_M_isBill_6 rfl 1 (by decide) ?_
  refine q_isub (pc' := 8) ja_M_isBill_7 rfl ?_
  refine q_stat (pc' := 11) (as := [.int a1, .int 0, .int ((s 146 6) - 1)]) (r := []) ja_M_isBill_8 rfl (by decide) rfl rfl ?_
  refine q_in (M := jm_M_in) rfl (Nat.le_of_ble_eq_true rfl) (ls := [some (.int a1), some (.int 0), some (.int ((s 146 6) - 1))]) rfl ?_
  refine q_iload_n (pc' := 1) ja_M_in_0 rfl rfl ?_
  refine q_iload_n (pc' := 2) ja_M_in_1 rfl rfl ?_
  refine q_ic_lt (pc' := 5) ja_M_in_2 rfl ?_ ?_
  · intro h1
    refine q_iconst (pc' := 15) ja_M_in_14 rfl 0 (by decide) ?_
    refine q_iret ja_M_in_15 rfl (by decide) ?_
    show q_W _ _ _ _ 11 [some (.ref 146), some (.int a1)] [.int 0] s
    refine q_iret ja_M_isBill_11 rfl (by decide) ?_
    show q_W _ _ _ _ 5 [some (.ref 146), some (.int a1), some (.int a2), none, none] [.int 0] s
    refine q_if_eq (pc' := 8) ja_M_sign_5 rfl (fun _ => ?_) (fun h => absurd ((by decide : (0 : Int32) = 0)) h)
    refine q_bipush (pc' := 18) ja_M_sign_16 rfl (-2) (by decide) ?_
    exact q_iret ja_M_sign_18 rfl rfl (k1 h1)
  · intro h2
    refine q_iload_n (pc' := 6) ja_M_in_5 rfl rfl ?_
    refine q_iload_n (pc' := 7) ja_M_in_6 rfl rfl ?_
    refine q_ic_gt (pc' := 10) ja_M_in_7 rfl ?_ ?_
    · intro h3
      refine q_iconst (pc' := 15) ja_M_in_14 rfl 0 (by decide) ?_
      refine q_iret ja_M_in_15 rfl (by decide) ?_
      show q_W _ _ _ _ 11 [some (.ref 146), some (.int a1)] [.int 0] s
      refine q_iret ja_M_isBill_11 rfl (by decide) ?_
      show q_W _ _ _ _ 5 [some (.ref 146), some (.int a1), some (.int a2), none, none] [.int 0] s
      refine q_if_eq (pc' := 8) ja_M_sign_5 rfl (fun _ => ?_) (fun h => absurd ((by decide : (0 : Int32) = 0)) h)
      refine q_bipush (pc' := 18) ja_M_sign_16 rfl (-2) (by decide) ?_
      exact q_iret ja_M_sign_18 rfl rfl (k2 h2 h3)
    · intro h4
      refine q_iconst (pc' := 11) ja_M_in_10 rfl 1 (by decide) ?_
      refine q_goto ja_M_in_11 ?_
      refine q_iret ja_M_in_15 rfl (by decide) ?_
      show q_W _ _ _ _ 11 [some (.ref 146), some (.int a1)] [.int 1] s
      refine q_iret ja_M_isBill_11 rfl (by decide) ?_
      show q_W _ _ _ _ 5 [some (.ref 146), some (.int a1), some (.int a2), none, none] [.int 1] s
      refine q_if_eq (pc' := 8) ja_M_sign_5 rfl (fun h => absurd h ((by decide : ¬ (1 : Int32) = 0))) (fun _ => ?_)
      refine q_aload_n (pc' := 9) ja_M_sign_8 rfl rfl ?_
      refine q_iload_n (pc' := 10) ja_M_sign_9 rfl rfl ?_
      refine q_virt (pc' := 13) (c := 146) (as := [.int a2]) (r := []) ja_M_sign_10 rfl rfl rfl (by decide) ⟨rfl, by decide⟩ ?_
      refine q_in (M := jm_M_isMember) rfl (Nat.le_of_ble_eq_true rfl) (ls := [some (.ref 146), some (.int a2)]) rfl ?_
      refine q_iload_n (pc' := 1) ja_M_isMember_0 rfl rfl ?_
      refine q_iconst (pc' := 2) ja_M_isMember_1 rfl 0 (by decide) ?_
      refine q_aload_n (pc' := 3) ja_M_isMember_2 rfl rfl ?_
      refine q_getf (pc' := 6) (v := .int (s 146 0)) ja_M_isMember_3 rfl (by decide) ⟨rfl, by decide⟩ rfl ?_
      refine q_iconst (pc' := 7) ja_M_isMember_6 rfl 1 (by decide) ?_
      refine q_isub (pc' := 8) ja_M_isMember_7 rfl ?_
      refine q_stat (pc' := 11) (as := [.int a2, .int 0, .int ((s 146 0) - 1)]) (r := []) ja_M_isMember_8 rfl (by decide) rfl rfl ?_
      refine q_in (M := jm_M_in) rfl (Nat.le_of_ble_eq_true rfl) (ls := [some (.int a2), some (.int 0), some (.int ((s 146 0) - 1))]) rfl ?_
      refine q_iload_n (pc' := 1) ja_M_in_0 rfl rfl ?_
      refine q_iload_n (pc' := 2) ja_M_in_1 rfl rfl ?_
      refine q_ic_lt (pc' := 5) ja_M_in_2 rfl ?_ ?_
      · intro h5
        refine q_iconst (pc' := 15) ja_M_in_14 rfl 0 (by decide) ?_
        refine q_iret ja_M_in_15 rfl (by decide) ?_
        show q_W _ _ _ _ 11 [some (.ref 146), some (.int a2)] [.int 0] s
        refine q_iret ja_M_isMember_11 rfl (by decide) ?_
        show q_W _ _ _ _ 13 [some (.ref 146), some (.int a1), some (.int a2), none, none] [.int 0] s
        refine q_if_ne (pc' := 16) ja_M_sign_13 rfl (fun h => absurd ((by decide : (0 : Int32) = 0)) h) (fun _ => ?_)
        refine q_bipush (pc' := 18) ja_M_sign_16 rfl (-2) (by decide) ?_
        exact q_iret ja_M_sign_18 rfl rfl (k3 h2 h4 h5)
      · intro h6
        refine q_iload_n (pc' := 6) ja_M_in_5 rfl rfl ?_
        refine q_iload_n (pc' := 7) ja_M_in_6 rfl rfl ?_
        refine q_ic_gt (pc' := 10) ja_M_in_7 rfl ?_ ?_
        · intro h7
          refine q_iconst (pc' := 15) ja_M_in_14 rfl 0 (by decide) ?_
          refine q_iret ja_M_in_15 rfl (by decide) ?_
          show q_W _ _ _ _ 11 [some (.ref 146), some (.int a2)] [.int 0] s
          refine q_iret ja_M_isMember_11 rfl (by decide) ?_
          show q_W _ _ _ _ 13 [some (.ref 146), some (.int a1), some (.int a2), none, none] [.int 0] s
          refine q_if_ne (pc' := 16) ja_M_sign_13 rfl (fun h => absurd ((by decide : (0 : Int32) = 0)) h) (fun _ => ?_)
          refine q_bipush (pc' := 18) ja_M_sign_16 rfl (-2) (by decide) ?_
          exact q_iret ja_M_sign_18 rfl rfl (k4 h2 h4 h6 h7)
        · intro h8
          refine q_iconst (pc' := 11) ja_M_in_10 rfl 1 (by decide) ?_
          refine q_goto ja_M_in_11 ?_
          refine q_iret ja_M_in_15 rfl (by decide) ?_
          show q_W _ _ _ _ 11 [some (.ref 146), some (.int a2)] [.int 1] s
          refine q_iret ja_M_isMember_11 rfl (by decide) ?_
          show q_W _ _ _ _ 13 [some (.ref 146), some (.int a1), some (.int a2), none, none] [.int 1] s
          refine q_if_ne (pc' := 16) ja_M_sign_13 rfl (fun _ => ?_) (fun h => absurd h ((by decide : ¬ (1 : Int32) = 0)))
          refine q_aload_n (pc' := 20) ja_M_sign_19 rfl rfl ?_
          refine q_getf (pc' := 23) (v := .ref 152) ja_M_sign_20 rfl (by decide) ⟨rfl, by decide⟩ rfl ?_
          refine q_iload_n (pc' := 24) ja_M_sign_23 rfl rfl ?_
          refine q_iald (pc' := 25) (v := .int (s 152 a1.toNatClampNeg)) ja_M_sign_24 rfl (by decide) (l := 8) rfl (k5 h2 h4 h6 h8) rfl ?_
          refine q_if_ne (pc' := 28) ja_M_sign_25 rfl ?_ ?_
          · intro h9
            refine q_bipush (pc' := 44) ja_M_sign_42 rfl (-3) (by decide) ?_
            exact q_iret ja_M_sign_44 rfl rfl (k6 h2 h4 h6 h8 h9)
          · intro h10
            refine q_aload_n (pc' := 29) ja_M_sign_28 rfl rfl ?_
            refine q_getf (pc' := 32) (v := .ref 155) ja_M_sign_29 rfl (by decide) ⟨rfl, by decide⟩ rfl ?_
            refine q_iload_n (pc' := 33) ja_M_sign_32 rfl rfl ?_
            refine q_iald (pc' := 34) (v := .int (s 155 a1.toNatClampNeg)) ja_M_sign_33 rfl (by decide) (l := 8) rfl (k7 h2 h4 h6 h8 h10) rfl ?_
            refine q_iload_n (pc' := 35) ja_M_sign_34 rfl rfl ?_
            refine q_ishr (pc' := 36) ja_M_sign_35 rfl ?_
            refine q_iconst (pc' := 37) ja_M_sign_36 rfl 1 (by decide) ?_
            refine q_iand (pc' := 38) ja_M_sign_37 rfl ?_
            refine q_iconst (pc' := 39) ja_M_sign_38 rfl 1 (by decide) ?_
            refine q_ic_ne (pc' := 42) ja_M_sign_39 rfl ?_ ?_
            · intro h11
              refine q_aload_n (pc' := 46) ja_M_sign_45 rfl rfl ?_
              refine q_getf (pc' := 49) (v := .ref 155) ja_M_sign_46 rfl (by decide) ⟨rfl, by decide⟩ rfl ?_
              refine q_iload_n (pc' := 50) ja_M_sign_49 rfl rfl ?_
              refine q_dup2 (pc' := 51) ja_M_sign_50 rfl ⟨rfl, rfl⟩ ?_
              refine q_iald (pc' := 52) (v := .int (s 155 a1.toNatClampNeg)) ja_M_sign_51 rfl (by decide) (l := 8) rfl (k8 h2 h4 h6 h8 h10 h11) rfl ?_
              refine q_iconst (pc' := 53) ja_M_sign_52 rfl 1 (by decide) ?_
              refine q_iload_n (pc' := 54) ja_M_sign_53 rfl rfl ?_
              refine q_ishl (pc' := 55) ja_M_sign_54 rfl ?_
              refine q_ior (pc' := 56) ja_M_sign_55 rfl ?_
              refine q_iast (pc' := 57) ja_M_sign_56 rfl (by decide) (l := 8) rfl (k9 h2 h4 h6 h8 h10 h11) ?_
              intro s1 e1
              refine q_aload_n (pc' := 58) ja_M_sign_57 rfl rfl ?_
              refine q_getf (pc' := 61) (v := .ref 155) ja_M_sign_58 rfl (by decide) ⟨rfl, by decide⟩ rfl ?_
              refine q_iload_n (pc' := 62) ja_M_sign_61 rfl rfl ?_
              refine q_iald (pc' := 63) (v := .int (s1 155 a1.toNatClampNeg)) ja_M_sign_62 rfl (by decide) (l := 8) rfl (k10 h2 h4 h6 h8 h10 h11 s1 e1) rfl ?_
              refine q_stat (pc' := 66) (as := [.int (s1 155 a1.toNatClampNeg)]) (r := []) ja_M_sign_63 rfl (by decide) rfl rfl ?_
              exact (k11 h2 h4 h6 h8 h10 h11 s1 e1)
            · intro h12
              refine q_bipush (pc' := 44) ja_M_sign_42 rfl (-3) (by decide) ?_
              exact q_iret ja_M_sign_44 rfl rfl (k12 h2 h4 h6 h8 h10 h12)
set_option maxRecDepth 20000 in
theorem t_M_sign_66 {G : jv_X} {d : Nat} {B : Option Value → jg_H → Prop} {s : jg_H} (x1 : Int32) (x2 : Int32) (y0 : Int32)
    (k1 : (2 * y0) ≤ (s 146 0) → B (some (.int y0)) s)
    (k2 : ¬ (2 * y0) ≤ (s 146 0) → jv_in x1 8 = true)
    (k3 : ¬ (2 * y0) ≤ (s 146 0) → ∀ s1 : jg_H, s1 = jg_up s 152 x1.toNatClampNeg 1 → jv_in (s1 146 11) 8 = true)
    (k4 : ¬ (2 * y0) ≤ (s 146 0) → ∀ s1 : jg_H, s1 = jg_up s 152 x1.toNatClampNeg 1 → ∀ s2 : jg_H, s2 = jg_up s1 156 (s1 146 11).toNatClampNeg x1 → ∀ s3 : jg_H, s3 = jg_up s2 146 11 ((s2 146 11) + 1) → B (some (.int y0)) s3) :
    q_W G (d + 2) jm_M_sign B 66 [some (.ref 146), some (.int x1), some (.int x2), none, none] [.int y0] s := by
  refine q_istore_n (pc' := 67) (ls' := [some (.ref 146), some (.int x1), some (.int x2), some (.int y0), none]) ja_M_sign_66 rfl ⟨Nat.le_of_ble_eq_true rfl, rfl⟩ rfl ?_
  refine q_iconst (pc' := 68) ja_M_sign_67 rfl 2 (by decide) ?_
  refine q_iload_n (pc' := 69) ja_M_sign_68 rfl rfl ?_
  refine q_imul (pc' := 70) ja_M_sign_69 rfl ?_
  refine q_aload_n (pc' := 71) ja_M_sign_70 rfl rfl ?_
  refine q_getf (pc' := 74) (v := .int (s 146 0)) ja_M_sign_71 rfl (by decide) ⟨rfl, by decide⟩ rfl ?_
  refine q_ic_le (pc' := 77) ja_M_sign_74 rfl ?_ ?_
  · intro h1
    refine q_iload_n (pc' := 85) ja_M_sign_84 rfl rfl ?_
    exact q_iret ja_M_sign_85 rfl rfl (k1 h1)
  · intro h2
    refine q_aload_n (pc' := 78) ja_M_sign_77 rfl rfl ?_
    refine q_iload_n (pc' := 79) ja_M_sign_78 rfl rfl ?_
    refine q_virt (pc' := 82) (c := 146) (as := [.int x1]) (r := []) ja_M_sign_79 rfl rfl rfl (by decide) ⟨rfl, by decide⟩ ?_
    refine q_in (M := jm_M_lists) rfl (Nat.le_of_ble_eq_true rfl) (ls := [some (.ref 146), some (.int x1)]) rfl ?_
    refine q_aload_n (pc' := 1) ja_M_lists_0 rfl rfl ?_
    refine q_getf (pc' := 4) (v := .ref 152) ja_M_lists_1 rfl (by decide) ⟨rfl, by decide⟩ rfl ?_
    refine q_iload_n (pc' := 5) ja_M_lists_4 rfl rfl ?_
    refine q_iconst (pc' := 6) ja_M_lists_5 rfl 1 (by decide) ?_
    refine q_iast (pc' := 7) ja_M_lists_6 rfl (by decide) (l := 8) rfl (k2 h2) ?_
    intro s1 e1
    refine q_aload_n (pc' := 8) ja_M_lists_7 rfl rfl ?_
    refine q_getf (pc' := 11) (v := .ref 156) ja_M_lists_8 rfl (by decide) ⟨rfl, by decide⟩ rfl ?_
    refine q_aload_n (pc' := 12) ja_M_lists_11 rfl rfl ?_
    refine q_getf (pc' := 15) (v := .int (s1 146 11)) ja_M_lists_12 rfl (by decide) ⟨rfl, by decide⟩ rfl ?_
    refine q_iload_n (pc' := 16) ja_M_lists_15 rfl rfl ?_
    refine q_iast (pc' := 17) ja_M_lists_16 rfl (by decide) (l := 8) rfl (k3 h2 s1 e1) ?_
    intro s2 e2
    refine q_aload_n (pc' := 18) ja_M_lists_17 rfl rfl ?_
    refine q_dup (pc' := 19) ja_M_lists_18 rfl rfl ?_
    refine q_getf (pc' := 22) (v := .int (s2 146 11)) ja_M_lists_19 rfl (by decide) ⟨rfl, by decide⟩ rfl ?_
    refine q_iconst (pc' := 23) ja_M_lists_22 rfl 1 (by decide) ?_
    refine q_iadd (pc' := 24) ja_M_lists_23 rfl ?_
    refine q_putf (pc' := 27) ja_M_lists_24 rfl (by decide) rfl rfl rfl ?_
    intro s3 e3
    refine q_aload_n (pc' := 28) ja_M_lists_27 rfl rfl ?_
    refine q_getf (pc' := 31) (v := .int (s3 146 11)) ja_M_lists_28 rfl (by decide) ⟨rfl, by decide⟩ rfl ?_
    refine q_iconst (pc' := 32) ja_M_lists_31 rfl 1 (by decide) ?_
    refine q_isub (pc' := 33) ja_M_lists_32 rfl ?_
    refine q_iret ja_M_lists_33 rfl rfl ?_
    show q_W _ _ _ _ 82 [some (.ref 146), some (.int x1), some (.int x2), some (.int y0), none] [.int ((s3 146 11) - 1)] s3
    refine q_istore (pc' := 84) (ls' := [some (.ref 146), some (.int x1), some (.int x2), some (.int y0), some (.int ((s3 146 11) - 1))]) ja_M_sign_82 rfl ⟨Nat.le_of_ble_eq_true rfl, rfl⟩ rfl ?_
    refine q_iload_n (pc' := 85) ja_M_sign_84 rfl rfl ?_
    exact q_iret ja_M_sign_85 rfl rfl (k4 h2 s1 e1 s2 e2 s3 e3)
set_option maxRecDepth 20000 in
theorem t_M_spelled {G : jv_X} {d : Nat} {B : Option Value → jg_H → Prop} {s : jg_H} 
    (k1 : q_W G (d + 1) jm_M_spelled B 0 [some (.ref 146), none, none, none, none] [] s) :
    q_P G (d + 2) 137 [.ref 146] s B := by
  refine q_in (M := jm_M_spelled) rfl (Nat.le_of_ble_eq_true rfl) (ls := [some (.ref 146), none, none, none, none]) rfl ?_
  exact k1
set_option maxRecDepth 20000 in
theorem t_M_spelled_0 {G : jv_X} {d : Nat} {B : Option Value → jg_H → Prop} {s : jg_H} 
    (k1 : ¬ (s 146 40) < (s 146 38) → ∀ s1 : jg_H, s1 = jg_up s 146 42 2 → q_W G (d + 1) jm_M_spelled B 41 [some (.ref 146), some (.int 0), some (.int 0), some (.int 1), some (.int 0)] [] s1)
    (k2 : (s 146 40) < (s 146 38) → jv_in (s 146 40) 200 = true)
    (k3 : (s 146 40) < (s 146 38) → (s 162 (s 146 40).toNatClampNeg) < 97 → ∀ s2 : jg_H, s2 = jg_up s 146 42 2 → q_W G (d + 1) jm_M_spelled B 41 [some (.ref 146), some (.int 0), some (.int 0), some (.int 1), some (.int 0)] [] s2)
    (k4 : (s 146 40) < (s 146 38) → ¬ (s 162 (s 146 40).toNatClampNeg) < 97 → ¬ (s 162 (s 146 40).toNatClampNeg) ≤ 122 → ∀ s3 : jg_H, s3 = jg_up s 146 42 2 → q_W G (d + 1) jm_M_spelled B 41 [some (.ref 146), some (.int 0), some (.int 0), some (.int 1), some (.int 0)] [] s3)
    (k5 : (s 146 40) < (s 146 38) → ¬ (s 162 (s 146 40).toNatClampNeg) < 97 → (s 162 (s 146 40).toNatClampNeg) ≤ 122 → ∀ s4 : jg_H, s4 = jg_up s 146 40 ((s 146 40) + 1) → q_W G (d + 1) jm_M_spelled B 0 [some (.ref 146), none, none, none, none] [] s4) :
    q_W G (d + 1) jm_M_spelled B 0 [some (.ref 146), none, none, none, none] [] s := by
  refine q_aload_n (pc' := 1) ja_M_spelled_0 rfl rfl ?_
  refine q_aload_n (pc' := 2) ja_M_spelled_1 rfl rfl ?_
  refine q_getf (pc' := 5) (v := .int (s 146 40)) ja_M_spelled_2 rfl (by decide) ⟨rfl, by decide⟩ rfl ?_
  refine q_virt (pc' := 8) (c := 146) (as := [.int (s 146 40)]) (r := []) ja_M_spelled_5 rfl rfl rfl (by decide) ⟨rfl, by decide⟩ ?_
  refine q_in (M := jm_M_byteAt) rfl (Nat.le_of_ble_eq_true rfl) (ls := [some (.ref 146), some (.int (s 146 40))]) rfl ?_
  refine q_iload_n (pc' := 1) ja_M_byteAt_0 rfl rfl ?_
  refine q_aload_n (pc' := 2) ja_M_byteAt_1 rfl rfl ?_
  refine q_getf (pc' := 5) (v := .int (s 146 38)) ja_M_byteAt_2 rfl (by decide) ⟨rfl, by decide⟩ rfl ?_
  refine q_ic_ge (pc' := 8) ja_M_byteAt_5 rfl ?_ ?_
  · intro h1
    refine q_iconst (pc' := 18) ja_M_byteAt_17 rfl (-1) (by decide) ?_
    refine q_iret ja_M_byteAt_18 rfl rfl ?_
    show q_W _ _ _ _ 8 [some (.ref 146), none, none, none, none] [.int (-1)] s
    refine q_stat (pc' := 11) (as := [.int (-1)]) (r := []) ja_M_spelled_8 rfl (by decide) rfl rfl ?_
    refine q_in (M := jm_M_isLetter) rfl (Nat.le_of_ble_eq_true rfl) (ls := [some (.int (-1))]) rfl ?_
    refine q_iload_n (pc' := 1) ja_M_isLetter_0 rfl rfl ?_
    refine q_bipush (pc' := 3) ja_M_isLetter_1 rfl 97 (by decide) ?_
    refine q_ic_lt (pc' := 6) ja_M_isLetter_3 rfl (fun _ => ?_) (fun h => absurd ((by decide : (-1 : Int32) < 97)) h)
    refine q_iconst (pc' := 17) ja_M_isLetter_16 rfl 0 (by decide) ?_
    refine q_iret ja_M_isLetter_17 rfl (by decide) ?_
    show q_W _ _ _ _ 11 [some (.ref 146), none, none, none, none] [.int 0] s
    refine q_if_eq (pc' := 14) ja_M_spelled_11 rfl (fun _ => ?_) (fun h => absurd ((by decide : (0 : Int32) = 0)) h)
    refine q_iconst (pc' := 28) ja_M_spelled_27 rfl 0 (by decide) ?_
    refine q_istore_n (pc' := 29) (ls' := [some (.ref 146), some (.int 0), none, none, none]) ja_M_spelled_28 rfl ⟨Nat.le_of_ble_eq_true rfl, rfl⟩ rfl ?_
    refine q_iconst (pc' := 30) ja_M_spelled_29 rfl 0 (by decide) ?_
    refine q_istore_n (pc' := 31) (ls' := [some (.ref 146), some (.int 0), some (.int 0), none, none]) ja_M_spelled_30 rfl ⟨Nat.le_of_ble_eq_true rfl, rfl⟩ rfl ?_
    refine q_iconst (pc' := 32) ja_M_spelled_31 rfl 1 (by decide) ?_
    refine q_istore_n (pc' := 33) (ls' := [some (.ref 146), some (.int 0), some (.int 0), some (.int 1), none]) ja_M_spelled_32 rfl ⟨Nat.le_of_ble_eq_true rfl, rfl⟩ rfl ?_
    refine q_aload_n (pc' := 34) ja_M_spelled_33 rfl rfl ?_
    refine q_iconst (pc' := 35) ja_M_spelled_34 rfl 2 (by decide) ?_
    refine q_putf (pc' := 38) ja_M_spelled_35 rfl (by decide) rfl rfl rfl ?_
    intro s1 e1
    refine q_iconst (pc' := 39) ja_M_spelled_38 rfl 0 (by decide) ?_
    refine q_istore (pc' := 41) (ls' := [some (.ref 146), some (.int 0), some (.int 0), some (.int 1), some (.int 0)]) ja_M_spelled_39 rfl ⟨Nat.le_of_ble_eq_true rfl, rfl⟩ rfl ?_
    exact (k1 h1 s1 e1)
  · intro h2
    refine q_aload_n (pc' := 9) ja_M_byteAt_8 rfl rfl ?_
    refine q_getf (pc' := 12) (v := .ref 162) ja_M_byteAt_9 rfl (by decide) ⟨rfl, by decide⟩ rfl ?_
    refine q_iload_n (pc' := 13) ja_M_byteAt_12 rfl rfl ?_
    refine q_iald (pc' := 14) (v := .int (s 162 (s 146 40).toNatClampNeg)) ja_M_byteAt_13 rfl (by decide) (l := 200) rfl (k2 h2) rfl ?_
    refine q_goto ja_M_byteAt_14 ?_
    refine q_iret ja_M_byteAt_18 rfl rfl ?_
    show q_W _ _ _ _ 8 [some (.ref 146), none, none, none, none] [.int (s 162 (s 146 40).toNatClampNeg)] s
    refine q_stat (pc' := 11) (as := [.int (s 162 (s 146 40).toNatClampNeg)]) (r := []) ja_M_spelled_8 rfl (by decide) rfl rfl ?_
    refine q_in (M := jm_M_isLetter) rfl (Nat.le_of_ble_eq_true rfl) (ls := [some (.int (s 162 (s 146 40).toNatClampNeg))]) rfl ?_
    refine q_iload_n (pc' := 1) ja_M_isLetter_0 rfl rfl ?_
    refine q_bipush (pc' := 3) ja_M_isLetter_1 rfl 97 (by decide) ?_
    refine q_ic_lt (pc' := 6) ja_M_isLetter_3 rfl ?_ ?_
    · intro h3
      refine q_iconst (pc' := 17) ja_M_isLetter_16 rfl 0 (by decide) ?_
      refine q_iret ja_M_isLetter_17 rfl (by decide) ?_
      show q_W _ _ _ _ 11 [some (.ref 146), none, none, none, none] [.int 0] s
      refine q_if_eq (pc' := 14) ja_M_spelled_11 rfl (fun _ => ?_) (fun h => absurd ((by decide : (0 : Int32) = 0)) h)
      refine q_iconst (pc' := 28) ja_M_spelled_27 rfl 0 (by decide) ?_
      refine q_istore_n (pc' := 29) (ls' := [some (.ref 146), some (.int 0), none, none, none]) ja_M_spelled_28 rfl ⟨Nat.le_of_ble_eq_true rfl, rfl⟩ rfl ?_
      refine q_iconst (pc' := 30) ja_M_spelled_29 rfl 0 (by decide) ?_
      refine q_istore_n (pc' := 31) (ls' := [some (.ref 146), some (.int 0), some (.int 0), none, none]) ja_M_spelled_30 rfl ⟨Nat.le_of_ble_eq_true rfl, rfl⟩ rfl ?_
      refine q_iconst (pc' := 32) ja_M_spelled_31 rfl 1 (by decide) ?_
      refine q_istore_n (pc' := 33) (ls' := [some (.ref 146), some (.int 0), some (.int 0), some (.int 1), none]) ja_M_spelled_32 rfl ⟨Nat.le_of_ble_eq_true rfl, rfl⟩ rfl ?_
      refine q_aload_n (pc' := 34) ja_M_spelled_33 rfl rfl ?_
      refine q_iconst (pc' := 35) ja_M_spelled_34 rfl 2 (by decide) ?_
      refine q_putf (pc' := 38) ja_M_spelled_35 rfl (by decide) rfl rfl rfl ?_
      intro s2 e2
      refine q_iconst (pc' := 39) ja_M_spelled_38 rfl 0 (by decide) ?_
      refine q_istore (pc' := 41) (ls' := [some (.ref 146), some (.int 0), some (.int 0), some (.int 1), some (.int 0)]) ja_M_spelled_39 rfl ⟨Nat.le_of_ble_eq_true rfl, rfl⟩ rfl ?_
      exact (k3 h2 h3 s2 e2)
    · intro h4
      refine q_iload_n (pc' := 7) ja_M_isLetter_6 rfl rfl ?_
      refine q_bipush (pc' := 9) ja_M_isLetter_7 rfl 122 (by decide) ?_
      refine q_ic_gt (pc' := 12) ja_M_isLetter_9 rfl ?_ ?_
      · intro h5
        refine q_iconst (pc' := 17) ja_M_isLetter_16 rfl 0 (by decide) ?_
        refine q_iret ja_M_isLetter_17 rfl (by decide) ?_
        show q_W _ _ _ _ 11 [some (.ref 146), none, none, none, none] [.int 0] s
        refine q_if_eq (pc' := 14) ja_M_spelled_11 rfl (fun _ => ?_) (fun h => absurd ((by decide : (0 : Int32) = 0)) h)
        refine q_iconst (pc' := 28) ja_M_spelled_27 rfl 0 (by decide) ?_
        refine q_istore_n (pc' := 29) (ls' := [some (.ref 146), some (.int 0), none, none, none]) ja_M_spelled_28 rfl ⟨Nat.le_of_ble_eq_true rfl, rfl⟩ rfl ?_
        refine q_iconst (pc' := 30) ja_M_spelled_29 rfl 0 (by decide) ?_
        refine q_istore_n (pc' := 31) (ls' := [some (.ref 146), some (.int 0), some (.int 0), none, none]) ja_M_spelled_30 rfl ⟨Nat.le_of_ble_eq_true rfl, rfl⟩ rfl ?_
        refine q_iconst (pc' := 32) ja_M_spelled_31 rfl 1 (by decide) ?_
        refine q_istore_n (pc' := 33) (ls' := [some (.ref 146), some (.int 0), some (.int 0), some (.int 1), none]) ja_M_spelled_32 rfl ⟨Nat.le_of_ble_eq_true rfl, rfl⟩ rfl ?_
        refine q_aload_n (pc' := 34) ja_M_spelled_33 rfl rfl ?_
        refine q_iconst (pc' := 35) ja_M_spelled_34 rfl 2 (by decide) ?_
        refine q_putf (pc' := 38) ja_M_spelled_35 rfl (by decide) rfl rfl rfl ?_
        intro s3 e3
        refine q_iconst (pc' := 39) ja_M_spelled_38 rfl 0 (by decide) ?_
        refine q_istore (pc' := 41) (ls' := [some (.ref 146), some (.int 0), some (.int 0), some (.int 1), some (.int 0)]) ja_M_spelled_39 rfl ⟨Nat.le_of_ble_eq_true rfl, rfl⟩ rfl ?_
        exact (k4 h2 h4 h5 s3 e3)
      · intro h6
        refine q_iconst (pc' := 13) ja_M_isLetter_12 rfl 1 (by decide) ?_
        refine q_goto ja_M_isLetter_13 ?_
        refine q_iret ja_M_isLetter_17 rfl (by decide) ?_
        show q_W _ _ _ _ 11 [some (.ref 146), none, none, none, none] [.int 1] s
        refine q_if_eq (pc' := 14) ja_M_spelled_11 rfl (fun h => absurd h ((by decide : ¬ (1 : Int32) = 0))) (fun _ => ?_)
        refine q_aload_n (pc' := 15) ja_M_spelled_14 rfl rfl ?_
        refine q_dup (pc' := 16) ja_M_spelled_15 rfl rfl ?_
        refine q_getf (pc' := 19) (v := .int (s 146 40)) ja_M_spelled_16 rfl (by decide) ⟨rfl, by decide⟩ rfl ?_
        refine q_iconst (pc' := 20) ja_M_spelled_19 rfl 1 (by decide) ?_
        refine q_iadd (pc' := 21) ja_M_spelled_20 rfl ?_
        refine q_putf (pc' := 24) ja_M_spelled_21 rfl (by decide) rfl rfl rfl ?_
        intro s4 e4
        refine q_goto ja_M_spelled_24 ?_
        exact (k5 h2 h4 h6 s4 e4)
set_option maxRecDepth 20000 in
theorem t_M_spelled_41 {G : jv_X} {d : Nat} {B : Option Value → jg_H → Prop} {s : jg_H} (x1 : Int32) (x2 : Int32) (x3 : Int32) (x4 : Int32)
    (k1 : ¬ x4 < 77 → B none s)
    (k2 : x4 < 77 → jv_in x4 77 = true)
    (k3 : x4 < 77 → ¬ (s 169 x4.toNatClampNeg) = 0 → x3 = 0 → q_W G (d + 1) jm_M_spelled B 41 [some (.ref 146), some (.int x1), some (.int (x2 + 1)), some (.int 0), some (.int (x4 + 1))] [] s)
    (k4 : x4 < 77 → ¬ (s 169 x4.toNatClampNeg) = 0 → ¬ x3 = 0 → ¬ ((s 146 41) + x2) < (s 146 38) → jv_in x4 77 = true)
    (k5 : x4 < 77 → ¬ (s 169 x4.toNatClampNeg) = 0 → ¬ x3 = 0 → ¬ ((s 146 41) + x2) < (s 146 38) → ¬ (-1) = (s 169 x4.toNatClampNeg) → q_W G (d + 1) jm_M_spelled B 41 [some (.ref 146), some (.int x1), some (.int (x2 + 1)), some (.int 0), some (.int (x4 + 1))] [] s)
    (k6 : x4 < 77 → ¬ (s 169 x4.toNatClampNeg) = 0 → ¬ x3 = 0 → ¬ ((s 146 41) + x2) < (s 146 38) → (-1) = (s 169 x4.toNatClampNeg) → ¬ x2 < ((s 146 40) - (s 146 41)) → q_W G (d + 1) jm_M_spelled B 41 [some (.ref 146), some (.int x1), some (.int (x2 + 1)), some (.int 0), some (.int (x4 + 1))] [] s)
    (k7 : x4 < 77 → ¬ (s 169 x4.toNatClampNeg) = 0 → ¬ x3 = 0 → ¬ ((s 146 41) + x2) < (s 146 38) → (-1) = (s 169 x4.toNatClampNeg) → x2 < ((s 146 40) - (s 146 41)) → q_W G (d + 1) jm_M_spelled B 41 [some (.ref 146), some (.int x1), some (.int (x2 + 1)), some (.int 1), some (.int (x4 + 1))] [] s)
    (k8 : x4 < 77 → ¬ (s 169 x4.toNatClampNeg) = 0 → ¬ x3 = 0 → ((s 146 41) + x2) < (s 146 38) → jv_in ((s 146 41) + x2) 200 = true)
    (k9 : x4 < 77 → ¬ (s 169 x4.toNatClampNeg) = 0 → ¬ x3 = 0 → ((s 146 41) + x2) < (s 146 38) → jv_in x4 77 = true)
    (k10 : x4 < 77 → ¬ (s 169 x4.toNatClampNeg) = 0 → ¬ x3 = 0 → ((s 146 41) + x2) < (s 146 38) → ¬ (s 162 ((s 146 41) + x2).toNatClampNeg) = (s 169 x4.toNatClampNeg) → q_W G (d + 1) jm_M_spelled B 41 [some (.ref 146), some (.int x1), some (.int (x2 + 1)), some (.int 0), some (.int (x4 + 1))] [] s)
    (k11 : x4 < 77 → ¬ (s 169 x4.toNatClampNeg) = 0 → ¬ x3 = 0 → ((s 146 41) + x2) < (s 146 38) → (s 162 ((s 146 41) + x2).toNatClampNeg) = (s 169 x4.toNatClampNeg) → ¬ x2 < ((s 146 40) - (s 146 41)) → q_W G (d + 1) jm_M_spelled B 41 [some (.ref 146), some (.int x1), some (.int (x2 + 1)), some (.int 0), some (.int (x4 + 1))] [] s)
    (k12 : x4 < 77 → ¬ (s 169 x4.toNatClampNeg) = 0 → ¬ x3 = 0 → ((s 146 41) + x2) < (s 146 38) → (s 162 ((s 146 41) + x2).toNatClampNeg) = (s 169 x4.toNatClampNeg) → x2 < ((s 146 40) - (s 146 41)) → q_W G (d + 1) jm_M_spelled B 41 [some (.ref 146), some (.int x1), some (.int (x2 + 1)), some (.int 1), some (.int (x4 + 1))] [] s)
    (k13 : x4 < 77 → (s 169 x4.toNatClampNeg) = 0 → x3 = 0 → q_W G (d + 1) jm_M_spelled B 41 [some (.ref 146), some (.int (x1 + 1)), some (.int 0), some (.int 1), some (.int (x4 + 1))] [] s)
    (k14 : x4 < 77 → (s 169 x4.toNatClampNeg) = 0 → ¬ x3 = 0 → ¬ x2 = ((s 146 40) - (s 146 41)) → q_W G (d + 1) jm_M_spelled B 41 [some (.ref 146), some (.int (x1 + 1)), some (.int 0), some (.int 1), some (.int (x4 + 1))] [] s)
    (k15 : x4 < 77 → (s 169 x4.toNatClampNeg) = 0 → ¬ x3 = 0 → x2 = ((s 146 40) - (s 146 41)) → ¬ x1 < 8 → ∀ s1 : jg_H, s1 = jg_up s 146 42 ((300 + x1) - 8) → ∀ s2 : jg_H, s2 = jg_up s1 146 43 x1 → q_W G (d + 1) jm_M_spelled B 41 [some (.ref 146), some (.int (x1 + 1)), some (.int 0), some (.int 1), some (.int (x4 + 1))] [] s2)
    (k16 : x4 < 77 → (s 169 x4.toNatClampNeg) = 0 → ¬ x3 = 0 → x2 = ((s 146 40) - (s 146 41)) → x1 < 8 → ∀ s3 : jg_H, s3 = jg_up s 146 42 3 → ∀ s4 : jg_H, s4 = jg_up s3 146 43 x1 → q_W G (d + 1) jm_M_spelled B 41 [some (.ref 146), some (.int (x1 + 1)), some (.int 0), some (.int 1), some (.int (x4 + 1))] [] s4) :
    q_W G (d + 1) jm_M_spelled B 41 [some (.ref 146), some (.int x1), some (.int x2), some (.int x3), some (.int x4)] [] s := by
  refine q_iload (pc' := 43) ja_M_spelled_41 rfl rfl ?_
  refine q_aload_n (pc' := 44) ja_M_spelled_43 rfl rfl ?_
  refine q_getf (pc' := 47) (v := .ref 169) ja_M_spelled_44 rfl (by decide) ⟨rfl, by decide⟩ rfl ?_
  refine q_alen (pc' := 48) ja_M_spelled_47 rfl (by decide) (kd := 13) (l := 77) rfl (by decide) (v := 77) (by decide) ?_
  refine q_ic_ge (pc' := 51) ja_M_spelled_48 rfl ?_ ?_
  · intro h1
    exact q_vret ja_M_spelled_167 rfl (k1 h1)
  · intro h2
    refine q_aload_n (pc' := 52) ja_M_spelled_51 rfl rfl ?_
    refine q_getf (pc' := 55) (v := .ref 169) ja_M_spelled_52 rfl (by decide) ⟨rfl, by decide⟩ rfl ?_
    refine q_iload (pc' := 57) ja_M_spelled_55 rfl rfl ?_
    refine q_iald (pc' := 58) (v := .int (s 169 x4.toNatClampNeg)) ja_M_spelled_57 rfl (by decide) (l := 77) rfl (k2 h2) rfl ?_
    refine q_if_ne (pc' := 61) ja_M_spelled_58 rfl ?_ ?_
    · intro h3
      refine q_iload_n (pc' := 116) ja_M_spelled_115 rfl rfl ?_
      refine q_if_eq (pc' := 119) ja_M_spelled_116 rfl ?_ ?_
      · intro h4
        refine q_iconst (pc' := 157) ja_M_spelled_156 rfl 0 (by decide) ?_
        refine q_istore_n (pc' := 158) (ls' := [some (.ref 146), some (.int x1), some (.int x2), some (.int 0), some (.int x4)]) ja_M_spelled_157 rfl ⟨Nat.le_of_ble_eq_true rfl, rfl⟩ rfl ?_
        refine q_iinc (pc' := 161) (ls' := [some (.ref 146), some (.int x1), some (.int (x2 + 1)), some (.int 0), some (.int x4)]) ja_M_spelled_158 rfl rfl (x2 + 1) rfl ⟨Nat.le_of_ble_eq_true rfl, rfl⟩ rfl ?_
        refine q_iinc (pc' := 164) (ls' := [some (.ref 146), some (.int x1), some (.int (x2 + 1)), some (.int 0), some (.int (x4 + 1))]) ja_M_spelled_161 rfl rfl (x4 + 1) rfl ⟨Nat.le_of_ble_eq_true rfl, rfl⟩ rfl ?_
        refine q_goto ja_M_spelled_164 ?_
        exact (k3 h2 h3 h4)
      · intro h5
        refine q_aload_n (pc' := 120) ja_M_spelled_119 rfl rfl ?_
        refine q_aload_n (pc' := 121) ja_M_spelled_120 rfl rfl ?_
        refine q_getf (pc' := 124) (v := .int (s 146 41)) ja_M_spelled_121 rfl (by decide) ⟨rfl, by decide⟩ rfl ?_
        refine q_iload_n (pc' := 125) ja_M_spelled_124 rfl rfl ?_
        refine q_iadd (pc' := 126) ja_M_spelled_125 rfl ?_
        refine q_virt (pc' := 129) (c := 146) (as := [.int ((s 146 41) + x2)]) (r := []) ja_M_spelled_126 rfl rfl rfl (by decide) ⟨rfl, by decide⟩ ?_
        refine q_in (M := jm_M_byteAt) rfl (Nat.le_of_ble_eq_true rfl) (ls := [some (.ref 146), some (.int ((s 146 41) + x2))]) rfl ?_
        refine q_iload_n (pc' := 1) ja_M_byteAt_0 rfl rfl ?_
        refine q_aload_n (pc' := 2) ja_M_byteAt_1 rfl rfl ?_
        refine q_getf (pc' := 5) (v := .int (s 146 38)) ja_M_byteAt_2 rfl (by decide) ⟨rfl, by decide⟩ rfl ?_
        refine q_ic_ge (pc' := 8) ja_M_byteAt_5 rfl ?_ ?_
        · intro h6
          refine q_iconst (pc' := 18) ja_M_byteAt_17 rfl (-1) (by decide) ?_
          refine q_iret ja_M_byteAt_18 rfl rfl ?_
          show q_W _ _ _ _ 129 [some (.ref 146), some (.int x1), some (.int x2), some (.int x3), some (.int x4)] [.int (-1)] s
          refine q_aload_n (pc' := 130) ja_M_spelled_129 rfl rfl ?_
          refine q_getf (pc' := 133) (v := .ref 169) ja_M_spelled_130 rfl (by decide) ⟨rfl, by decide⟩ rfl ?_
          refine q_iload (pc' := 135) ja_M_spelled_133 rfl rfl ?_
          refine q_iald (pc' := 136) (v := .int (s 169 x4.toNatClampNeg)) ja_M_spelled_135 rfl (by decide) (l := 77) rfl (k4 h2 h3 h5 h6) rfl ?_
          refine q_ic_ne (pc' := 139) ja_M_spelled_136 rfl ?_ ?_
          · intro h7
            refine q_iconst (pc' := 157) ja_M_spelled_156 rfl 0 (by decide) ?_
            refine q_istore_n (pc' := 158) (ls' := [some (.ref 146), some (.int x1), some (.int x2), some (.int 0), some (.int x4)]) ja_M_spelled_157 rfl ⟨Nat.le_of_ble_eq_true rfl, rfl⟩ rfl ?_
            refine q_iinc (pc' := 161) (ls' := [some (.ref 146), some (.int x1), some (.int (x2 + 1)), some (.int 0), some (.int x4)]) ja_M_spelled_158 rfl rfl (x2 + 1) rfl ⟨Nat.le_of_ble_eq_true rfl, rfl⟩ rfl ?_
            refine q_iinc (pc' := 164) (ls' := [some (.ref 146), some (.int x1), some (.int (x2 + 1)), some (.int 0), some (.int (x4 + 1))]) ja_M_spelled_161 rfl rfl (x4 + 1) rfl ⟨Nat.le_of_ble_eq_true rfl, rfl⟩ rfl ?_
            refine q_goto ja_M_spelled_164 ?_
            exact (k5 h2 h3 h5 h6 h7)
          · intro h8
            refine q_iload_n (pc' := 140) ja_M_spelled_139 rfl rfl ?_
            refine q_aload_n (pc' := 141) ja_M_spelled_140 rfl rfl ?_
            refine q_getf (pc' := 144) (v := .int (s 146 40)) ja_M_spelled_141 rfl (by decide) ⟨rfl, by decide⟩ rfl ?_
            refine q_aload_n (pc' := 145) ja_M_spelled_144 rfl rfl ?_
            refine q_getf (pc' := 148) (v := .int (s 146 41)) ja_M_spelled_145 rfl (by decide) ⟨rfl, by decide⟩ rfl ?_
            refine q_isub (pc' := 149) ja_M_spelled_148 rfl ?_
            refine q_ic_ge (pc' := 152) ja_M_spelled_149 rfl ?_ ?_
            · intro h9
              refine q_iconst (pc' := 157) ja_M_spelled_156 rfl 0 (by decide) ?_
              refine q_istore_n (pc' := 158) (ls' := [some (.ref 146), some (.int x1), some (.int x2), some (.int 0), some (.int x4)]) ja_M_spelled_157 rfl ⟨Nat.le_of_ble_eq_true rfl, rfl⟩ rfl ?_
              refine q_iinc (pc' := 161) (ls' := [some (.ref 146), some (.int x1), some (.int (x2 + 1)), some (.int 0), some (.int x4)]) ja_M_spelled_158 rfl rfl (x2 + 1) rfl ⟨Nat.le_of_ble_eq_true rfl, rfl⟩ rfl ?_
              refine q_iinc (pc' := 164) (ls' := [some (.ref 146), some (.int x1), some (.int (x2 + 1)), some (.int 0), some (.int (x4 + 1))]) ja_M_spelled_161 rfl rfl (x4 + 1) rfl ⟨Nat.le_of_ble_eq_true rfl, rfl⟩ rfl ?_
              refine q_goto ja_M_spelled_164 ?_
              exact (k6 h2 h3 h5 h6 h8 h9)
            · intro h10
              refine q_iconst (pc' := 153) ja_M_spelled_152 rfl 1 (by decide) ?_
              refine q_goto ja_M_spelled_153 ?_
              refine q_istore_n (pc' := 158) (ls' := [some (.ref 146), some (.int x1), some (.int x2), some (.int 1), some (.int x4)]) ja_M_spelled_157 rfl ⟨Nat.le_of_ble_eq_true rfl, rfl⟩ rfl ?_
              refine q_iinc (pc' := 161) (ls' := [some (.ref 146), some (.int x1), some (.int (x2 + 1)), some (.int 1), some (.int x4)]) ja_M_spelled_158 rfl rfl (x2 + 1) rfl ⟨Nat.le_of_ble_eq_true rfl, rfl⟩ rfl ?_
              refine q_iinc (pc' := 164) (ls' := [some (.ref 146), some (.int x1), some (.int (x2 + 1)), some (.int 1), some (.int (x4 + 1))]) ja_M_spelled_161 rfl rfl (x4 + 1) rfl ⟨Nat.le_of_ble_eq_true rfl, rfl⟩ rfl ?_
              refine q_goto ja_M_spelled_164 ?_
              exact (k7 h2 h3 h5 h6 h8 h10)
        · intro h11
          refine q_aload_n (pc' := 9) ja_M_byteAt_8 rfl rfl ?_
          refine q_getf (pc' := 12) (v := .ref 162) ja_M_byteAt_9 rfl (by decide) ⟨rfl, by decide⟩ rfl ?_
          refine q_iload_n (pc' := 13) ja_M_byteAt_12 rfl rfl ?_
          refine q_iald (pc' := 14) (v := .int (s 162 ((s 146 41) + x2).toNatClampNeg)) ja_M_byteAt_13 rfl (by decide) (l := 200) rfl (k8 h2 h3 h5 h11) rfl ?_
          refine q_goto ja_M_byteAt_14 ?_
          refine q_iret ja_M_byteAt_18 rfl rfl ?_
          show q_W _ _ _ _ 129 [some (.ref 146), some (.int x1), some (.int x2), some (.int x3), some (.int x4)] [.int (s 162 ((s 146 41) + x2).toNatClampNeg)] s
          refine q_aload_n (pc' := 130) ja_M_spelled_129 rfl rfl ?_
          refine q_getf (pc' := 133) (v := .ref 169) ja_M_spelled_130 rfl (by decide) ⟨rfl, by decide⟩ rfl ?_
          refine q_iload (pc' := 135) ja_M_spelled_133 rfl rfl ?_
          refine q_iald (pc' := 136) (v := .int (s 169 x4.toNatClampNeg)) ja_M_spelled_135 rfl (by decide) (l := 77) rfl (k9 h2 h3 h5 h11) rfl ?_
          refine q_ic_ne (pc' := 139) ja_M_spelled_136 rfl ?_ ?_
          · intro h12
            refine q_iconst (pc' := 157) ja_M_spelled_156 rfl 0 (by decide) ?_
            refine q_istore_n (pc' := 158) (ls' := [some (.ref 146), some (.int x1), some (.int x2), some (.int 0), some (.int x4)]) ja_M_spelled_157 rfl ⟨Nat.le_of_ble_eq_true rfl, rfl⟩ rfl ?_
            refine q_iinc (pc' := 161) (ls' := [some (.ref 146), some (.int x1), some (.int (x2 + 1)), some (.int 0), some (.int x4)]) ja_M_spelled_158 rfl rfl (x2 + 1) rfl ⟨Nat.le_of_ble_eq_true rfl, rfl⟩ rfl ?_
            refine q_iinc (pc' := 164) (ls' := [some (.ref 146), some (.int x1), some (.int (x2 + 1)), some (.int 0), some (.int (x4 + 1))]) ja_M_spelled_161 rfl rfl (x4 + 1) rfl ⟨Nat.le_of_ble_eq_true rfl, rfl⟩ rfl ?_
            refine q_goto ja_M_spelled_164 ?_
            exact (k10 h2 h3 h5 h11 h12)
          · intro h13
            refine q_iload_n (pc' := 140) ja_M_spelled_139 rfl rfl ?_
            refine q_aload_n (pc' := 141) ja_M_spelled_140 rfl rfl ?_
            refine q_getf (pc' := 144) (v := .int (s 146 40)) ja_M_spelled_141 rfl (by decide) ⟨rfl, by decide⟩ rfl ?_
            refine q_aload_n (pc' := 145) ja_M_spelled_144 rfl rfl ?_
            refine q_getf (pc' := 148) (v := .int (s 146 41)) ja_M_spelled_145 rfl (by decide) ⟨rfl, by decide⟩ rfl ?_
            refine q_isub (pc' := 149) ja_M_spelled_148 rfl ?_
            refine q_ic_ge (pc' := 152) ja_M_spelled_149 rfl ?_ ?_
            · intro h14
              refine q_iconst (pc' := 157) ja_M_spelled_156 rfl 0 (by decide) ?_
              refine q_istore_n (pc' := 158) (ls' := [some (.ref 146), some (.int x1), some (.int x2), some (.int 0), some (.int x4)]) ja_M_spelled_157 rfl ⟨Nat.le_of_ble_eq_true rfl, rfl⟩ rfl ?_
              refine q_iinc (pc' := 161) (ls' := [some (.ref 146), some (.int x1), some (.int (x2 + 1)), some (.int 0), some (.int x4)]) ja_M_spelled_158 rfl rfl (x2 + 1) rfl ⟨Nat.le_of_ble_eq_true rfl, rfl⟩ rfl ?_
              refine q_iinc (pc' := 164) (ls' := [some (.ref 146), some (.int x1), some (.int (x2 + 1)), some (.int 0), some (.int (x4 + 1))]) ja_M_spelled_161 rfl rfl (x4 + 1) rfl ⟨Nat.le_of_ble_eq_true rfl, rfl⟩ rfl ?_
              refine q_goto ja_M_spelled_164 ?_
              exact (k11 h2 h3 h5 h11 h13 h14)
            · intro h15
              refine q_iconst (pc' := 153) ja_M_spelled_152 rfl 1 (by decide) ?_
              refine q_goto ja_M_spelled_153 ?_
              refine q_istore_n (pc' := 158) (ls' := [some (.ref 146), some (.int x1), some (.int x2), some (.int 1), some (.int x4)]) ja_M_spelled_157 rfl ⟨Nat.le_of_ble_eq_true rfl, rfl⟩ rfl ?_
              refine q_iinc (pc' := 161) (ls' := [some (.ref 146), some (.int x1), some (.int (x2 + 1)), some (.int 1), some (.int x4)]) ja_M_spelled_158 rfl rfl (x2 + 1) rfl ⟨Nat.le_of_ble_eq_true rfl, rfl⟩ rfl ?_
              refine q_iinc (pc' := 164) (ls' := [some (.ref 146), some (.int x1), some (.int (x2 + 1)), some (.int 1), some (.int (x4 + 1))]) ja_M_spelled_161 rfl rfl (x4 + 1) rfl ⟨Nat.le_of_ble_eq_true rfl, rfl⟩ rfl ?_
              refine q_goto ja_M_spelled_164 ?_
              exact (k12 h2 h3 h5 h11 h13 h15)
    · intro h16
      refine q_iload_n (pc' := 62) ja_M_spelled_61 rfl rfl ?_
      refine q_if_eq (pc' := 65) ja_M_spelled_62 rfl ?_ ?_
      · intro h17
        refine q_iinc (pc' := 108) (ls' := [some (.ref 146), some (.int (x1 + 1)), some (.int x2), some (.int x3), some (.int x4)]) ja_M_spelled_105 rfl rfl (x1 + 1) rfl ⟨Nat.le_of_ble_eq_true rfl, rfl⟩ rfl ?_
        refine q_iconst (pc' := 109) ja_M_spelled_108 rfl 0 (by decide) ?_
        refine q_istore_n (pc' := 110) (ls' := [some (.ref 146), some (.int (x1 + 1)), some (.int 0), some (.int x3), some (.int x4)]) ja_M_spelled_109 rfl ⟨Nat.le_of_ble_eq_true rfl, rfl⟩ rfl ?_
        refine q_iconst (pc' := 111) ja_M_spelled_110 rfl 1 (by decide) ?_
        refine q_istore_n (pc' := 112) (ls' := [some (.ref 146), some (.int (x1 + 1)), some (.int 0), some (.int 1), some (.int x4)]) ja_M_spelled_111 rfl ⟨Nat.le_of_ble_eq_true rfl, rfl⟩ rfl ?_
        refine q_goto ja_M_spelled_112 ?_
        refine q_iinc (pc' := 164) (ls' := [some (.ref 146), some (.int (x1 + 1)), some (.int 0), some (.int 1), some (.int (x4 + 1))]) ja_M_spelled_161 rfl rfl (x4 + 1) rfl ⟨Nat.le_of_ble_eq_true rfl, rfl⟩ rfl ?_
        refine q_goto ja_M_spelled_164 ?_
        exact (k13 h2 h16 h17)
      · intro h18
        refine q_iload_n (pc' := 66) ja_M_spelled_65 rfl rfl ?_
        refine q_aload_n (pc' := 67) ja_M_spelled_66 rfl rfl ?_
        refine q_getf (pc' := 70) (v := .int (s 146 40)) ja_M_spelled_67 rfl (by decide) ⟨rfl, by decide⟩ rfl ?_
        refine q_aload_n (pc' := 71) ja_M_spelled_70 rfl rfl ?_
        refine q_getf (pc' := 74) (v := .int (s 146 41)) ja_M_spelled_71 rfl (by decide) ⟨rfl, by decide⟩ rfl ?_
        refine q_isub (pc' := 75) ja_M_spelled_74 rfl ?_
        refine q_ic_ne (pc' := 78) ja_M_spelled_75 rfl ?_ ?_
        · intro h19
          refine q_iinc (pc' := 108) (ls' := [some (.ref 146), some (.int (x1 + 1)), some (.int x2), some (.int x3), some (.int x4)]) ja_M_spelled_105 rfl rfl (x1 + 1) rfl ⟨Nat.le_of_ble_eq_true rfl, rfl⟩ rfl ?_
          refine q_iconst (pc' := 109) ja_M_spelled_108 rfl 0 (by decide) ?_
          refine q_istore_n (pc' := 110) (ls' := [some (.ref 146), some (.int (x1 + 1)), some (.int 0), some (.int x3), some (.int x4)]) ja_M_spelled_109 rfl ⟨Nat.le_of_ble_eq_true rfl, rfl⟩ rfl ?_
          refine q_iconst (pc' := 111) ja_M_spelled_110 rfl 1 (by decide) ?_
          refine q_istore_n (pc' := 112) (ls' := [some (.ref 146), some (.int (x1 + 1)), some (.int 0), some (.int 1), some (.int x4)]) ja_M_spelled_111 rfl ⟨Nat.le_of_ble_eq_true rfl, rfl⟩ rfl ?_
          refine q_goto ja_M_spelled_112 ?_
          refine q_iinc (pc' := 164) (ls' := [some (.ref 146), some (.int (x1 + 1)), some (.int 0), some (.int 1), some (.int (x4 + 1))]) ja_M_spelled_161 rfl rfl (x4 + 1) rfl ⟨Nat.le_of_ble_eq_true rfl, rfl⟩ rfl ?_
          refine q_goto ja_M_spelled_164 ?_
          exact (k14 h2 h16 h18 h19)
        · intro h20
          refine q_aload_n (pc' := 79) ja_M_spelled_78 rfl rfl ?_
          refine q_iload_n (pc' := 80) ja_M_spelled_79 rfl rfl ?_
          refine q_bipush (pc' := 82) ja_M_spelled_80 rfl 8 (by decide) ?_
          refine q_ic_ge (pc' := 85) ja_M_spelled_82 rfl ?_ ?_
          · intro h21
            refine q_sipush (pc' := 92) ja_M_spelled_89 rfl 300 (by decide) ?_
            refine q_iload_n (pc' := 93) ja_M_spelled_92 rfl rfl ?_
            refine q_iadd (pc' := 94) ja_M_spelled_93 rfl ?_
            refine q_bipush (pc' := 96) ja_M_spelled_94 rfl 8 (by decide) ?_
            refine q_isub (pc' := 97) ja_M_spelled_96 rfl ?_
            refine q_putf (pc' := 100) ja_M_spelled_97 rfl (by decide) rfl rfl rfl ?_
            intro s1 e1
            refine q_aload_n (pc' := 101) ja_M_spelled_100 rfl rfl ?_
            refine q_iload_n (pc' := 102) ja_M_spelled_101 rfl rfl ?_
            refine q_putf (pc' := 105) ja_M_spelled_102 rfl (by decide) rfl rfl rfl ?_
            intro s2 e2
            refine q_iinc (pc' := 108) (ls' := [some (.ref 146), some (.int (x1 + 1)), some (.int x2), some (.int x3), some (.int x4)]) ja_M_spelled_105 rfl rfl (x1 + 1) rfl ⟨Nat.le_of_ble_eq_true rfl, rfl⟩ rfl ?_
            refine q_iconst (pc' := 109) ja_M_spelled_108 rfl 0 (by decide) ?_
            refine q_istore_n (pc' := 110) (ls' := [some (.ref 146), some (.int (x1 + 1)), some (.int 0), some (.int x3), some (.int x4)]) ja_M_spelled_109 rfl ⟨Nat.le_of_ble_eq_true rfl, rfl⟩ rfl ?_
            refine q_iconst (pc' := 111) ja_M_spelled_110 rfl 1 (by decide) ?_
            refine q_istore_n (pc' := 112) (ls' := [some (.ref 146), some (.int (x1 + 1)), some (.int 0), some (.int 1), some (.int x4)]) ja_M_spelled_111 rfl ⟨Nat.le_of_ble_eq_true rfl, rfl⟩ rfl ?_
            refine q_goto ja_M_spelled_112 ?_
            refine q_iinc (pc' := 164) (ls' := [some (.ref 146), some (.int (x1 + 1)), some (.int 0), some (.int 1), some (.int (x4 + 1))]) ja_M_spelled_161 rfl rfl (x4 + 1) rfl ⟨Nat.le_of_ble_eq_true rfl, rfl⟩ rfl ?_
            refine q_goto ja_M_spelled_164 ?_
            exact (k15 h2 h16 h18 h20 h21 s1 e1 s2 e2)
          · intro h22
            refine q_iconst (pc' := 86) ja_M_spelled_85 rfl 3 (by decide) ?_
            refine q_goto ja_M_spelled_86 ?_
            refine q_putf (pc' := 100) ja_M_spelled_97 rfl (by decide) rfl rfl rfl ?_
            intro s3 e3
            refine q_aload_n (pc' := 101) ja_M_spelled_100 rfl rfl ?_
            refine q_iload_n (pc' := 102) ja_M_spelled_101 rfl rfl ?_
            refine q_putf (pc' := 105) ja_M_spelled_102 rfl (by decide) rfl rfl rfl ?_
            intro s4 e4
            refine q_iinc (pc' := 108) (ls' := [some (.ref 146), some (.int (x1 + 1)), some (.int x2), some (.int x3), some (.int x4)]) ja_M_spelled_105 rfl rfl (x1 + 1) rfl ⟨Nat.le_of_ble_eq_true rfl, rfl⟩ rfl ?_
            refine q_iconst (pc' := 109) ja_M_spelled_108 rfl 0 (by decide) ?_
            refine q_istore_n (pc' := 110) (ls' := [some (.ref 146), some (.int (x1 + 1)), some (.int 0), some (.int x3), some (.int x4)]) ja_M_spelled_109 rfl ⟨Nat.le_of_ble_eq_true rfl, rfl⟩ rfl ?_
            refine q_iconst (pc' := 111) ja_M_spelled_110 rfl 1 (by decide) ?_
            refine q_istore_n (pc' := 112) (ls' := [some (.ref 146), some (.int (x1 + 1)), some (.int 0), some (.int 1), some (.int x4)]) ja_M_spelled_111 rfl ⟨Nat.le_of_ble_eq_true rfl, rfl⟩ rfl ?_
            refine q_goto ja_M_spelled_112 ?_
            refine q_iinc (pc' := 164) (ls' := [some (.ref 146), some (.int (x1 + 1)), some (.int 0), some (.int 1), some (.int (x4 + 1))]) ja_M_spelled_161 rfl rfl (x4 + 1) rfl ⟨Nat.le_of_ble_eq_true rfl, rfl⟩ rfl ?_
            refine q_goto ja_M_spelled_164 ?_
            exact (k16 h2 h16 h18 h20 h22 s3 e3 s4 e4)
set_option maxRecDepth 20000 in
theorem t_M_taken {G : jv_X} {d : Nat} {B : Option Value → jg_H → Prop} {s : jg_H} (a1 : Int32) (a2 : Int32)
    (k1 : a2 < 0 → B (some (.int (-2))) s)
    (k2 : ¬ a2 < 0 → ¬ a2 ≤ 6 → B (some (.int (-2))) s)
    (k3 : ¬ a2 < 0 → a2 ≤ 6 → a1 < 0 → B (some (.int (-11))) s)
    (k4 : ¬ a2 < 0 → a2 ≤ 6 → ¬ a1 < 0 → ¬ a1 ≤ ((s 146 18) - 1) → B (some (.int (-11))) s)
    (k5 : ¬ a2 < 0 → a2 ≤ 6 → ¬ a1 < 0 → a1 ≤ ((s 146 18) - 1) → a2 = 0 → jv_in a1 13 = true)
    (k6 : ¬ a2 < 0 → a2 ≤ 6 → ¬ a1 < 0 → a1 ≤ ((s 146 18) - 1) → a2 = 0 → B (some (.int (s 158 a1.toNatClampNeg))) s)
    (k7 : ¬ a2 < 0 → a2 ≤ 6 → ¬ a1 < 0 → a1 ≤ ((s 146 18) - 1) → ¬ a2 = 0 → jv_in a1 13 = true)
    (k8 : ¬ a2 < 0 → a2 ≤ 6 → ¬ a1 < 0 → a1 ≤ ((s 146 18) - 1) → ¬ a2 = 0 → (s 157 a1.toNatClampNeg) = a2 → jv_in a1 13 = true)
    (k9 : ¬ a2 < 0 → a2 ≤ 6 → ¬ a1 < 0 → a1 ≤ ((s 146 18) - 1) → ¬ a2 = 0 → (s 157 a1.toNatClampNeg) = a2 → B (some (.int (s 158 a1.toNatClampNeg))) s)
    (k10 : ¬ a2 < 0 → a2 ≤ 6 → ¬ a1 < 0 → a1 ≤ ((s 146 18) - 1) → ¬ a2 = 0 → ¬ (s 157 a1.toNatClampNeg) = a2 → ¬ a2 = 1 → B (some (.int (-13))) s)
    (k11 : ¬ a2 < 0 → a2 ≤ 6 → ¬ a1 < 0 → a1 ≤ ((s 146 18) - 1) → ¬ a2 = 0 → ¬ (s 157 a1.toNatClampNeg) = a2 → a2 = 1 → jv_in a1 13 = true)
    (k12 : ¬ a2 < 0 → a2 ≤ 6 → ¬ a1 < 0 → a1 ≤ ((s 146 18) - 1) → ¬ a2 = 0 → ¬ (s 157 a1.toNatClampNeg) = a2 → a2 = 1 → (s 157 a1.toNatClampNeg) < 2 → B (some (.int (-13))) s)
    (k13 : ¬ a2 < 0 → a2 ≤ 6 → ¬ a1 < 0 → a1 ≤ ((s 146 18) - 1) → ¬ a2 = 0 → ¬ (s 157 a1.toNatClampNeg) = a2 → a2 = 1 → ¬ (s 157 a1.toNatClampNeg) < 2 → ¬ (s 157 a1.toNatClampNeg) ≤ 3 → B (some (.int (-13))) s)
    (k14 : ¬ a2 < 0 → a2 ≤ 6 → ¬ a1 < 0 → a1 ≤ ((s 146 18) - 1) → ¬ a2 = 0 → ¬ (s 157 a1.toNatClampNeg) = a2 → a2 = 1 → ¬ (s 157 a1.toNatClampNeg) < 2 → (s 157 a1.toNatClampNeg) ≤ 3 → jv_in a1 13 = true)
    (k15 : ¬ a2 < 0 → a2 ≤ 6 → ¬ a1 < 0 → a1 ≤ ((s 146 18) - 1) → ¬ a2 = 0 → ¬ (s 157 a1.toNatClampNeg) = a2 → a2 = 1 → ¬ (s 157 a1.toNatClampNeg) < 2 → (s 157 a1.toNatClampNeg) ≤ 3 → B (some (.int (s 158 a1.toNatClampNeg))) s) :
    q_P G (d + 2) 219 [.ref 146, .int a1, .int a2] s B := by
  refine q_in (M := jm_M_taken) rfl (Nat.le_of_ble_eq_true rfl) (ls := [some (.ref 146), some (.int a1), some (.int a2)]) rfl ?_
  refine q_iload_n (pc' := 1) ja_M_taken_0 rfl rfl ?_
  refine q_iconst (pc' := 2) ja_M_taken_1 rfl 0 (by decide) ?_
  refine q_bipush (pc' := 4) ja_M_taken_2 rfl 6 (by decide) ?_
  refine q_stat (pc' := 7) (as := [.int a2, .int 0, .int 6]) (r := []) ja_M_taken_4 rfl (by decide) rfl rfl ?_
  refine q_in (M := jm_M_in) rfl (Nat.le_of_ble_eq_true rfl) (ls := [some (.int a2), some (.int 0), some (.int 6)]) rfl ?_
  refine q_iload_n (pc' := 1) ja_M_in_0 rfl rfl ?_
  refine q_iload_n (pc' := 2) ja_M_in_1 rfl rfl ?_
  refine q_ic_lt (pc' := 5) ja_M_in_2 rfl ?_ ?_
  · intro h1
    refine q_iconst (pc' := 15) ja_M_in_14 rfl 0 (by decide) ?_
    refine q_iret ja_M_in_15 rfl (by decide) ?_
    show q_W _ _ _ _ 7 [some (.ref 146), some (.int a1), some (.int a2)] [.int 0] s
    refine q_if_ne (pc' := 10) ja_M_taken_7 rfl (fun h => absurd ((by decide : (0 : Int32) = 0)) h) (fun _ => ?_)
    refine q_bipush (pc' := 12) ja_M_taken_10 rfl (-2) (by decide) ?_
    exact q_iret ja_M_taken_12 rfl rfl (k1 h1)
  · intro h2
    refine q_iload_n (pc' := 6) ja_M_in_5 rfl rfl ?_
    refine q_iload_n (pc' := 7) ja_M_in_6 rfl rfl ?_
    refine q_ic_gt (pc' := 10) ja_M_in_7 rfl ?_ ?_
    · intro h3
      refine q_iconst (pc' := 15) ja_M_in_14 rfl 0 (by decide) ?_
      refine q_iret ja_M_in_15 rfl (by decide) ?_
      show q_W _ _ _ _ 7 [some (.ref 146), some (.int a1), some (.int a2)] [.int 0] s
      refine q_if_ne (pc' := 10) ja_M_taken_7 rfl (fun h => absurd ((by decide : (0 : Int32) = 0)) h) (fun _ => ?_)
      refine q_bipush (pc' := 12) ja_M_taken_10 rfl (-2) (by decide) ?_
      exact q_iret ja_M_taken_12 rfl rfl (k2 h2 h3)
    · intro h4
      refine q_iconst (pc' := 11) ja_M_in_10 rfl 1 (by decide) ?_
      refine q_goto ja_M_in_11 ?_
      refine q_iret ja_M_in_15 rfl (by decide) ?_
      show q_W _ _ _ _ 7 [some (.ref 146), some (.int a1), some (.int a2)] [.int 1] s
      refine q_if_ne (pc' := 10) ja_M_taken_7 rfl (fun _ => ?_) (fun h => absurd h ((by decide : ¬ (1 : Int32) = 0)))
      refine q_iload_n (pc' := 14) ja_M_taken_13 rfl rfl ?_
      refine q_iconst (pc' := 15) ja_M_taken_14 rfl 0 (by decide) ?_
      refine q_aload_n (pc' := 16) ja_M_taken_15 rfl rfl ?_
      refine q_getf (pc' := 19) (v := .int (s 146 18)) ja_M_taken_16 rfl (by decide) ⟨rfl, by decide⟩ rfl ?_
      refine q_iconst (pc' := 20) ja_M_taken_19 rfl 1 (by decide) ?_
      refine q_isub (pc' := 21) ja_M_taken_20 rfl ?_
      refine q_stat (pc' := 24) (as := [.int a1, .int 0, .int ((s 146 18) - 1)]) (r := []) ja_M_taken_21 rfl (by decide) rfl rfl ?_
      refine q_in (M := jm_M_in) rfl (Nat.le_of_ble_eq_true rfl) (ls := [some (.int a1), some (.int 0), some (.int ((s 146 18) - 1))]) rfl ?_
      refine q_iload_n (pc' := 1) ja_M_in_0 rfl rfl ?_
      refine q_iload_n (pc' := 2) ja_M_in_1 rfl rfl ?_
      refine q_ic_lt (pc' := 5) ja_M_in_2 rfl ?_ ?_
      · intro h5
        refine q_iconst (pc' := 15) ja_M_in_14 rfl 0 (by decide) ?_
        refine q_iret ja_M_in_15 rfl (by decide) ?_
        show q_W _ _ _ _ 24 [some (.ref 146), some (.int a1), some (.int a2)] [.int 0] s
        refine q_if_ne (pc' := 27) ja_M_taken_24 rfl (fun h => absurd ((by decide : (0 : Int32) = 0)) h) (fun _ => ?_)
        refine q_bipush (pc' := 29) ja_M_taken_27 rfl (-11) (by decide) ?_
        exact q_iret ja_M_taken_29 rfl rfl (k3 h2 h4 h5)
      · intro h6
        refine q_iload_n (pc' := 6) ja_M_in_5 rfl rfl ?_
        refine q_iload_n (pc' := 7) ja_M_in_6 rfl rfl ?_
        refine q_ic_gt (pc' := 10) ja_M_in_7 rfl ?_ ?_
        · intro h7
          refine q_iconst (pc' := 15) ja_M_in_14 rfl 0 (by decide) ?_
          refine q_iret ja_M_in_15 rfl (by decide) ?_
          show q_W _ _ _ _ 24 [some (.ref 146), some (.int a1), some (.int a2)] [.int 0] s
          refine q_if_ne (pc' := 27) ja_M_taken_24 rfl (fun h => absurd ((by decide : (0 : Int32) = 0)) h) (fun _ => ?_)
          refine q_bipush (pc' := 29) ja_M_taken_27 rfl (-11) (by decide) ?_
          exact q_iret ja_M_taken_29 rfl rfl (k4 h2 h4 h6 h7)
        · intro h8
          refine q_iconst (pc' := 11) ja_M_in_10 rfl 1 (by decide) ?_
          refine q_goto ja_M_in_11 ?_
          refine q_iret ja_M_in_15 rfl (by decide) ?_
          show q_W _ _ _ _ 24 [some (.ref 146), some (.int a1), some (.int a2)] [.int 1] s
          refine q_if_ne (pc' := 27) ja_M_taken_24 rfl (fun _ => ?_) (fun h => absurd h ((by decide : ¬ (1 : Int32) = 0)))
          refine q_iload_n (pc' := 31) ja_M_taken_30 rfl rfl ?_
          refine q_if_eq (pc' := 34) ja_M_taken_31 rfl ?_ ?_
          · intro h9
            refine q_aload_n (pc' := 64) ja_M_taken_63 rfl rfl ?_
            refine q_getf (pc' := 67) (v := .ref 158) ja_M_taken_64 rfl (by decide) ⟨rfl, by decide⟩ rfl ?_
            refine q_iload_n (pc' := 68) ja_M_taken_67 rfl rfl ?_
            refine q_iald (pc' := 69) (v := .int (s 158 a1.toNatClampNeg)) ja_M_taken_68 rfl (by decide) (l := 13) rfl (k5 h2 h4 h6 h8 h9) rfl ?_
            refine q_goto ja_M_taken_69 ?_
            exact q_iret ja_M_taken_74 rfl rfl (k6 h2 h4 h6 h8 h9)
          · intro h10
            refine q_aload_n (pc' := 35) ja_M_taken_34 rfl rfl ?_
            refine q_getf (pc' := 38) (v := .ref 157) ja_M_taken_35 rfl (by decide) ⟨rfl, by decide⟩ rfl ?_
            refine q_iload_n (pc' := 39) ja_M_taken_38 rfl rfl ?_
            refine q_iald (pc' := 40) (v := .int (s 157 a1.toNatClampNeg)) ja_M_taken_39 rfl (by decide) (l := 13) rfl (k7 h2 h4 h6 h8 h10) rfl ?_
            refine q_iload_n (pc' := 41) ja_M_taken_40 rfl rfl ?_
            refine q_ic_eq (pc' := 44) ja_M_taken_41 rfl ?_ ?_
            · intro h11
              refine q_aload_n (pc' := 64) ja_M_taken_63 rfl rfl ?_
              refine q_getf (pc' := 67) (v := .ref 158) ja_M_taken_64 rfl (by decide) ⟨rfl, by decide⟩ rfl ?_
              refine q_iload_n (pc' := 68) ja_M_taken_67 rfl rfl ?_
              refine q_iald (pc' := 69) (v := .int (s 158 a1.toNatClampNeg)) ja_M_taken_68 rfl (by decide) (l := 13) rfl (k8 h2 h4 h6 h8 h10 h11) rfl ?_
              refine q_goto ja_M_taken_69 ?_
              exact q_iret ja_M_taken_74 rfl rfl (k9 h2 h4 h6 h8 h10 h11)
            · intro h12
              refine q_iload_n (pc' := 45) ja_M_taken_44 rfl rfl ?_
              refine q_iconst (pc' := 46) ja_M_taken_45 rfl 1 (by decide) ?_
              refine q_ic_ne (pc' := 49) ja_M_taken_46 rfl ?_ ?_
              · intro h13
                refine q_bipush (pc' := 74) ja_M_taken_72 rfl (-13) (by decide) ?_
                exact q_iret ja_M_taken_74 rfl rfl (k10 h2 h4 h6 h8 h10 h12 h13)
              · intro h14
                refine q_aload_n (pc' := 50) ja_M_taken_49 rfl rfl ?_
                refine q_getf (pc' := 53) (v := .ref 157) ja_M_taken_50 rfl (by decide) ⟨rfl, by decide⟩ rfl ?_
                refine q_iload_n (pc' := 54) ja_M_taken_53 rfl rfl ?_
                refine q_iald (pc' := 55) (v := .int (s 157 a1.toNatClampNeg)) ja_M_taken_54 rfl (by decide) (l := 13) rfl (k11 h2 h4 h6 h8 h10 h12 h14) rfl ?_
                refine q_iconst (pc' := 56) ja_M_taken_55 rfl 2 (by decide) ?_
                refine q_iconst (pc' := 57) ja_M_taken_56 rfl 3 (by decide) ?_
                refine q_stat (pc' := 60) (as := [.int (s 157 a1.toNatClampNeg), .int 2, .int 3]) (r := []) ja_M_taken_57 rfl (by decide) rfl rfl ?_
                refine q_in (M := jm_M_in) rfl (Nat.le_of_ble_eq_true rfl) (ls := [some (.int (s 157 a1.toNatClampNeg)), some (.int 2), some (.int 3)]) rfl ?_
                refine q_iload_n (pc' := 1) ja_M_in_0 rfl rfl ?_
                refine q_iload_n (pc' := 2) ja_M_in_1 rfl rfl ?_
                refine q_ic_lt (pc' := 5) ja_M_in_2 rfl ?_ ?_
                · intro h15
                  refine q_iconst (pc' := 15) ja_M_in_14 rfl 0 (by decide) ?_
                  refine q_iret ja_M_in_15 rfl (by decide) ?_
                  show q_W _ _ _ _ 60 [some (.ref 146), some (.int a1), some (.int a2)] [.int 0] s
                  refine q_if_eq (pc' := 63) ja_M_taken_60 rfl (fun _ => ?_) (fun h => absurd ((by decide : (0 : Int32) = 0)) h)
                  refine q_bipush (pc' := 74) ja_M_taken_72 rfl (-13) (by decide) ?_
                  exact q_iret ja_M_taken_74 rfl rfl (k12 h2 h4 h6 h8 h10 h12 h14 h15)
                · intro h16
                  refine q_iload_n (pc' := 6) ja_M_in_5 rfl rfl ?_
                  refine q_iload_n (pc' := 7) ja_M_in_6 rfl rfl ?_
                  refine q_ic_gt (pc' := 10) ja_M_in_7 rfl ?_ ?_
                  · intro h17
                    refine q_iconst (pc' := 15) ja_M_in_14 rfl 0 (by decide) ?_
                    refine q_iret ja_M_in_15 rfl (by decide) ?_
                    show q_W _ _ _ _ 60 [some (.ref 146), some (.int a1), some (.int a2)] [.int 0] s
                    refine q_if_eq (pc' := 63) ja_M_taken_60 rfl (fun _ => ?_) (fun h => absurd ((by decide : (0 : Int32) = 0)) h)
                    refine q_bipush (pc' := 74) ja_M_taken_72 rfl (-13) (by decide) ?_
                    exact q_iret ja_M_taken_74 rfl rfl (k13 h2 h4 h6 h8 h10 h12 h14 h16 h17)
                  · intro h18
                    refine q_iconst (pc' := 11) ja_M_in_10 rfl 1 (by decide) ?_
                    refine q_goto ja_M_in_11 ?_
                    refine q_iret ja_M_in_15 rfl (by decide) ?_
                    show q_W _ _ _ _ 60 [some (.ref 146), some (.int a1), some (.int a2)] [.int 1] s
                    refine q_if_eq (pc' := 63) ja_M_taken_60 rfl (fun h => absurd h ((by decide : ¬ (1 : Int32) = 0))) (fun _ => ?_)
                    refine q_aload_n (pc' := 64) ja_M_taken_63 rfl rfl ?_
                    refine q_getf (pc' := 67) (v := .ref 158) ja_M_taken_64 rfl (by decide) ⟨rfl, by decide⟩ rfl ?_
                    refine q_iload_n (pc' := 68) ja_M_taken_67 rfl rfl ?_
                    refine q_iald (pc' := 69) (v := .int (s 158 a1.toNatClampNeg)) ja_M_taken_68 rfl (by decide) (l := 13) rfl (k14 h2 h4 h6 h8 h10 h12 h14 h16 h18) rfl ?_
                    refine q_goto ja_M_taken_69 ?_
                    exact q_iret ja_M_taken_74 rfl rfl (k15 h2 h4 h6 h8 h10 h12 h14 h16 h18)
set_option maxRecDepth 20000 in
theorem t_M_takes {G : jv_X} {d : Nat} {B : Option Value → jg_H → Prop} {s : jg_H} (a1 : Int32)
    (k1 : jv_in a1 8 = true)
    (k2 : ∀ s1 : jg_H, s1 = jg_up s 146 53 (s 153 a1.toNatClampNeg) → q_W G d jm_M_takes B 12 [some (.ref 146), some (.int a1), some (.int 0)] [] s1) :
    q_P G (d + 1) 169 [.ref 146, .int a1] s B := by
  refine q_in (M := jm_M_takes) rfl (Nat.le_of_ble_eq_true rfl) (ls := [some (.ref 146), some (.int a1), none]) rfl ?_
  refine q_aload_n (pc' := 1) ja_M_takes_0 rfl rfl ?_
  refine q_aload_n (pc' := 2) ja_M_takes_1 rfl rfl ?_
  refine q_getf (pc' := 5) (v := .ref 153) ja_M_takes_2 rfl (by decide) ⟨rfl, by decide⟩ rfl ?_
  refine q_iload_n (pc' := 6) ja_M_takes_5 rfl rfl ?_
  refine q_iald (pc' := 7) (v := .int (s 153 a1.toNatClampNeg)) ja_M_takes_6 rfl (by decide) (l := 8) rfl k1 rfl ?_
  refine q_putf (pc' := 10) ja_M_takes_7 rfl (by decide) rfl rfl rfl ?_
  intro s1 e1
  refine q_iconst (pc' := 11) ja_M_takes_10 rfl 0 (by decide) ?_
  refine q_istore_n (pc' := 12) (ls' := [some (.ref 146), some (.int a1), some (.int 0)]) ja_M_takes_11 rfl ⟨Nat.le_of_ble_eq_true rfl, rfl⟩ rfl ?_
  exact (k2 s1 e1)
set_option maxRecDepth 20000 in
theorem t_M_takes_12 {G : jv_X} {d : Nat} {B : Option Value → jg_H → Prop} {s : jg_H} (x1 : Int32) (x2 : Int32)
    (k1 : ¬ x2 < (s 146 53) → B none s)
    (k2 : x2 < (s 146 53) → jv_in ((10 * x1) + x2) 80 = true)
    (k3 : x2 < (s 146 53) → jv_in x2 11 = true)
    (k4 : x2 < (s 146 53) → ∀ s1 : jg_H, s1 = jg_up s 171 x2.toNatClampNeg (s 154 ((10 * x1) + x2).toNatClampNeg) → q_W G d jm_M_takes B 12 [some (.ref 146), some (.int x1), some (.int (x2 + 1))] [] s1) :
    q_W G d jm_M_takes B 12 [some (.ref 146), some (.int x1), some (.int x2)] [] s := by
  refine q_iload_n (pc' := 13) ja_M_takes_12 rfl rfl ?_
  refine q_aload_n (pc' := 14) ja_M_takes_13 rfl rfl ?_
  refine q_getf (pc' := 17) (v := .int (s 146 53)) ja_M_takes_14 rfl (by decide) ⟨rfl, by decide⟩ rfl ?_
  refine q_ic_ge (pc' := 20) ja_M_takes_17 rfl ?_ ?_
  · intro h1
    exact q_vret ja_M_takes_43 rfl (k1 h1)
  · intro h2
    refine q_aload_n (pc' := 21) ja_M_takes_20 rfl rfl ?_
    refine q_getf (pc' := 24) (v := .ref 171) ja_M_takes_21 rfl (by decide) ⟨rfl, by decide⟩ rfl ?_
    refine q_iload_n (pc' := 25) ja_M_takes_24 rfl rfl ?_
    refine q_aload_n (pc' := 26) ja_M_takes_25 rfl rfl ?_
    refine q_getf (pc' := 29) (v := .ref 154) ja_M_takes_26 rfl (by decide) ⟨rfl, by decide⟩ rfl ?_
    refine q_bipush (pc' := 31) ja_M_takes_29 rfl 10 (by decide) ?_
    refine q_iload_n (pc' := 32) ja_M_takes_31 rfl rfl ?_
    refine q_imul (pc' := 33) ja_M_takes_32 rfl ?_
    refine q_iload_n (pc' := 34) ja_M_takes_33 rfl rfl ?_
    refine q_iadd (pc' := 35) ja_M_takes_34 rfl ?_
    refine q_iald (pc' := 36) (v := .int (s 154 ((10 * x1) + x2).toNatClampNeg)) ja_M_takes_35 rfl (by decide) (l := 80) rfl (k2 h2) rfl ?_
    refine q_iast (pc' := 37) ja_M_takes_36 rfl (by decide) (l := 11) rfl (k3 h2) ?_
    intro s1 e1
    refine q_iinc (pc' := 40) (ls' := [some (.ref 146), some (.int x1), some (.int (x2 + 1))]) ja_M_takes_37 rfl rfl (x2 + 1) rfl ⟨Nat.le_of_ble_eq_true rfl, rfl⟩ rfl ?_
    refine q_goto ja_M_takes_40 ?_
    exact (k4 h2 s1 e1)
set_option maxRecDepth 20000 in
theorem t_M_tell {G : jv_X} {d : Nat} {B : Option Value → jg_H → Prop} {s : jg_H} (a1 : Int32) (a2 : Int32) (a3 : Int32)
    (k1 : a1 < 1 → B (some (.int (-2))) s)
    (k2 : ¬ a1 < 1 → ¬ a1 ≤ 3 → B (some (.int (-2))) s)
    (k3 : ¬ a1 < 1 → a1 ≤ 3 → a1 = 1 → (s 146 13) = (-1) → B (some (.int (-3))) s)
    (k4 : ¬ a1 < 1 → a1 ≤ 3 → a1 = 1 → ¬ (s 146 13) = (-1) → jv_in (s 146 13) 8 = true)
    (k5 : ¬ a1 < 1 → a1 ≤ 3 → a1 = 1 → ¬ (s 146 13) = (-1) → ¬ a1 = 2 → a2 < 0 → B (some (.int (-2))) s)
    (k6 : ¬ a1 < 1 → a1 ≤ 3 → a1 = 1 → ¬ (s 146 13) = (-1) → ¬ a1 = 2 → ¬ a2 < 0 → ¬ a2 ≤ ((s 153 (s 146 13).toNatClampNeg) - 1) → B (some (.int (-2))) s)
    (k7 : ¬ a1 < 1 → a1 ≤ 3 → a1 = 1 → ¬ (s 146 13) = (-1) → ¬ a1 = 2 → ¬ a2 < 0 → a2 ≤ ((s 153 (s 146 13).toNatClampNeg) - 1) → ¬ (s 146 19) = 5 → jv_in (s 146 19) 5 = true)
    (k8 : ¬ a1 < 1 → a1 ≤ 3 → a1 = 1 → ¬ (s 146 13) = (-1) → ¬ a1 = 2 → ¬ a2 < 0 → a2 ≤ ((s 153 (s 146 13).toNatClampNeg) - 1) → ¬ (s 146 19) = 5 → ∀ s1 : jg_H, s1 = jg_up s 172 (s 146 19).toNatClampNeg a1 → jv_in (s1 146 19) 5 = true)
    (k9 : ¬ a1 < 1 → a1 ≤ 3 → a1 = 1 → ¬ (s 146 13) = (-1) → ¬ a1 = 2 → ¬ a2 < 0 → a2 ≤ ((s 153 (s 146 13).toNatClampNeg) - 1) → ¬ (s 146 19) = 5 → ∀ s1 : jg_H, s1 = jg_up s 172 (s 146 19).toNatClampNeg a1 → ∀ s2 : jg_H, s2 = jg_up s1 173 (s1 146 19).toNatClampNeg a2 → jv_in (s2 146 19) 5 = true)
    (k10 : ¬ a1 < 1 → a1 ≤ 3 → a1 = 1 → ¬ (s 146 13) = (-1) → ¬ a1 = 2 → ¬ a2 < 0 → a2 ≤ ((s 153 (s 146 13).toNatClampNeg) - 1) → ¬ (s 146 19) = 5 → ∀ s1 : jg_H, s1 = jg_up s 172 (s 146 19).toNatClampNeg a1 → ∀ s2 : jg_H, s2 = jg_up s1 173 (s1 146 19).toNatClampNeg a2 → ∀ s3 : jg_H, s3 = jg_up s2 174 (s2 146 19).toNatClampNeg a3 → ∀ s4 : jg_H, s4 = jg_up s3 146 19 ((s3 146 19) + 1) → B (some (.int (s4 146 19))) s4)
    (k11 : ¬ a1 < 1 → a1 ≤ 3 → a1 = 1 → ¬ (s 146 13) = (-1) → ¬ a1 = 2 → ¬ a2 < 0 → a2 ≤ ((s 153 (s 146 13).toNatClampNeg) - 1) → (s 146 19) = 5 → B (some (.int (-4))) s)
    (k12 : ¬ a1 < 1 → a1 ≤ 3 → a1 = 1 → ¬ (s 146 13) = (-1) → a1 = 2 → a2 < 0 → B (some (.int (-2))) s)
    (k13 : ¬ a1 < 1 → a1 ≤ 3 → a1 = 1 → ¬ (s 146 13) = (-1) → a1 = 2 → ¬ a2 < 0 → ¬ a2 ≤ ((s 153 (s 146 13).toNatClampNeg) - 0) → B (some (.int (-2))) s)
    (k14 : ¬ a1 < 1 → a1 ≤ 3 → a1 = 1 → ¬ (s 146 13) = (-1) → a1 = 2 → ¬ a2 < 0 → a2 ≤ ((s 153 (s 146 13).toNatClampNeg) - 0) → ¬ (s 146 19) = 5 → jv_in (s 146 19) 5 = true)
    (k15 : ¬ a1 < 1 → a1 ≤ 3 → a1 = 1 → ¬ (s 146 13) = (-1) → a1 = 2 → ¬ a2 < 0 → a2 ≤ ((s 153 (s 146 13).toNatClampNeg) - 0) → ¬ (s 146 19) = 5 → ∀ s5 : jg_H, s5 = jg_up s 172 (s 146 19).toNatClampNeg a1 → jv_in (s5 146 19) 5 = true)
    (k16 : ¬ a1 < 1 → a1 ≤ 3 → a1 = 1 → ¬ (s 146 13) = (-1) → a1 = 2 → ¬ a2 < 0 → a2 ≤ ((s 153 (s 146 13).toNatClampNeg) - 0) → ¬ (s 146 19) = 5 → ∀ s5 : jg_H, s5 = jg_up s 172 (s 146 19).toNatClampNeg a1 → ∀ s6 : jg_H, s6 = jg_up s5 173 (s5 146 19).toNatClampNeg a2 → jv_in (s6 146 19) 5 = true)
    (k17 : ¬ a1 < 1 → a1 ≤ 3 → a1 = 1 → ¬ (s 146 13) = (-1) → a1 = 2 → ¬ a2 < 0 → a2 ≤ ((s 153 (s 146 13).toNatClampNeg) - 0) → ¬ (s 146 19) = 5 → ∀ s5 : jg_H, s5 = jg_up s 172 (s 146 19).toNatClampNeg a1 → ∀ s6 : jg_H, s6 = jg_up s5 173 (s5 146 19).toNatClampNeg a2 → ∀ s7 : jg_H, s7 = jg_up s6 174 (s6 146 19).toNatClampNeg a3 → ∀ s8 : jg_H, s8 = jg_up s7 146 19 ((s7 146 19) + 1) → B (some (.int (s8 146 19))) s8)
    (k18 : ¬ a1 < 1 → a1 ≤ 3 → a1 = 1 → ¬ (s 146 13) = (-1) → a1 = 2 → ¬ a2 < 0 → a2 ≤ ((s 153 (s 146 13).toNatClampNeg) - 0) → (s 146 19) = 5 → B (some (.int (-4))) s)
    (k19 : ¬ a1 < 1 → a1 ≤ 3 → ¬ a1 = 1 → a3 < 1 → B (some (.int (-2))) s)
    (k20 : ¬ a1 < 1 → a1 ≤ 3 → ¬ a1 = 1 → ¬ a3 < 1 → ¬ a3 ≤ 60 → B (some (.int (-2))) s)
    (k21 : ¬ a1 < 1 → a1 ≤ 3 → ¬ a1 = 1 → ¬ a3 < 1 → a3 ≤ 60 → (s 146 13) = (-1) → B (some (.int (-3))) s)
    (k22 : ¬ a1 < 1 → a1 ≤ 3 → ¬ a1 = 1 → ¬ a3 < 1 → a3 ≤ 60 → ¬ (s 146 13) = (-1) → jv_in (s 146 13) 8 = true)
    (k23 : ¬ a1 < 1 → a1 ≤ 3 → ¬ a1 = 1 → ¬ a3 < 1 → a3 ≤ 60 → ¬ (s 146 13) = (-1) → ¬ a1 = 2 → a2 < 0 → B (some (.int (-2))) s)
    (k24 : ¬ a1 < 1 → a1 ≤ 3 → ¬ a1 = 1 → ¬ a3 < 1 → a3 ≤ 60 → ¬ (s 146 13) = (-1) → ¬ a1 = 2 → ¬ a2 < 0 → ¬ a2 ≤ ((s 153 (s 146 13).toNatClampNeg) - 1) → B (some (.int (-2))) s)
    (k25 : ¬ a1 < 1 → a1 ≤ 3 → ¬ a1 = 1 → ¬ a3 < 1 → a3 ≤ 60 → ¬ (s 146 13) = (-1) → ¬ a1 = 2 → ¬ a2 < 0 → a2 ≤ ((s 153 (s 146 13).toNatClampNeg) - 1) → ¬ (s 146 19) = 5 → jv_in (s 146 19) 5 = true)
    (k26 : ¬ a1 < 1 → a1 ≤ 3 → ¬ a1 = 1 → ¬ a3 < 1 → a3 ≤ 60 → ¬ (s 146 13) = (-1) → ¬ a1 = 2 → ¬ a2 < 0 → a2 ≤ ((s 153 (s 146 13).toNatClampNeg) - 1) → ¬ (s 146 19) = 5 → ∀ s9 : jg_H, s9 = jg_up s 172 (s 146 19).toNatClampNeg a1 → jv_in (s9 146 19) 5 = true)
    (k27 : ¬ a1 < 1 → a1 ≤ 3 → ¬ a1 = 1 → ¬ a3 < 1 → a3 ≤ 60 → ¬ (s 146 13) = (-1) → ¬ a1 = 2 → ¬ a2 < 0 → a2 ≤ ((s 153 (s 146 13).toNatClampNeg) - 1) → ¬ (s 146 19) = 5 → ∀ s9 : jg_H, s9 = jg_up s 172 (s 146 19).toNatClampNeg a1 → ∀ s10 : jg_H, s10 = jg_up s9 173 (s9 146 19).toNatClampNeg a2 → jv_in (s10 146 19) 5 = true)
    (k28 : ¬ a1 < 1 → a1 ≤ 3 → ¬ a1 = 1 → ¬ a3 < 1 → a3 ≤ 60 → ¬ (s 146 13) = (-1) → ¬ a1 = 2 → ¬ a2 < 0 → a2 ≤ ((s 153 (s 146 13).toNatClampNeg) - 1) → ¬ (s 146 19) = 5 → ∀ s9 : jg_H, s9 = jg_up s 172 (s 146 19).toNatClampNeg a1 → ∀ s10 : jg_H, s10 = jg_up s9 173 (s9 146 19).toNatClampNeg a2 → ∀ s11 : jg_H, s11 = jg_up s10 174 (s10 146 19).toNatClampNeg a3 → ∀ s12 : jg_H, s12 = jg_up s11 146 19 ((s11 146 19) + 1) → B (some (.int (s12 146 19))) s12)
    (k29 : ¬ a1 < 1 → a1 ≤ 3 → ¬ a1 = 1 → ¬ a3 < 1 → a3 ≤ 60 → ¬ (s 146 13) = (-1) → ¬ a1 = 2 → ¬ a2 < 0 → a2 ≤ ((s 153 (s 146 13).toNatClampNeg) - 1) → (s 146 19) = 5 → B (some (.int (-4))) s)
    (k30 : ¬ a1 < 1 → a1 ≤ 3 → ¬ a1 = 1 → ¬ a3 < 1 → a3 ≤ 60 → ¬ (s 146 13) = (-1) → a1 = 2 → a2 < 0 → B (some (.int (-2))) s)
    (k31 : ¬ a1 < 1 → a1 ≤ 3 → ¬ a1 = 1 → ¬ a3 < 1 → a3 ≤ 60 → ¬ (s 146 13) = (-1) → a1 = 2 → ¬ a2 < 0 → ¬ a2 ≤ ((s 153 (s 146 13).toNatClampNeg) - 0) → B (some (.int (-2))) s)
    (k32 : ¬ a1 < 1 → a1 ≤ 3 → ¬ a1 = 1 → ¬ a3 < 1 → a3 ≤ 60 → ¬ (s 146 13) = (-1) → a1 = 2 → ¬ a2 < 0 → a2 ≤ ((s 153 (s 146 13).toNatClampNeg) - 0) → ¬ (s 146 19) = 5 → jv_in (s 146 19) 5 = true)
    (k33 : ¬ a1 < 1 → a1 ≤ 3 → ¬ a1 = 1 → ¬ a3 < 1 → a3 ≤ 60 → ¬ (s 146 13) = (-1) → a1 = 2 → ¬ a2 < 0 → a2 ≤ ((s 153 (s 146 13).toNatClampNeg) - 0) → ¬ (s 146 19) = 5 → ∀ s13 : jg_H, s13 = jg_up s 172 (s 146 19).toNatClampNeg a1 → jv_in (s13 146 19) 5 = true)
    (k34 : ¬ a1 < 1 → a1 ≤ 3 → ¬ a1 = 1 → ¬ a3 < 1 → a3 ≤ 60 → ¬ (s 146 13) = (-1) → a1 = 2 → ¬ a2 < 0 → a2 ≤ ((s 153 (s 146 13).toNatClampNeg) - 0) → ¬ (s 146 19) = 5 → ∀ s13 : jg_H, s13 = jg_up s 172 (s 146 19).toNatClampNeg a1 → ∀ s14 : jg_H, s14 = jg_up s13 173 (s13 146 19).toNatClampNeg a2 → jv_in (s14 146 19) 5 = true)
    (k35 : ¬ a1 < 1 → a1 ≤ 3 → ¬ a1 = 1 → ¬ a3 < 1 → a3 ≤ 60 → ¬ (s 146 13) = (-1) → a1 = 2 → ¬ a2 < 0 → a2 ≤ ((s 153 (s 146 13).toNatClampNeg) - 0) → ¬ (s 146 19) = 5 → ∀ s13 : jg_H, s13 = jg_up s 172 (s 146 19).toNatClampNeg a1 → ∀ s14 : jg_H, s14 = jg_up s13 173 (s13 146 19).toNatClampNeg a2 → ∀ s15 : jg_H, s15 = jg_up s14 174 (s14 146 19).toNatClampNeg a3 → ∀ s16 : jg_H, s16 = jg_up s15 146 19 ((s15 146 19) + 1) → B (some (.int (s16 146 19))) s16)
    (k36 : ¬ a1 < 1 → a1 ≤ 3 → ¬ a1 = 1 → ¬ a3 < 1 → a3 ≤ 60 → ¬ (s 146 13) = (-1) → a1 = 2 → ¬ a2 < 0 → a2 ≤ ((s 153 (s 146 13).toNatClampNeg) - 0) → (s 146 19) = 5 → B (some (.int (-4))) s) :
    q_P G (d + 3) 205 [.ref 146, .int a1, .int a2, .int a3] s B := by
  refine q_in (M := jm_M_tell) rfl (Nat.le_of_ble_eq_true rfl) (ls := [some (.ref 146), some (.int a1), some (.int a2), some (.int a3)]) rfl ?_
  refine q_iload_n (pc' := 1) ja_M_tell_0 rfl rfl ?_
  refine q_iconst (pc' := 2) ja_M_tell_1 rfl 1 (by decide) ?_
  refine q_iconst (pc' := 3) ja_M_tell_2 rfl 3 (by decide) ?_
  refine q_stat (pc' := 6) (as := [.int a1, .int 1, .int 3]) (r := []) ja_M_tell_3 rfl (by decide) rfl rfl ?_
  refine q_in (M := jm_M_in) rfl (Nat.le_of_ble_eq_true rfl) (ls := [some (.int a1), some (.int 1), some (.int 3)]) rfl ?_
  refine q_iload_n (pc' := 1) ja_M_in_0 rfl rfl ?_
  refine q_iload_n (pc' := 2) ja_M_in_1 rfl rfl ?_
  refine q_ic_lt (pc' := 5) ja_M_in_2 rfl ?_ ?_
  · intro h1
    refine q_iconst (pc' := 15) ja_M_in_14 rfl 0 (by decide) ?_
    refine q_iret ja_M_in_15 rfl (by decide) ?_
    show q_W _ _ _ _ 6 [some (.ref 146), some (.int a1), some (.int a2), some (.int a3)] [.int 0] s
    refine q_if_eq (pc' := 9) ja_M_tell_6 rfl (fun _ => ?_) (fun h => absurd ((by decide : (0 : Int32) = 0)) h)
    refine q_bipush (pc' := 59) ja_M_tell_57 rfl (-2) (by decide) ?_
    exact q_iret ja_M_tell_59 rfl rfl (k1 h1)
  · intro h2
    refine q_iload_n (pc' := 6) ja_M_in_5 rfl rfl ?_
    refine q_iload_n (pc' := 7) ja_M_in_6 rfl rfl ?_
    refine q_ic_gt (pc' := 10) ja_M_in_7 rfl ?_ ?_
    · intro h3
      refine q_iconst (pc' := 15) ja_M_in_14 rfl 0 (by decide) ?_
      refine q_iret ja_M_in_15 rfl (by decide) ?_
      show q_W _ _ _ _ 6 [some (.ref 146), some (.int a1), some (.int a2), some (.int a3)] [.int 0] s
      refine q_if_eq (pc' := 9) ja_M_tell_6 rfl (fun _ => ?_) (fun h => absurd ((by decide : (0 : Int32) = 0)) h)
      refine q_bipush (pc' := 59) ja_M_tell_57 rfl (-2) (by decide) ?_
      exact q_iret ja_M_tell_59 rfl rfl (k2 h2 h3)
    · intro h4
      refine q_iconst (pc' := 11) ja_M_in_10 rfl 1 (by decide) ?_
      refine q_goto ja_M_in_11 ?_
      refine q_iret ja_M_in_15 rfl (by decide) ?_
      show q_W _ _ _ _ 6 [some (.ref 146), some (.int a1), some (.int a2), some (.int a3)] [.int 1] s
      refine q_if_eq (pc' := 9) ja_M_tell_6 rfl (fun h => absurd h ((by decide : ¬ (1 : Int32) = 0))) (fun _ => ?_)
      refine q_iload_n (pc' := 10) ja_M_tell_9 rfl rfl ?_
      refine q_iconst (pc' := 11) ja_M_tell_10 rfl 1 (by decide) ?_
      refine q_ic_eq (pc' := 14) ja_M_tell_11 rfl ?_ ?_
      · intro h5
        refine q_aload_n (pc' := 22) ja_M_tell_21 rfl rfl ?_
        refine q_getf (pc' := 25) (v := .int (s 146 13)) ja_M_tell_22 rfl (by decide) ⟨rfl, by decide⟩ rfl ?_
        refine q_iconst (pc' := 26) ja_M_tell_25 rfl (-1) (by decide) ?_
        refine q_ic_eq (pc' := 29) ja_M_tell_26 rfl ?_ ?_
        · intro h6
          refine q_aload_n (pc' := 61) ja_M_tell_60 rfl rfl ?_
          refine q_getf (pc' := 64) (v := .int (s 146 13)) ja_M_tell_61 rfl (by decide) ⟨rfl, by decide⟩ rfl ?_
          refine q_iconst (pc' := 65) ja_M_tell_64 rfl (-1) (by decide) ?_
          refine q_ic_ne (pc' := 68) ja_M_tell_65 rfl (fun h => absurd (h6) h) (fun _ => ?_)
          refine q_bipush (pc' := 70) ja_M_tell_68 rfl (-3) (by decide) ?_
          exact q_iret ja_M_tell_70 rfl rfl (k3 h2 h4 h5 h6)
        · intro h7
          refine q_iload_n (pc' := 30) ja_M_tell_29 rfl rfl ?_
          refine q_iconst (pc' := 31) ja_M_tell_30 rfl 0 (by decide) ?_
          refine q_aload_n (pc' := 32) ja_M_tell_31 rfl rfl ?_
          refine q_getf (pc' := 35) (v := .ref 153) ja_M_tell_32 rfl (by decide) ⟨rfl, by decide⟩ rfl ?_
          refine q_aload_n (pc' := 36) ja_M_tell_35 rfl rfl ?_
          refine q_getf (pc' := 39) (v := .int (s 146 13)) ja_M_tell_36 rfl (by decide) ⟨rfl, by decide⟩ rfl ?_
          refine q_iald (pc' := 40) (v := .int (s 153 (s 146 13).toNatClampNeg)) ja_M_tell_39 rfl (by decide) (l := 8) rfl (k4 h2 h4 h5 h7) rfl ?_
          refine q_iload_n (pc' := 41) ja_M_tell_40 rfl rfl ?_
          refine q_iconst (pc' := 42) ja_M_tell_41 rfl 2 (by decide) ?_
          refine q_ic_ne (pc' := 45) ja_M_tell_42 rfl ?_ ?_
          · intro h8
            refine q_iconst (pc' := 50) ja_M_tell_49 rfl 1 (by decide) ?_
            refine q_isub (pc' := 51) ja_M_tell_50 rfl ?_
            refine q_stat (pc' := 54) (as := [.int a2, .int 0, .int ((s 153 (s 146 13).toNatClampNeg) - 1)]) (r := []) ja_M_tell_51 rfl (by decide) rfl rfl ?_
            refine q_in (M := jm_M_in) rfl (Nat.le_of_ble_eq_true rfl) (ls := [some (.int a2), some (.int 0), some (.int ((s 153 (s 146 13).toNatClampNeg) - 1))]) rfl ?_
            refine q_iload_n (pc' := 1) ja_M_in_0 rfl rfl ?_
            refine q_iload_n (pc' := 2) ja_M_in_1 rfl rfl ?_
            refine q_ic_lt (pc' := 5) ja_M_in_2 rfl ?_ ?_
            · intro h9
              refine q_iconst (pc' := 15) ja_M_in_14 rfl 0 (by decide) ?_
              refine q_iret ja_M_in_15 rfl (by decide) ?_
              show q_W _ _ _ _ 54 [some (.ref 146), some (.int a1), some (.int a2), some (.int a3)] [.int 0] s
              refine q_if_ne (pc' := 57) ja_M_tell_54 rfl (fun h => absurd ((by decide : (0 : Int32) = 0)) h) (fun _ => ?_)
              refine q_bipush (pc' := 59) ja_M_tell_57 rfl (-2) (by decide) ?_
              exact q_iret ja_M_tell_59 rfl rfl (k5 h2 h4 h5 h7 h8 h9)
            · intro h10
              refine q_iload_n (pc' := 6) ja_M_in_5 rfl rfl ?_
              refine q_iload_n (pc' := 7) ja_M_in_6 rfl rfl ?_
              refine q_ic_gt (pc' := 10) ja_M_in_7 rfl ?_ ?_
              · intro h11
                refine q_iconst (pc' := 15) ja_M_in_14 rfl 0 (by decide) ?_
                refine q_iret ja_M_in_15 rfl (by decide) ?_
                show q_W _ _ _ _ 54 [some (.ref 146), some (.int a1), some (.int a2), some (.int a3)] [.int 0] s
                refine q_if_ne (pc' := 57) ja_M_tell_54 rfl (fun h => absurd ((by decide : (0 : Int32) = 0)) h) (fun _ => ?_)
                refine q_bipush (pc' := 59) ja_M_tell_57 rfl (-2) (by decide) ?_
                exact q_iret ja_M_tell_59 rfl rfl (k6 h2 h4 h5 h7 h8 h10 h11)
              · intro h12
                refine q_iconst (pc' := 11) ja_M_in_10 rfl 1 (by decide) ?_
                refine q_goto ja_M_in_11 ?_
                refine q_iret ja_M_in_15 rfl (by decide) ?_
                show q_W _ _ _ _ 54 [some (.ref 146), some (.int a1), some (.int a2), some (.int a3)] [.int 1] s
                refine q_if_ne (pc' := 57) ja_M_tell_54 rfl (fun _ => ?_) (fun h => absurd h ((by decide : ¬ (1 : Int32) = 0)))
                refine q_aload_n (pc' := 61) ja_M_tell_60 rfl rfl ?_
                refine q_getf (pc' := 64) (v := .int (s 146 13)) ja_M_tell_61 rfl (by decide) ⟨rfl, by decide⟩ rfl ?_
                refine q_iconst (pc' := 65) ja_M_tell_64 rfl (-1) (by decide) ?_
                refine q_ic_ne (pc' := 68) ja_M_tell_65 rfl (fun _ => ?_) (fun h => absurd h (h7))
                refine q_aload_n (pc' := 72) ja_M_tell_71 rfl rfl ?_
                refine q_getf (pc' := 75) (v := .int (s 146 19)) ja_M_tell_72 rfl (by decide) ⟨rfl, by decide⟩ rfl ?_
                refine q_iconst (pc' := 76) ja_M_tell_75 rfl 5 (by decide) ?_
                refine q_ic_ne (pc' := 79) ja_M_tell_76 rfl ?_ ?_
                · intro h13
                  refine q_aload_n (pc' := 83) ja_M_tell_82 rfl rfl ?_
                  refine q_getf (pc' := 86) (v := .ref 172) ja_M_tell_83 rfl (by decide) ⟨rfl, by decide⟩ rfl ?_
                  refine q_aload_n (pc' := 87) ja_M_tell_86 rfl rfl ?_
                  refine q_getf (pc' := 90) (v := .int (s 146 19)) ja_M_tell_87 rfl (by decide) ⟨rfl, by decide⟩ rfl ?_
                  refine q_iload_n (pc' := 91) ja_M_tell_90 rfl rfl ?_
                  refine q_iast (pc' := 92) ja_M_tell_91 rfl (by decide) (l := 5) rfl (k7 h2 h4 h5 h7 h8 h10 h12 h13) ?_
                  intro s1 e1
                  refine q_aload_n (pc' := 93) ja_M_tell_92 rfl rfl ?_
                  refine q_getf (pc' := 96) (v := .ref 173) ja_M_tell_93 rfl (by decide) ⟨rfl, by decide⟩ rfl ?_
                  refine q_aload_n (pc' := 97) ja_M_tell_96 rfl rfl ?_
                  refine q_getf (pc' := 100) (v := .int (s1 146 19)) ja_M_tell_97 rfl (by decide) ⟨rfl, by decide⟩ rfl ?_
                  refine q_iload_n (pc' := 101) ja_M_tell_100 rfl rfl ?_
                  refine q_iast (pc' := 102) ja_M_tell_101 rfl (by decide) (l := 5) rfl (k8 h2 h4 h5 h7 h8 h10 h12 h13 s1 e1) ?_
                  intro s2 e2
                  refine q_aload_n (pc' := 103) ja_M_tell_102 rfl rfl ?_
                  refine q_getf (pc' := 106) (v := .ref 174) ja_M_tell_103 rfl (by decide) ⟨rfl, by decide⟩ rfl ?_
                  refine q_aload_n (pc' := 107) ja_M_tell_106 rfl rfl ?_
                  refine q_getf (pc' := 110) (v := .int (s2 146 19)) ja_M_tell_107 rfl (by decide) ⟨rfl, by decide⟩ rfl ?_
                  refine q_iload_n (pc' := 111) ja_M_tell_110 rfl rfl ?_
                  refine q_iast (pc' := 112) ja_M_tell_111 rfl (by decide) (l := 5) rfl (k9 h2 h4 h5 h7 h8 h10 h12 h13 s1 e1 s2 e2) ?_
                  intro s3 e3
                  refine q_aload_n (pc' := 113) ja_M_tell_112 rfl rfl ?_
                  refine q_dup (pc' := 114) ja_M_tell_113 rfl rfl ?_
                  refine q_getf (pc' := 117) (v := .int (s3 146 19)) ja_M_tell_114 rfl (by decide) ⟨rfl, by decide⟩ rfl ?_
                  refine q_iconst (pc' := 118) ja_M_tell_117 rfl 1 (by decide) ?_
                  refine q_iadd (pc' := 119) ja_M_tell_118 rfl ?_
                  refine q_putf (pc' := 122) ja_M_tell_119 rfl (by decide) rfl rfl rfl ?_
                  intro s4 e4
                  refine q_aload_n (pc' := 123) ja_M_tell_122 rfl rfl ?_
                  refine q_getf (pc' := 126) (v := .int (s4 146 19)) ja_M_tell_123 rfl (by decide) ⟨rfl, by decide⟩ rfl ?_
                  exact q_iret ja_M_tell_126 rfl rfl (k10 h2 h4 h5 h7 h8 h10 h12 h13 s1 e1 s2 e2 s3 e3 s4 e4)
                · intro h14
                  refine q_bipush (pc' := 81) ja_M_tell_79 rfl (-4) (by decide) ?_
                  exact q_iret ja_M_tell_81 rfl rfl (k11 h2 h4 h5 h7 h8 h10 h12 h14)
          · intro h15
            refine q_iconst (pc' := 46) ja_M_tell_45 rfl 0 (by decide) ?_
            refine q_goto ja_M_tell_46 ?_
            refine q_isub (pc' := 51) ja_M_tell_50 rfl ?_
            refine q_stat (pc' := 54) (as := [.int a2, .int 0, .int ((s 153 (s 146 13).toNatClampNeg) - 0)]) (r := []) ja_M_tell_51 rfl (by decide) rfl rfl ?_
            refine q_in (M := jm_M_in) rfl (Nat.le_of_ble_eq_true rfl) (ls := [some (.int a2), some (.int 0), some (.int ((s 153 (s 146 13).toNatClampNeg) - 0))]) rfl ?_
            refine q_iload_n (pc' := 1) ja_M_in_0 rfl rfl ?_
            refine q_iload_n (pc' := 2) ja_M_in_1 rfl rfl ?_
            refine q_ic_lt (pc' := 5) ja_M_in_2 rfl ?_ ?_
            · intro h16
              refine q_iconst (pc' := 15) ja_M_in_14 rfl 0 (by decide) ?_
              refine q_iret ja_M_in_15 rfl (by decide) ?_
              show q_W _ _ _ _ 54 [some (.ref 146), some (.int a1), some (.int a2), some (.int a3)] [.int 0] s
              refine q_if_ne (pc' := 57) ja_M_tell_54 rfl (fun h => absurd ((by decide : (0 : Int32) = 0)) h) (fun _ => ?_)
              refine q_bipush (pc' := 59) ja_M_tell_57 rfl (-2) (by decide) ?_
              exact q_iret ja_M_tell_59 rfl rfl (k12 h2 h4 h5 h7 h15 h16)
            · intro h17
              refine q_iload_n (pc' := 6) ja_M_in_5 rfl rfl ?_
              refine q_iload_n (pc' := 7) ja_M_in_6 rfl rfl ?_
              refine q_ic_gt (pc' := 10) ja_M_in_7 rfl ?_ ?_
              · intro h18
                refine q_iconst (pc' := 15) ja_M_in_14 rfl 0 (by decide) ?_
                refine q_iret ja_M_in_15 rfl (by decide) ?_
                show q_W _ _ _ _ 54 [some (.ref 146), some (.int a1), some (.int a2), some (.int a3)] [.int 0] s
                refine q_if_ne (pc' := 57) ja_M_tell_54 rfl (fun h => absurd ((by decide : (0 : Int32) = 0)) h) (fun _ => ?_)
                refine q_bipush (pc' := 59) ja_M_tell_57 rfl (-2) (by decide) ?_
                exact q_iret ja_M_tell_59 rfl rfl (k13 h2 h4 h5 h7 h15 h17 h18)
              · intro h19
                refine q_iconst (pc' := 11) ja_M_in_10 rfl 1 (by decide) ?_
                refine q_goto ja_M_in_11 ?_
                refine q_iret ja_M_in_15 rfl (by decide) ?_
                show q_W _ _ _ _ 54 [some (.ref 146), some (.int a1), some (.int a2), some (.int a3)] [.int 1] s
                refine q_if_ne (pc' := 57) ja_M_tell_54 rfl (fun _ => ?_) (fun h => absurd h ((by decide : ¬ (1 : Int32) = 0)))
                refine q_aload_n (pc' := 61) ja_M_tell_60 rfl rfl ?_
                refine q_getf (pc' := 64) (v := .int (s 146 13)) ja_M_tell_61 rfl (by decide) ⟨rfl, by decide⟩ rfl ?_
                refine q_iconst (pc' := 65) ja_M_tell_64 rfl (-1) (by decide) ?_
                refine q_ic_ne (pc' := 68) ja_M_tell_65 rfl (fun _ => ?_) (fun h => absurd h (h7))
                refine q_aload_n (pc' := 72) ja_M_tell_71 rfl rfl ?_
                refine q_getf (pc' := 75) (v := .int (s 146 19)) ja_M_tell_72 rfl (by decide) ⟨rfl, by decide⟩ rfl ?_
                refine q_iconst (pc' := 76) ja_M_tell_75 rfl 5 (by decide) ?_
                refine q_ic_ne (pc' := 79) ja_M_tell_76 rfl ?_ ?_
                · intro h20
                  refine q_aload_n (pc' := 83) ja_M_tell_82 rfl rfl ?_
                  refine q_getf (pc' := 86) (v := .ref 172) ja_M_tell_83 rfl (by decide) ⟨rfl, by decide⟩ rfl ?_
                  refine q_aload_n (pc' := 87) ja_M_tell_86 rfl rfl ?_
                  refine q_getf (pc' := 90) (v := .int (s 146 19)) ja_M_tell_87 rfl (by decide) ⟨rfl, by decide⟩ rfl ?_
                  refine q_iload_n (pc' := 91) ja_M_tell_90 rfl rfl ?_
                  refine q_iast (pc' := 92) ja_M_tell_91 rfl (by decide) (l := 5) rfl (k14 h2 h4 h5 h7 h15 h17 h19 h20) ?_
                  intro s5 e5
                  refine q_aload_n (pc' := 93) ja_M_tell_92 rfl rfl ?_
                  refine q_getf (pc' := 96) (v := .ref 173) ja_M_tell_93 rfl (by decide) ⟨rfl, by decide⟩ rfl ?_
                  refine q_aload_n (pc' := 97) ja_M_tell_96 rfl rfl ?_
                  refine q_getf (pc' := 100) (v := .int (s5 146 19)) ja_M_tell_97 rfl (by decide) ⟨rfl, by decide⟩ rfl ?_
                  refine q_iload_n (pc' := 101) ja_M_tell_100 rfl rfl ?_
                  refine q_iast (pc' := 102) ja_M_tell_101 rfl (by decide) (l := 5) rfl (k15 h2 h4 h5 h7 h15 h17 h19 h20 s5 e5) ?_
                  intro s6 e6
                  refine q_aload_n (pc' := 103) ja_M_tell_102 rfl rfl ?_
                  refine q_getf (pc' := 106) (v := .ref 174) ja_M_tell_103 rfl (by decide) ⟨rfl, by decide⟩ rfl ?_
                  refine q_aload_n (pc' := 107) ja_M_tell_106 rfl rfl ?_
                  refine q_getf (pc' := 110) (v := .int (s6 146 19)) ja_M_tell_107 rfl (by decide) ⟨rfl, by decide⟩ rfl ?_
                  refine q_iload_n (pc' := 111) ja_M_tell_110 rfl rfl ?_
                  refine q_iast (pc' := 112) ja_M_tell_111 rfl (by decide) (l := 5) rfl (k16 h2 h4 h5 h7 h15 h17 h19 h20 s5 e5 s6 e6) ?_
                  intro s7 e7
                  refine q_aload_n (pc' := 113) ja_M_tell_112 rfl rfl ?_
                  refine q_dup (pc' := 114) ja_M_tell_113 rfl rfl ?_
                  refine q_getf (pc' := 117) (v := .int (s7 146 19)) ja_M_tell_114 rfl (by decide) ⟨rfl, by decide⟩ rfl ?_
                  refine q_iconst (pc' := 118) ja_M_tell_117 rfl 1 (by decide) ?_
                  refine q_iadd (pc' := 119) ja_M_tell_118 rfl ?_
                  refine q_putf (pc' := 122) ja_M_tell_119 rfl (by decide) rfl rfl rfl ?_
                  intro s8 e8
                  refine q_aload_n (pc' := 123) ja_M_tell_122 rfl rfl ?_
                  refine q_getf (pc' := 126) (v := .int (s8 146 19)) ja_M_tell_123 rfl (by decide) ⟨rfl, by decide⟩ rfl ?_
                  exact q_iret ja_M_tell_126 rfl rfl (k17 h2 h4 h5 h7 h15 h17 h19 h20 s5 e5 s6 e6 s7 e7 s8 e8)
                · intro h21
                  refine q_bipush (pc' := 81) ja_M_tell_79 rfl (-4) (by decide) ?_
                  exact q_iret ja_M_tell_81 rfl rfl (k18 h2 h4 h5 h7 h15 h17 h19 h21)
      · intro h22
        refine q_iload_n (pc' := 15) ja_M_tell_14 rfl rfl ?_
        refine q_stat (pc' := 18) (as := [.int a3]) (r := []) ja_M_tell_15 rfl (by decide) rfl rfl ?_
        refine q_in (M := jm_M_isWord) rfl (Nat.le_of_ble_eq_true rfl) (ls := [some (.int a3)]) rfl ?_
        refine q_iload_n (pc' := 1) ja_M_isWord_0 rfl rfl ?_
        refine q_iconst (pc' := 2) ja_M_isWord_1 rfl 1 (by decide) ?_
        refine q_bipush (pc' := 4) ja_M_isWord_2 rfl 60 (by decide) ?_
        refine q_stat (pc' := 7) (as := [.int a3, .int 1, .int 60]) (r := []) ja_M_isWord_4 rfl (by decide) rfl rfl ?_
        refine q_in (M := jm_M_in) rfl (Nat.le_of_ble_eq_true rfl) (ls := [some (.int a3), some (.int 1), some (.int 60)]) rfl ?_
        refine q_iload_n (pc' := 1) ja_M_in_0 rfl rfl ?_
        refine q_iload_n (pc' := 2) ja_M_in_1 rfl rfl ?_
        refine q_ic_lt (pc' := 5) ja_M_in_2 rfl ?_ ?_
        · intro h23
          refine q_iconst (pc' := 15) ja_M_in_14 rfl 0 (by decide) ?_
          refine q_iret ja_M_in_15 rfl (by decide) ?_
          show q_W _ _ _ _ 7 [some (.int a3)] [.int 0] s
          refine q_iret ja_M_isWord_7 rfl (by decide) ?_
          show q_W _ _ _ _ 18 [some (.ref 146), some (.int a1), some (.int a2), some (.int a3)] [.int 0] s
          refine q_if_eq (pc' := 21) ja_M_tell_18 rfl (fun _ => ?_) (fun h => absurd ((by decide : (0 : Int32) = 0)) h)
          refine q_bipush (pc' := 59) ja_M_tell_57 rfl (-2) (by decide) ?_
          exact q_iret ja_M_tell_59 rfl rfl (k19 h2 h4 h22 h23)
        · intro h24
          refine q_iload_n (pc' := 6) ja_M_in_5 rfl rfl ?_
          refine q_iload_n (pc' := 7) ja_M_in_6 rfl rfl ?_
          refine q_ic_gt (pc' := 10) ja_M_in_7 rfl ?_ ?_
          · intro h25
            refine q_iconst (pc' := 15) ja_M_in_14 rfl 0 (by decide) ?_
            refine q_iret ja_M_in_15 rfl (by decide) ?_
            show q_W _ _ _ _ 7 [some (.int a3)] [.int 0] s
            refine q_iret ja_M_isWord_7 rfl (by decide) ?_
            show q_W _ _ _ _ 18 [some (.ref 146), some (.int a1), some (.int a2), some (.int a3)] [.int 0] s
            refine q_if_eq (pc' := 21) ja_M_tell_18 rfl (fun _ => ?_) (fun h => absurd ((by decide : (0 : Int32) = 0)) h)
            refine q_bipush (pc' := 59) ja_M_tell_57 rfl (-2) (by decide) ?_
            exact q_iret ja_M_tell_59 rfl rfl (k20 h2 h4 h22 h24 h25)
          · intro h26
            refine q_iconst (pc' := 11) ja_M_in_10 rfl 1 (by decide) ?_
            refine q_goto ja_M_in_11 ?_
            refine q_iret ja_M_in_15 rfl (by decide) ?_
            show q_W _ _ _ _ 7 [some (.int a3)] [.int 1] s
            refine q_iret ja_M_isWord_7 rfl (by decide) ?_
            show q_W _ _ _ _ 18 [some (.ref 146), some (.int a1), some (.int a2), some (.int a3)] [.int 1] s
            refine q_if_eq (pc' := 21) ja_M_tell_18 rfl (fun h => absurd h ((by decide : ¬ (1 : Int32) = 0))) (fun _ => ?_)
            refine q_aload_n (pc' := 22) ja_M_tell_21 rfl rfl ?_
            refine q_getf (pc' := 25) (v := .int (s 146 13)) ja_M_tell_22 rfl (by decide) ⟨rfl, by decide⟩ rfl ?_
            refine q_iconst (pc' := 26) ja_M_tell_25 rfl (-1) (by decide) ?_
            refine q_ic_eq (pc' := 29) ja_M_tell_26 rfl ?_ ?_
            · intro h27
              refine q_aload_n (pc' := 61) ja_M_tell_60 rfl rfl ?_
              refine q_getf (pc' := 64) (v := .int (s 146 13)) ja_M_tell_61 rfl (by decide) ⟨rfl, by decide⟩ rfl ?_
              refine q_iconst (pc' := 65) ja_M_tell_64 rfl (-1) (by decide) ?_
              refine q_ic_ne (pc' := 68) ja_M_tell_65 rfl (fun h => absurd (h27) h) (fun _ => ?_)
              refine q_bipush (pc' := 70) ja_M_tell_68 rfl (-3) (by decide) ?_
              exact q_iret ja_M_tell_70 rfl rfl (k21 h2 h4 h22 h24 h26 h27)
            · intro h28
              refine q_iload_n (pc' := 30) ja_M_tell_29 rfl rfl ?_
              refine q_iconst (pc' := 31) ja_M_tell_30 rfl 0 (by decide) ?_
              refine q_aload_n (pc' := 32) ja_M_tell_31 rfl rfl ?_
              refine q_getf (pc' := 35) (v := .ref 153) ja_M_tell_32 rfl (by decide) ⟨rfl, by decide⟩ rfl ?_
              refine q_aload_n (pc' := 36) ja_M_tell_35 rfl rfl ?_
              refine q_getf (pc' := 39) (v := .int (s 146 13)) ja_M_tell_36 rfl (by decide) ⟨rfl, by decide⟩ rfl ?_
              refine q_iald (pc' := 40) (v := .int (s 153 (s 146 13).toNatClampNeg)) ja_M_tell_39 rfl (by decide) (l := 8) rfl (k22 h2 h4 h22 h24 h26 h28) rfl ?_
              refine q_iload_n (pc' := 41) ja_M_tell_40 rfl rfl ?_
              refine q_iconst (pc' := 42) ja_M_tell_41 rfl 2 (by decide) ?_
              refine q_ic_ne (pc' := 45) ja_M_tell_42 rfl ?_ ?_
              · intro h29
                refine q_iconst (pc' := 50) ja_M_tell_49 rfl 1 (by decide) ?_
                refine q_isub (pc' := 51) ja_M_tell_50 rfl ?_
                refine q_stat (pc' := 54) (as := [.int a2, .int 0, .int ((s 153 (s 146 13).toNatClampNeg) - 1)]) (r := []) ja_M_tell_51 rfl (by decide) rfl rfl ?_
                refine q_in (M := jm_M_in) rfl (Nat.le_of_ble_eq_true rfl) (ls := [some (.int a2), some (.int 0), some (.int ((s 153 (s 146 13).toNatClampNeg) - 1))]) rfl ?_
                refine q_iload_n (pc' := 1) ja_M_in_0 rfl rfl ?_
                refine q_iload_n (pc' := 2) ja_M_in_1 rfl rfl ?_
                refine q_ic_lt (pc' := 5) ja_M_in_2 rfl ?_ ?_
                · intro h30
                  refine q_iconst (pc' := 15) ja_M_in_14 rfl 0 (by decide) ?_
                  refine q_iret ja_M_in_15 rfl (by decide) ?_
                  show q_W _ _ _ _ 54 [some (.ref 146), some (.int a1), some (.int a2), some (.int a3)] [.int 0] s
                  refine q_if_ne (pc' := 57) ja_M_tell_54 rfl (fun h => absurd ((by decide : (0 : Int32) = 0)) h) (fun _ => ?_)
                  refine q_bipush (pc' := 59) ja_M_tell_57 rfl (-2) (by decide) ?_
                  exact q_iret ja_M_tell_59 rfl rfl (k23 h2 h4 h22 h24 h26 h28 h29 h30)
                · intro h31
                  refine q_iload_n (pc' := 6) ja_M_in_5 rfl rfl ?_
                  refine q_iload_n (pc' := 7) ja_M_in_6 rfl rfl ?_
                  refine q_ic_gt (pc' := 10) ja_M_in_7 rfl ?_ ?_
                  · intro h32
                    refine q_iconst (pc' := 15) ja_M_in_14 rfl 0 (by decide) ?_
                    refine q_iret ja_M_in_15 rfl (by decide) ?_
                    show q_W _ _ _ _ 54 [some (.ref 146), some (.int a1), some (.int a2), some (.int a3)] [.int 0] s
                    refine q_if_ne (pc' := 57) ja_M_tell_54 rfl (fun h => absurd ((by decide : (0 : Int32) = 0)) h) (fun _ => ?_)
                    refine q_bipush (pc' := 59) ja_M_tell_57 rfl (-2) (by decide) ?_
                    exact q_iret ja_M_tell_59 rfl rfl (k24 h2 h4 h22 h24 h26 h28 h29 h31 h32)
                  · intro h33
                    refine q_iconst (pc' := 11) ja_M_in_10 rfl 1 (by decide) ?_
                    refine q_goto ja_M_in_11 ?_
                    refine q_iret ja_M_in_15 rfl (by decide) ?_
                    show q_W _ _ _ _ 54 [some (.ref 146), some (.int a1), some (.int a2), some (.int a3)] [.int 1] s
                    refine q_if_ne (pc' := 57) ja_M_tell_54 rfl (fun _ => ?_) (fun h => absurd h ((by decide : ¬ (1 : Int32) = 0)))
                    refine q_aload_n (pc' := 61) ja_M_tell_60 rfl rfl ?_
                    refine q_getf (pc' := 64) (v := .int (s 146 13)) ja_M_tell_61 rfl (by decide) ⟨rfl, by decide⟩ rfl ?_
                    refine q_iconst (pc' := 65) ja_M_tell_64 rfl (-1) (by decide) ?_
                    refine q_ic_ne (pc' := 68) ja_M_tell_65 rfl (fun _ => ?_) (fun h => absurd h (h28))
                    refine q_aload_n (pc' := 72) ja_M_tell_71 rfl rfl ?_
                    refine q_getf (pc' := 75) (v := .int (s 146 19)) ja_M_tell_72 rfl (by decide) ⟨rfl, by decide⟩ rfl ?_
                    refine q_iconst (pc' := 76) ja_M_tell_75 rfl 5 (by decide) ?_
                    refine q_ic_ne (pc' := 79) ja_M_tell_76 rfl ?_ ?_
                    · intro h34
                      refine q_aload_n (pc' := 83) ja_M_tell_82 rfl rfl ?_
                      refine q_getf (pc' := 86) (v := .ref 172) ja_M_tell_83 rfl (by decide) ⟨rfl, by decide⟩ rfl ?_
                      refine q_aload_n (pc' := 87) ja_M_tell_86 rfl rfl ?_
                      refine q_getf (pc' := 90) (v := .int (s 146 19)) ja_M_tell_87 rfl (by decide) ⟨rfl, by decide⟩ rfl ?_
                      refine q_iload_n (pc' := 91) ja_M_tell_90 rfl rfl ?_
                      refine q_iast (pc' := 92) ja_M_tell_91 rfl (by decide) (l := 5) rfl (k25 h2 h4 h22 h24 h26 h28 h29 h31 h33 h34) ?_
                      intro s9 e9
                      refine q_aload_n (pc' := 93) ja_M_tell_92 rfl rfl ?_
                      refine q_getf (pc' := 96) (v := .ref 173) ja_M_tell_93 rfl (by decide) ⟨rfl, by decide⟩ rfl ?_
                      refine q_aload_n (pc' := 97) ja_M_tell_96 rfl rfl ?_
                      refine q_getf (pc' := 100) (v := .int (s9 146 19)) ja_M_tell_97 rfl (by decide) ⟨rfl, by decide⟩ rfl ?_
                      refine q_iload_n (pc' := 101) ja_M_tell_100 rfl rfl ?_
                      refine q_iast (pc' := 102) ja_M_tell_101 rfl (by decide) (l := 5) rfl (k26 h2 h4 h22 h24 h26 h28 h29 h31 h33 h34 s9 e9) ?_
                      intro s10 e10
                      refine q_aload_n (pc' := 103) ja_M_tell_102 rfl rfl ?_
                      refine q_getf (pc' := 106) (v := .ref 174) ja_M_tell_103 rfl (by decide) ⟨rfl, by decide⟩ rfl ?_
                      refine q_aload_n (pc' := 107) ja_M_tell_106 rfl rfl ?_
                      refine q_getf (pc' := 110) (v := .int (s10 146 19)) ja_M_tell_107 rfl (by decide) ⟨rfl, by decide⟩ rfl ?_
                      refine q_iload_n (pc' := 111) ja_M_tell_110 rfl rfl ?_
                      refine q_iast (pc' := 112) ja_M_tell_111 rfl (by decide) (l := 5) rfl (k27 h2 h4 h22 h24 h26 h28 h29 h31 h33 h34 s9 e9 s10 e10) ?_
                      intro s11 e11
                      refine q_aload_n (pc' := 113) ja_M_tell_112 rfl rfl ?_
                      refine q_dup (pc' := 114) ja_M_tell_113 rfl rfl ?_
                      refine q_getf (pc' := 117) (v := .int (s11 146 19)) ja_M_tell_114 rfl (by decide) ⟨rfl, by decide⟩ rfl ?_
                      refine q_iconst (pc' := 118) ja_M_tell_117 rfl 1 (by decide) ?_
                      refine q_iadd (pc' := 119) ja_M_tell_118 rfl ?_
                      refine q_putf (pc' := 122) ja_M_tell_119 rfl (by decide) rfl rfl rfl ?_
                      intro s12 e12
                      refine q_aload_n (pc' := 123) ja_M_tell_122 rfl rfl ?_
                      refine q_getf (pc' := 126) (v := .int (s12 146 19)) ja_M_tell_123 rfl (by decide) ⟨rfl, by decide⟩ rfl ?_
                      exact q_iret ja_M_tell_126 rfl rfl (k28 h2 h4 h22 h24 h26 h28 h29 h31 h33 h34 s9 e9 s10 e10 s11 e11 s12 e12)
                    · intro h35
                      refine q_bipush (pc' := 81) ja_M_tell_79 rfl (-4) (by decide) ?_
                      exact q_iret ja_M_tell_81 rfl rfl (k29 h2 h4 h22 h24 h26 h28 h29 h31 h33 h35)
              · intro h36
                refine q_iconst (pc' := 46) ja_M_tell_45 rfl 0 (by decide) ?_
                refine q_goto ja_M_tell_46 ?_
                refine q_isub (pc' := 51) ja_M_tell_50 rfl ?_
                refine q_stat (pc' := 54) (as := [.int a2, .int 0, .int ((s 153 (s 146 13).toNatClampNeg) - 0)]) (r := []) ja_M_tell_51 rfl (by decide) rfl rfl ?_
                refine q_in (M := jm_M_in) rfl (Nat.le_of_ble_eq_true rfl) (ls := [some (.int a2), some (.int 0), some (.int ((s 153 (s 146 13).toNatClampNeg) - 0))]) rfl ?_
                refine q_iload_n (pc' := 1) ja_M_in_0 rfl rfl ?_
                refine q_iload_n (pc' := 2) ja_M_in_1 rfl rfl ?_
                refine q_ic_lt (pc' := 5) ja_M_in_2 rfl ?_ ?_
                · intro h37
                  refine q_iconst (pc' := 15) ja_M_in_14 rfl 0 (by decide) ?_
                  refine q_iret ja_M_in_15 rfl (by decide) ?_
                  show q_W _ _ _ _ 54 [some (.ref 146), some (.int a1), some (.int a2), some (.int a3)] [.int 0] s
                  refine q_if_ne (pc' := 57) ja_M_tell_54 rfl (fun h => absurd ((by decide : (0 : Int32) = 0)) h) (fun _ => ?_)
                  refine q_bipush (pc' := 59) ja_M_tell_57 rfl (-2) (by decide) ?_
                  exact q_iret ja_M_tell_59 rfl rfl (k30 h2 h4 h22 h24 h26 h28 h36 h37)
                · intro h38
                  refine q_iload_n (pc' := 6) ja_M_in_5 rfl rfl ?_
                  refine q_iload_n (pc' := 7) ja_M_in_6 rfl rfl ?_
                  refine q_ic_gt (pc' := 10) ja_M_in_7 rfl ?_ ?_
                  · intro h39
                    refine q_iconst (pc' := 15) ja_M_in_14 rfl 0 (by decide) ?_
                    refine q_iret ja_M_in_15 rfl (by decide) ?_
                    show q_W _ _ _ _ 54 [some (.ref 146), some (.int a1), some (.int a2), some (.int a3)] [.int 0] s
                    refine q_if_ne (pc' := 57) ja_M_tell_54 rfl (fun h => absurd ((by decide : (0 : Int32) = 0)) h) (fun _ => ?_)
                    refine q_bipush (pc' := 59) ja_M_tell_57 rfl (-2) (by decide) ?_
                    exact q_iret ja_M_tell_59 rfl rfl (k31 h2 h4 h22 h24 h26 h28 h36 h38 h39)
                  · intro h40
                    refine q_iconst (pc' := 11) ja_M_in_10 rfl 1 (by decide) ?_
                    refine q_goto ja_M_in_11 ?_
                    refine q_iret ja_M_in_15 rfl (by decide) ?_
                    show q_W _ _ _ _ 54 [some (.ref 146), some (.int a1), some (.int a2), some (.int a3)] [.int 1] s
                    refine q_if_ne (pc' := 57) ja_M_tell_54 rfl (fun _ => ?_) (fun h => absurd h ((by decide : ¬ (1 : Int32) = 0)))
                    refine q_aload_n (pc' := 61) ja_M_tell_60 rfl rfl ?_
                    refine q_getf (pc' := 64) (v := .int (s 146 13)) ja_M_tell_61 rfl (by decide) ⟨rfl, by decide⟩ rfl ?_
                    refine q_iconst (pc' := 65) ja_M_tell_64 rfl (-1) (by decide) ?_
                    refine q_ic_ne (pc' := 68) ja_M_tell_65 rfl (fun _ => ?_) (fun h => absurd h (h28))
                    refine q_aload_n (pc' := 72) ja_M_tell_71 rfl rfl ?_
                    refine q_getf (pc' := 75) (v := .int (s 146 19)) ja_M_tell_72 rfl (by decide) ⟨rfl, by decide⟩ rfl ?_
                    refine q_iconst (pc' := 76) ja_M_tell_75 rfl 5 (by decide) ?_
                    refine q_ic_ne (pc' := 79) ja_M_tell_76 rfl ?_ ?_
                    · intro h41
                      refine q_aload_n (pc' := 83) ja_M_tell_82 rfl rfl ?_
                      refine q_getf (pc' := 86) (v := .ref 172) ja_M_tell_83 rfl (by decide) ⟨rfl, by decide⟩ rfl ?_
                      refine q_aload_n (pc' := 87) ja_M_tell_86 rfl rfl ?_
                      refine q_getf (pc' := 90) (v := .int (s 146 19)) ja_M_tell_87 rfl (by decide) ⟨rfl, by decide⟩ rfl ?_
                      refine q_iload_n (pc' := 91) ja_M_tell_90 rfl rfl ?_
                      refine q_iast (pc' := 92) ja_M_tell_91 rfl (by decide) (l := 5) rfl (k32 h2 h4 h22 h24 h26 h28 h36 h38 h40 h41) ?_
                      intro s13 e13
                      refine q_aload_n (pc' := 93) ja_M_tell_92 rfl rfl ?_
                      refine q_getf (pc' := 96) (v := .ref 173) ja_M_tell_93 rfl (by decide) ⟨rfl, by decide⟩ rfl ?_
                      refine q_aload_n (pc' := 97) ja_M_tell_96 rfl rfl ?_
                      refine q_getf (pc' := 100) (v := .int (s13 146 19)) ja_M_tell_97 rfl (by decide) ⟨rfl, by decide⟩ rfl ?_
                      refine q_iload_n (pc' := 101) ja_M_tell_100 rfl rfl ?_
                      refine q_iast (pc' := 102) ja_M_tell_101 rfl (by decide) (l := 5) rfl (k33 h2 h4 h22 h24 h26 h28 h36 h38 h40 h41 s13 e13) ?_
                      intro s14 e14
                      refine q_aload_n (pc' := 103) ja_M_tell_102 rfl rfl ?_
                      refine q_getf (pc' := 106) (v := .ref 174) ja_M_tell_103 rfl (by decide) ⟨rfl, by decide⟩ rfl ?_
                      refine q_aload_n (pc' := 107) ja_M_tell_106 rfl rfl ?_
                      refine q_getf (pc' := 110) (v := .int (s14 146 19)) ja_M_tell_107 rfl (by decide) ⟨rfl, by decide⟩ rfl ?_
                      refine q_iload_n (pc' := 111) ja_M_tell_110 rfl rfl ?_
                      refine q_iast (pc' := 112) ja_M_tell_111 rfl (by decide) (l := 5) rfl (k34 h2 h4 h22 h24 h26 h28 h36 h38 h40 h41 s13 e13 s14 e14) ?_
                      intro s15 e15
                      refine q_aload_n (pc' := 113) ja_M_tell_112 rfl rfl ?_
                      refine q_dup (pc' := 114) ja_M_tell_113 rfl rfl ?_
                      refine q_getf (pc' := 117) (v := .int (s15 146 19)) ja_M_tell_114 rfl (by decide) ⟨rfl, by decide⟩ rfl ?_
                      refine q_iconst (pc' := 118) ja_M_tell_117 rfl 1 (by decide) ?_
                      refine q_iadd (pc' := 119) ja_M_tell_118 rfl ?_
                      refine q_putf (pc' := 122) ja_M_tell_119 rfl (by decide) rfl rfl rfl ?_
                      intro s16 e16
                      refine q_aload_n (pc' := 123) ja_M_tell_122 rfl rfl ?_
                      refine q_getf (pc' := 126) (v := .int (s16 146 19)) ja_M_tell_123 rfl (by decide) ⟨rfl, by decide⟩ rfl ?_
                      exact q_iret ja_M_tell_126 rfl rfl (k35 h2 h4 h22 h24 h26 h28 h36 h38 h40 h41 s13 e13 s14 e14 s15 e15 s16 e16)
                    · intro h42
                      refine q_bipush (pc' := 81) ja_M_tell_79 rfl (-4) (by decide) ?_
                      exact q_iret ja_M_tell_81 rfl rfl (k36 h2 h4 h22 h24 h26 h28 h36 h38 h40 h42)
set_option maxRecDepth 20000 in
theorem t_M_term {G : jv_X} {d : Nat} {B : Option Value → jg_H → Prop} {s : jg_H} 
    (k1 : q_P G (d + 1) 150 [.ref 146] s (fun v t => q_W G (d + 1) jm_M_term B 4 [some (.ref 146)] (v.toList ++ []) t)) :
    q_P G (d + 2) 149 [.ref 146] s B := by
  refine q_in (M := jm_M_term) rfl (Nat.le_of_ble_eq_true rfl) (ls := [some (.ref 146)]) rfl ?_
  refine q_aload_n (pc' := 1) ja_M_term_0 rfl rfl ?_
  refine q_virt (pc' := 4) (c := 146) (as := []) (r := []) ja_M_term_1 rfl rfl rfl (by decide) ⟨rfl, by decide⟩ ?_
  exact k1
set_option maxRecDepth 20000 in
theorem t_M_term_4 {G : jv_X} {d : Nat} {B : Option Value → jg_H → Prop} {s : jg_H} 
    (k1 : (s 146 44) = (-1) → ¬ (s 146 42) = 42 → B none s)
    (k2 : (s 146 44) = (-1) → (s 146 42) = 42 → q_P G (d + 1) 134 [.ref 146] s (fun v t => q_W G (d + 1) jm_M_term B 24 [some (.ref 146)] (v.toList ++ []) t))
    (k3 : ¬ (s 146 44) = (-1) → B none s) :
    q_W G (d + 1) jm_M_term B 4 [some (.ref 146)] [] s := by
  refine q_aload_n (pc' := 5) ja_M_term_4 rfl rfl ?_
  refine q_virt (pc' := 8) (c := 146) (as := []) (r := []) ja_M_term_5 rfl rfl rfl (by decide) ⟨rfl, by decide⟩ ?_
  refine q_in (M := jm_M_isWrong) rfl (Nat.le_of_ble_eq_true rfl) (ls := [some (.ref 146)]) rfl ?_
  refine q_aload_n (pc' := 1) ja_M_isWrong_0 rfl rfl ?_
  refine q_getf (pc' := 4) (v := .int (s 146 44)) ja_M_isWrong_1 rfl (by decide) ⟨rfl, by decide⟩ rfl ?_
  refine q_iconst (pc' := 5) ja_M_isWrong_4 rfl (-1) (by decide) ?_
  refine q_ic_eq (pc' := 8) ja_M_isWrong_5 rfl ?_ ?_
  · intro h1
    refine q_iconst (pc' := 13) ja_M_isWrong_12 rfl 0 (by decide) ?_
    refine q_iret ja_M_isWrong_13 rfl (by decide) ?_
    show q_W _ _ _ _ 8 [some (.ref 146)] [.int 0] s
    refine q_if_ne (pc' := 11) ja_M_term_8 rfl (fun h => absurd ((by decide : (0 : Int32) = 0)) h) (fun _ => ?_)
    refine q_aload_n (pc' := 12) ja_M_term_11 rfl rfl ?_
    refine q_getf (pc' := 15) (v := .int (s 146 42)) ja_M_term_12 rfl (by decide) ⟨rfl, by decide⟩ rfl ?_
    refine q_bipush (pc' := 17) ja_M_term_15 rfl 42 (by decide) ?_
    refine q_ic_ne (pc' := 20) ja_M_term_17 rfl ?_ ?_
    · intro h2
      exact q_vret ja_M_term_38 rfl (k1 h1 h2)
    · intro h3
      refine q_aload_n (pc' := 21) ja_M_term_20 rfl rfl ?_
      refine q_virt (pc' := 24) (c := 146) (as := []) (r := []) ja_M_term_21 rfl rfl rfl (by decide) ⟨rfl, by decide⟩ ?_
      exact (k2 h1 h3)
  · intro h4
    refine q_iconst (pc' := 9) ja_M_isWrong_8 rfl 1 (by decide) ?_
    refine q_goto ja_M_isWrong_9 ?_
    refine q_iret ja_M_isWrong_13 rfl (by decide) ?_
    show q_W _ _ _ _ 8 [some (.ref 146)] [.int 1] s
    refine q_if_ne (pc' := 11) ja_M_term_8 rfl (fun _ => ?_) (fun h => absurd h ((by decide : ¬ (1 : Int32) = 0)))
    exact q_vret ja_M_term_38 rfl (k3 h4)
set_option maxRecDepth 20000 in
theorem t_M_term_24 {G : jv_X} {d : Nat} {B : Option Value → jg_H → Prop} {s : jg_H} 
    (k1 : q_P G (d + 1) 150 [.ref 146] s (fun v t => q_W G (d + 1) jm_M_term B 28 [some (.ref 146)] (v.toList ++ []) t)) :
    q_W G (d + 1) jm_M_term B 24 [some (.ref 146)] [] s := by
  refine q_aload_n (pc' := 25) ja_M_term_24 rfl rfl ?_
  refine q_virt (pc' := 28) (c := 146) (as := []) (r := []) ja_M_term_25 rfl rfl rfl (by decide) ⟨rfl, by decide⟩ ?_
  exact k1
set_option maxRecDepth 20000 in
theorem t_M_term_28 {G : jv_X} {d : Nat} {B : Option Value → jg_H → Prop} {s : jg_H} 
    (k1 : jv_in ((200 * (s 146 39)) + (s 146 46)) 1800 = true)
    (k2 : ∀ s1 : jg_H, s1 = jg_up s 163 ((200 * (s 146 39)) + (s 146 46)).toNatClampNeg 9 → jv_in ((200 * (s1 146 39)) + (s1 146 46)) 1800 = true)
    (k3 : ∀ s1 : jg_H, s1 = jg_up s 163 ((200 * (s 146 39)) + (s 146 46)).toNatClampNeg 9 → ∀ s2 : jg_H, s2 = jg_up s1 164 ((200 * (s1 146 39)) + (s1 146 46)).toNatClampNeg 0 → ∀ s3 : jg_H, s3 = jg_up s2 146 46 ((s2 146 46) + 1) → q_W G (d + 1) jm_M_term B 4 [some (.ref 146)] [] s3) :
    q_W G (d + 1) jm_M_term B 28 [some (.ref 146)] [] s := by
  refine q_aload_n (pc' := 29) ja_M_term_28 rfl rfl ?_
  refine q_bipush (pc' := 31) ja_M_term_29 rfl 9 (by decide) ?_
  refine q_iconst (pc' := 32) ja_M_term_31 rfl 0 (by decide) ?_
  refine q_virt (pc' := 35) (c := 146) (as := [.int 9, .int 0]) (r := []) ja_M_term_32 rfl rfl rfl (by decide) ⟨rfl, by decide⟩ ?_
  refine q_in (M := jm_M_emit) rfl (Nat.le_of_ble_eq_true rfl) (ls := [some (.ref 146), some (.int 9), some (.int 0)]) rfl ?_
  refine q_aload_n (pc' := 1) ja_M_emit_0 rfl rfl ?_
  refine q_getf (pc' := 4) (v := .ref 163) ja_M_emit_1 rfl (by decide) ⟨rfl, by decide⟩ rfl ?_
  refine q_sipush (pc' := 7) ja_M_emit_4 rfl 200 (by decide) ?_
  refine q_aload_n (pc' := 8) ja_M_emit_7 rfl rfl ?_
  refine q_getf (pc' := 11) (v := .int (s 146 39)) ja_M_emit_8 rfl (by decide) ⟨rfl, by decide⟩ rfl ?_
  refine q_imul (pc' := 12) ja_M_emit_11 rfl ?_
  refine q_aload_n (pc' := 13) ja_M_emit_12 rfl rfl ?_
  refine q_getf (pc' := 16) (v := .int (s 146 46)) ja_M_emit_13 rfl (by decide) ⟨rfl, by decide⟩ rfl ?_
  refine q_iadd (pc' := 17) ja_M_emit_16 rfl ?_
  refine q_iload_n (pc' := 18) ja_M_emit_17 rfl rfl ?_
  refine q_iast (pc' := 19) ja_M_emit_18 rfl (by decide) (l := 1800) rfl k1 ?_
  intro s1 e1
  refine q_aload_n (pc' := 20) ja_M_emit_19 rfl rfl ?_
  refine q_getf (pc' := 23) (v := .ref 164) ja_M_emit_20 rfl (by decide) ⟨rfl, by decide⟩ rfl ?_
  refine q_sipush (pc' := 26) ja_M_emit_23 rfl 200 (by decide) ?_
  refine q_aload_n (pc' := 27) ja_M_emit_26 rfl rfl ?_
  refine q_getf (pc' := 30) (v := .int (s1 146 39)) ja_M_emit_27 rfl (by decide) ⟨rfl, by decide⟩ rfl ?_
  refine q_imul (pc' := 31) ja_M_emit_30 rfl ?_
  refine q_aload_n (pc' := 32) ja_M_emit_31 rfl rfl ?_
  refine q_getf (pc' := 35) (v := .int (s1 146 46)) ja_M_emit_32 rfl (by decide) ⟨rfl, by decide⟩ rfl ?_
  refine q_iadd (pc' := 36) ja_M_emit_35 rfl ?_
  refine q_iload_n (pc' := 37) ja_M_emit_36 rfl rfl ?_
  refine q_iast (pc' := 38) ja_M_emit_37 rfl (by decide) (l := 1800) rfl (k2 s1 e1) ?_
  intro s2 e2
  refine q_aload_n (pc' := 39) ja_M_emit_38 rfl rfl ?_
  refine q_dup (pc' := 40) ja_M_emit_39 rfl rfl ?_
  refine q_getf (pc' := 43) (v := .int (s2 146 46)) ja_M_emit_40 rfl (by decide) ⟨rfl, by decide⟩ rfl ?_
  refine q_iconst (pc' := 44) ja_M_emit_43 rfl 1 (by decide) ?_
  refine q_iadd (pc' := 45) ja_M_emit_44 rfl ?_
  refine q_putf (pc' := 48) ja_M_emit_45 rfl (by decide) rfl rfl rfl ?_
  intro s3 e3
  refine q_vret ja_M_emit_48 rfl ?_
  show q_W _ _ _ _ 35 [some (.ref 146)] [] s3
  refine q_goto ja_M_term_35 ?_
  exact (k3 s1 e1 s2 e2 s3 e3)
set_option maxRecDepth 20000 in
theorem t_M_text {G : jv_X} {d : Nat} {B : Option Value → jg_H → Prop} {s : jg_H} 
    (k1 : ¬ (s 146 14) = 8 → ∀ s1 : jg_H, s1 = jg_up s 146 38 (s 146 30) → ∀ s2 : jg_H, s2 = jg_up s1 146 30 0 → q_P G (d + 1) 133 [.ref 146, .int (s2 146 14)] s2 (fun v t => q_W G (d + 1) jm_M_text B 33 [some (.ref 146)] (v.toList ++ []) t))
    (k2 : (s 146 14) = 8 → B (some (.int (-4))) s) :
    q_P G (d + 2) 176 [.ref 146] s B := by
  refine q_in (M := jm_M_text) rfl (Nat.le_of_ble_eq_true rfl) (ls := [some (.ref 146)]) rfl ?_
  refine q_aload_n (pc' := 1) ja_M_text_0 rfl rfl ?_
  refine q_getf (pc' := 4) (v := .int (s 146 14)) ja_M_text_1 rfl (by decide) ⟨rfl, by decide⟩ rfl ?_
  refine q_bipush (pc' := 6) ja_M_text_4 rfl 8 (by decide) ?_
  refine q_ic_ne (pc' := 9) ja_M_text_6 rfl ?_ ?_
  · intro h1
    refine q_aload_n (pc' := 13) ja_M_text_12 rfl rfl ?_
    refine q_aload_n (pc' := 14) ja_M_text_13 rfl rfl ?_
    refine q_getf (pc' := 17) (v := .int (s 146 30)) ja_M_text_14 rfl (by decide) ⟨rfl, by decide⟩ rfl ?_
    refine q_putf (pc' := 20) ja_M_text_17 rfl (by decide) rfl rfl rfl ?_
    intro s1 e1
    refine q_aload_n (pc' := 21) ja_M_text_20 rfl rfl ?_
    refine q_iconst (pc' := 22) ja_M_text_21 rfl 0 (by decide) ?_
    refine q_putf (pc' := 25) ja_M_text_22 rfl (by decide) rfl rfl rfl ?_
    intro s2 e2
    refine q_aload_n (pc' := 26) ja_M_text_25 rfl rfl ?_
    refine q_aload_n (pc' := 27) ja_M_text_26 rfl rfl ?_
    refine q_getf (pc' := 30) (v := .int (s2 146 14)) ja_M_text_27 rfl (by decide) ⟨rfl, by decide⟩ rfl ?_
    refine q_virt (pc' := 33) (c := 146) (as := [.int (s2 146 14)]) (r := []) ja_M_text_30 rfl rfl rfl (by decide) ⟨rfl, by decide⟩ ?_
    exact (k1 h1 s1 e1 s2 e2)
  · intro h2
    refine q_bipush (pc' := 11) ja_M_text_9 rfl (-4) (by decide) ?_
    exact q_iret ja_M_text_11 rfl rfl (k2 h2)
set_option maxRecDepth 20000 in
theorem t_M_text_33 {G : jv_X} {d : Nat} {B : Option Value → jg_H → Prop} {s : jg_H} 
    (k1 : (s 146 44) = (-1) → ∀ s1 : jg_H, s1 = jg_up s 146 14 ((s 146 14) + 1) → B (some (.int ((s1 146 14) - 1))) s1)
    (k2 : ¬ (s 146 44) = (-1) → B (some (.int ((-100) - (s 146 44)))) s) :
    q_W G (d + 1) jm_M_text B 33 [some (.ref 146)] [] s := by
  refine q_aload_n (pc' := 34) ja_M_text_33 rfl rfl ?_
  refine q_virt (pc' := 37) (c := 146) (as := []) (r := []) ja_M_text_34 rfl rfl rfl (by decide) ⟨rfl, by decide⟩ ?_
  refine q_in (M := jm_M_isWrong) rfl (Nat.le_of_ble_eq_true rfl) (ls := [some (.ref 146)]) rfl ?_
  refine q_aload_n (pc' := 1) ja_M_isWrong_0 rfl rfl ?_
  refine q_getf (pc' := 4) (v := .int (s 146 44)) ja_M_isWrong_1 rfl (by decide) ⟨rfl, by decide⟩ rfl ?_
  refine q_iconst (pc' := 5) ja_M_isWrong_4 rfl (-1) (by decide) ?_
  refine q_ic_eq (pc' := 8) ja_M_isWrong_5 rfl ?_ ?_
  · intro h1
    refine q_iconst (pc' := 13) ja_M_isWrong_12 rfl 0 (by decide) ?_
    refine q_iret ja_M_isWrong_13 rfl (by decide) ?_
    show q_W _ _ _ _ 37 [some (.ref 146)] [.int 0] s
    refine q_if_eq (pc' := 40) ja_M_text_37 rfl (fun _ => ?_) (fun h => absurd ((by decide : (0 : Int32) = 0)) h)
    refine q_aload_n (pc' := 49) ja_M_text_48 rfl rfl ?_
    refine q_dup (pc' := 50) ja_M_text_49 rfl rfl ?_
    refine q_getf (pc' := 53) (v := .int (s 146 14)) ja_M_text_50 rfl (by decide) ⟨rfl, by decide⟩ rfl ?_
    refine q_iconst (pc' := 54) ja_M_text_53 rfl 1 (by decide) ?_
    refine q_iadd (pc' := 55) ja_M_text_54 rfl ?_
    refine q_putf (pc' := 58) ja_M_text_55 rfl (by decide) rfl rfl rfl ?_
    intro s1 e1
    refine q_aload_n (pc' := 59) ja_M_text_58 rfl rfl ?_
    refine q_getf (pc' := 62) (v := .int (s1 146 14)) ja_M_text_59 rfl (by decide) ⟨rfl, by decide⟩ rfl ?_
    refine q_iconst (pc' := 63) ja_M_text_62 rfl 1 (by decide) ?_
    refine q_isub (pc' := 64) ja_M_text_63 rfl ?_
    exact q_iret ja_M_text_64 rfl rfl (k1 h1 s1 e1)
  · intro h2
    refine q_iconst (pc' := 9) ja_M_isWrong_8 rfl 1 (by decide) ?_
    refine q_goto ja_M_isWrong_9 ?_
    refine q_iret ja_M_isWrong_13 rfl (by decide) ?_
    show q_W _ _ _ _ 37 [some (.ref 146)] [.int 1] s
    refine q_if_eq (pc' := 40) ja_M_text_37 rfl (fun h => absurd h ((by decide : ¬ (1 : Int32) = 0))) (fun _ => ?_)
    refine q_bipush (pc' := 42) ja_M_text_40 rfl (-100) (by decide) ?_
    refine q_aload_n (pc' := 43) ja_M_text_42 rfl rfl ?_
    refine q_getf (pc' := 46) (v := .int (s 146 44)) ja_M_text_43 rfl (by decide) ⟨rfl, by decide⟩ rfl ?_
    refine q_isub (pc' := 47) ja_M_text_46 rfl ?_
    exact q_iret ja_M_text_47 rfl rfl (k2 h2)
set_option maxRecDepth 20000 in
theorem t_M_there {G : jv_X} {d : Nat} {B : Option Value → jg_H → Prop} {s : jg_H} 
    (k1 : q_W G d jm_M_there B 4 [some (.ref 146), some (.int 0), some (.int 0)] [] s) :
    q_P G (d + 1) 180 [.ref 146] s B := by
  refine q_in (M := jm_M_there) rfl (Nat.le_of_ble_eq_true rfl) (ls := [some (.ref 146), none, none]) rfl ?_
  refine q_iconst (pc' := 1) ja_M_there_0 rfl 0 (by decide) ?_
  refine q_istore_n (pc' := 2) (ls' := [some (.ref 146), some (.int 0), none]) ja_M_there_1 rfl ⟨Nat.le_of_ble_eq_true rfl, rfl⟩ rfl ?_
  refine q_iconst (pc' := 3) ja_M_there_2 rfl 0 (by decide) ?_
  refine q_istore_n (pc' := 4) (ls' := [some (.ref 146), some (.int 0), some (.int 0)]) ja_M_there_3 rfl ⟨Nat.le_of_ble_eq_true rfl, rfl⟩ rfl ?_
  exact k1
set_option maxRecDepth 20000 in
theorem t_M_there_4 {G : jv_X} {d : Nat} {B : Option Value → jg_H → Prop} {s : jg_H} (x1 : Int32) (x2 : Int32)
    (k1 : ¬ x2 < (s 146 0) → B (some (.int x1)) s)
    (k2 : x2 < (s 146 0) → jv_in x2 15 = true)
    (k3 : x2 < (s 146 0) → (s 151 x2.toNatClampNeg) = 0 → q_W G d jm_M_there B 4 [some (.ref 146), some (.int (x1 + 0)), some (.int (x2 + 1))] [] s)
    (k4 : x2 < (s 146 0) → ¬ (s 151 x2.toNatClampNeg) = 0 → q_W G d jm_M_there B 4 [some (.ref 146), some (.int (x1 + 1)), some (.int (x2 + 1))] [] s) :
    q_W G d jm_M_there B 4 [some (.ref 146), some (.int x1), some (.int x2)] [] s := by
  refine q_iload_n (pc' := 5) ja_M_there_4 rfl rfl ?_
  refine q_aload_n (pc' := 6) ja_M_there_5 rfl rfl ?_
  refine q_getf (pc' := 9) (v := .int (s 146 0)) ja_M_there_6 rfl (by decide) ⟨rfl, by decide⟩ rfl ?_
  refine q_ic_ge (pc' := 12) ja_M_there_9 rfl ?_ ?_
  · intro h1
    refine q_iload_n (pc' := 36) ja_M_there_35 rfl rfl ?_
    exact q_iret ja_M_there_36 rfl rfl (k1 h1)
  · intro h2
    refine q_iload_n (pc' := 13) ja_M_there_12 rfl rfl ?_
    refine q_aload_n (pc' := 14) ja_M_there_13 rfl rfl ?_
    refine q_getf (pc' := 17) (v := .ref 151) ja_M_there_14 rfl (by decide) ⟨rfl, by decide⟩ rfl ?_
    refine q_iload_n (pc' := 18) ja_M_there_17 rfl rfl ?_
    refine q_bald (pc' := 19) (v := .int (s 151 x2.toNatClampNeg)) ja_M_there_18 rfl (by decide) (l := 15) rfl (k2 h2) rfl ?_
    refine q_if_eq (pc' := 22) ja_M_there_19 rfl ?_ ?_
    · intro h3
      refine q_iconst (pc' := 27) ja_M_there_26 rfl 0 (by decide) ?_
      refine q_iadd (pc' := 28) ja_M_there_27 rfl ?_
      refine q_istore_n (pc' := 29) (ls' := [some (.ref 146), some (.int (x1 + 0)), some (.int x2)]) ja_M_there_28 rfl ⟨Nat.le_of_ble_eq_true rfl, rfl⟩ rfl ?_
      refine q_iinc (pc' := 32) (ls' := [some (.ref 146), some (.int (x1 + 0)), some (.int (x2 + 1))]) ja_M_there_29 rfl rfl (x2 + 1) rfl ⟨Nat.le_of_ble_eq_true rfl, rfl⟩ rfl ?_
      refine q_goto ja_M_there_32 ?_
      exact (k3 h2 h3)
    · intro h4
      refine q_iconst (pc' := 23) ja_M_there_22 rfl 1 (by decide) ?_
      refine q_goto ja_M_there_23 ?_
      refine q_iadd (pc' := 28) ja_M_there_27 rfl ?_
      refine q_istore_n (pc' := 29) (ls' := [some (.ref 146), some (.int (x1 + 1)), some (.int x2)]) ja_M_there_28 rfl ⟨Nat.le_of_ble_eq_true rfl, rfl⟩ rfl ?_
      refine q_iinc (pc' := 32) (ls' := [some (.ref 146), some (.int (x1 + 1)), some (.int (x2 + 1))]) ja_M_there_29 rfl rfl (x2 + 1) rfl ⟨Nat.le_of_ble_eq_true rfl, rfl⟩ rfl ?_
      refine q_goto ja_M_there_32 ?_
      exact (k4 h2 h4)
set_option maxRecDepth 20000 in
theorem t_M_tray {G : jv_X} {d : Nat} {B : Option Value → jg_H → Prop} {s : jg_H} (a1 : Int32) (a2 : Int32)
    (k1 : a1 < 0 → B (some (.int (-2))) s)
    (k2 : ¬ a1 < 0 → ¬ a1 ≤ 3 → B (some (.int (-2))) s)
    (k3 : ¬ a1 < 0 → a1 ≤ 3 → a2 ≤ 40 → ¬ a2 < (-1) → jv_in a1 4 = true)
    (k4 : ¬ a1 < 0 → a1 ≤ 3 → a2 ≤ 40 → ¬ a2 < (-1) → ∀ s1 : jg_H, s1 = jg_up s 166 a1.toNatClampNeg a2 → q_W G (d + 2) jm_M_tray B 36 [some (.ref 146), some (.int a1), some (.int a2), some (.int (40 * a1))] [] s1)
    (k5 : ¬ a1 < 0 → a1 ≤ 3 → a2 ≤ 40 → a2 < (-1) → B (some (.int (-14))) s)
    (k6 : ¬ a1 < 0 → a1 ≤ 3 → ¬ a2 ≤ 40 → B (some (.int (-2))) s) :
    q_P G (d + 3) 215 [.ref 146, .int a1, .int a2] s B := by
  refine q_in (M := jm_M_tray) rfl (Nat.le_of_ble_eq_true rfl) (ls := [some (.ref 146), some (.int a1), some (.int a2), none]) rfl ?_
  refine q_iload_n (pc' := 1) ja_M_tray_0 rfl rfl ?_
  refine q_stat (pc' := 4) (as := [.int a1]) (r := []) ja_M_tray_1 rfl (by decide) rfl rfl ?_
  refine q_in (M := jm_M_isTray) rfl (Nat.le_of_ble_eq_true rfl) (ls := [some (.int a1)]) rfl ?_
  refine q_iload_n (pc' := 1) ja_M_isTray_0 rfl rfl ?_
  refine q_iconst (pc' := 2) ja_M_isTray_1 rfl 0 (by decide) ?_
  refine q_iconst (pc' := 3) ja_M_isTray_2 rfl 3 (by decide) ?_
  refine q_stat (pc' := 6) (as := [.int a1, .int 0, .int 3]) (r := []) ja_M_isTray_3 rfl (by decide) rfl rfl ?_
  refine q_in (M := jm_M_in) rfl (Nat.le_of_ble_eq_true rfl) (ls := [some (.int a1), some (.int 0), some (.int 3)]) rfl ?_
  refine q_iload_n (pc' := 1) ja_M_in_0 rfl rfl ?_
  refine q_iload_n (pc' := 2) ja_M_in_1 rfl rfl ?_
  refine q_ic_lt (pc' := 5) ja_M_in_2 rfl ?_ ?_
  · intro h1
    refine q_iconst (pc' := 15) ja_M_in_14 rfl 0 (by decide) ?_
    refine q_iret ja_M_in_15 rfl (by decide) ?_
    show q_W _ _ _ _ 6 [some (.int a1)] [.int 0] s
    refine q_iret ja_M_isTray_6 rfl (by decide) ?_
    show q_W _ _ _ _ 4 [some (.ref 146), some (.int a1), some (.int a2), none] [.int 0] s
    refine q_if_eq (pc' := 7) ja_M_tray_4 rfl (fun _ => ?_) (fun h => absurd ((by decide : (0 : Int32) = 0)) h)
    refine q_bipush (pc' := 15) ja_M_tray_13 rfl (-2) (by decide) ?_
    exact q_iret ja_M_tray_15 rfl rfl (k1 h1)
  · intro h2
    refine q_iload_n (pc' := 6) ja_M_in_5 rfl rfl ?_
    refine q_iload_n (pc' := 7) ja_M_in_6 rfl rfl ?_
    refine q_ic_gt (pc' := 10) ja_M_in_7 rfl ?_ ?_
    · intro h3
      refine q_iconst (pc' := 15) ja_M_in_14 rfl 0 (by decide) ?_
      refine q_iret ja_M_in_15 rfl (by decide) ?_
      show q_W _ _ _ _ 6 [some (.int a1)] [.int 0] s
      refine q_iret ja_M_isTray_6 rfl (by decide) ?_
      show q_W _ _ _ _ 4 [some (.ref 146), some (.int a1), some (.int a2), none] [.int 0] s
      refine q_if_eq (pc' := 7) ja_M_tray_4 rfl (fun _ => ?_) (fun h => absurd ((by decide : (0 : Int32) = 0)) h)
      refine q_bipush (pc' := 15) ja_M_tray_13 rfl (-2) (by decide) ?_
      exact q_iret ja_M_tray_15 rfl rfl (k2 h2 h3)
    · intro h4
      refine q_iconst (pc' := 11) ja_M_in_10 rfl 1 (by decide) ?_
      refine q_goto ja_M_in_11 ?_
      refine q_iret ja_M_in_15 rfl (by decide) ?_
      show q_W _ _ _ _ 6 [some (.int a1)] [.int 1] s
      refine q_iret ja_M_isTray_6 rfl (by decide) ?_
      show q_W _ _ _ _ 4 [some (.ref 146), some (.int a1), some (.int a2), none] [.int 1] s
      refine q_if_eq (pc' := 7) ja_M_tray_4 rfl (fun h => absurd h ((by decide : ¬ (1 : Int32) = 0))) (fun _ => ?_)
      refine q_iload_n (pc' := 8) ja_M_tray_7 rfl rfl ?_
      refine q_bipush (pc' := 10) ja_M_tray_8 rfl 40 (by decide) ?_
      refine q_ic_le (pc' := 13) ja_M_tray_10 rfl ?_ ?_
      · intro h5
        refine q_iload_n (pc' := 17) ja_M_tray_16 rfl rfl ?_
        refine q_iconst (pc' := 18) ja_M_tray_17 rfl (-1) (by decide) ?_
        refine q_ic_ge (pc' := 21) ja_M_tray_18 rfl ?_ ?_
        · intro h6
          refine q_aload_n (pc' := 25) ja_M_tray_24 rfl rfl ?_
          refine q_getf (pc' := 28) (v := .ref 166) ja_M_tray_25 rfl (by decide) ⟨rfl, by decide⟩ rfl ?_
          refine q_iload_n (pc' := 29) ja_M_tray_28 rfl rfl ?_
          refine q_iload_n (pc' := 30) ja_M_tray_29 rfl rfl ?_
          refine q_iast (pc' := 31) ja_M_tray_30 rfl (by decide) (l := 4) rfl (k3 h2 h4 h5 h6) ?_
          intro s1 e1
          refine q_bipush (pc' := 33) ja_M_tray_31 rfl 40 (by decide) ?_
          refine q_iload_n (pc' := 34) ja_M_tray_33 rfl rfl ?_
          refine q_imul (pc' := 35) ja_M_tray_34 rfl ?_
          refine q_istore_n (pc' := 36) (ls' := [some (.ref 146), some (.int a1), some (.int a2), some (.int (40 * a1))]) ja_M_tray_35 rfl ⟨Nat.le_of_ble_eq_true rfl, rfl⟩ rfl ?_
          exact (k4 h2 h4 h5 h6 s1 e1)
        · intro h7
          refine q_bipush (pc' := 23) ja_M_tray_21 rfl (-14) (by decide) ?_
          exact q_iret ja_M_tray_23 rfl rfl (k5 h2 h4 h5 h7)
      · intro h8
        refine q_bipush (pc' := 15) ja_M_tray_13 rfl (-2) (by decide) ?_
        exact q_iret ja_M_tray_15 rfl rfl (k6 h2 h4 h8)
set_option maxRecDepth 20000 in
theorem t_M_tray_36 {G : jv_X} {d : Nat} {B : Option Value → jg_H → Prop} {s : jg_H} (x1 : Int32) (x2 : Int32) (x3 : Int32)
    (k1 : ¬ x3 < ((40 * x1) + 40) → B (some (.int 1)) s)
    (k2 : x3 < ((40 * x1) + 40) → jv_in x3 160 = true)
    (k3 : x3 < ((40 * x1) + 40) → ∀ s1 : jg_H, s1 = jg_up s 167 x3.toNatClampNeg 0 → q_W G (d + 2) jm_M_tray B 36 [some (.ref 146), some (.int x1), some (.int x2), some (.int (x3 + 1))] [] s1) :
    q_W G (d + 2) jm_M_tray B 36 [some (.ref 146), some (.int x1), some (.int x2), some (.int x3)] [] s := by
  refine q_iload_n (pc' := 37) ja_M_tray_36 rfl rfl ?_
  refine q_bipush (pc' := 39) ja_M_tray_37 rfl 40 (by decide) ?_
  refine q_iload_n (pc' := 40) ja_M_tray_39 rfl rfl ?_
  refine q_imul (pc' := 41) ja_M_tray_40 rfl ?_
  refine q_bipush (pc' := 43) ja_M_tray_41 rfl 40 (by decide) ?_
  refine q_iadd (pc' := 44) ja_M_tray_43 rfl ?_
  refine q_ic_ge (pc' := 47) ja_M_tray_44 rfl ?_ ?_
  · intro h1
    refine q_iconst (pc' := 61) ja_M_tray_60 rfl 1 (by decide) ?_
    exact q_iret ja_M_tray_61 rfl rfl (k1 h1)
  · intro h2
    refine q_aload_n (pc' := 48) ja_M_tray_47 rfl rfl ?_
    refine q_getf (pc' := 51) (v := .ref 167) ja_M_tray_48 rfl (by decide) ⟨rfl, by decide⟩ rfl ?_
    refine q_iload_n (pc' := 52) ja_M_tray_51 rfl rfl ?_
    refine q_iconst (pc' := 53) ja_M_tray_52 rfl 0 (by decide) ?_
    refine q_iast (pc' := 54) ja_M_tray_53 rfl (by decide) (l := 160) rfl (k2 h2) ?_
    intro s1 e1
    refine q_iinc (pc' := 57) (ls' := [some (.ref 146), some (.int x1), some (.int x2), some (.int (x3 + 1))]) ja_M_tray_54 rfl rfl (x3 + 1) rfl ⟨Nat.le_of_ble_eq_true rfl, rfl⟩ rfl ?_
    refine q_goto ja_M_tray_57 ?_
    exact (k3 h2 s1 e1)
set_option maxRecDepth 20000 in
theorem t_M_two {G : jv_X} {d : Nat} {B : Option Value → jg_H → Prop} {s : jg_H} (a1 : Int32) (a2 : Int32) (a3 : Int32)
    (k1 : a1 = 2 → ¬ a2 = 0 → B (some (.int 1)) s)
    (k2 : a1 = 2 → a2 = 0 → a3 = 0 → B (some (.int 0)) s)
    (k3 : a1 = 2 → a2 = 0 → ¬ a3 = 0 → B (some (.int 1)) s)
    (k4 : ¬ a1 = 2 → a1 = 3 → a2 = 0 → B (some (.int 0)) s)
    (k5 : ¬ a1 = 2 → a1 = 3 → ¬ a2 = 0 → a3 = 0 → B (some (.int 0)) s)
    (k6 : ¬ a1 = 2 → a1 = 3 → ¬ a2 = 0 → ¬ a3 = 0 → B (some (.int 1)) s)
    (k7 : ¬ a1 = 2 → ¬ a1 = 3 → a1 = 5 → ¬ a2 < a3 → B (some (.int 0)) s)
    (k8 : ¬ a1 = 2 → ¬ a1 = 3 → a1 = 5 → a2 < a3 → B (some (.int 1)) s)
    (k9 : ¬ a1 = 2 → ¬ a1 = 3 → ¬ a1 = 5 → a1 = 6 → ¬ a2 = a3 → B (some (.int 0)) s)
    (k10 : ¬ a1 = 2 → ¬ a1 = 3 → ¬ a1 = 5 → a1 = 6 → a2 = a3 → B (some (.int 1)) s)
    (k11 : ¬ a1 = 2 → ¬ a1 = 3 → ¬ a1 = 5 → ¬ a1 = 6 → a1 = 7 → B (some (.int (a2 + a3))) s)
    (k12 : ¬ a1 = 2 → ¬ a1 = 3 → ¬ a1 = 5 → ¬ a1 = 6 → ¬ a1 = 7 → a1 = 8 → B (some (.int (a2 - a3))) s)
    (k13 : ¬ a1 = 2 → ¬ a1 = 3 → ¬ a1 = 5 → ¬ a1 = 6 → ¬ a1 = 7 → ¬ a1 = 8 → B (some (.int (a2 * a3))) s) :
    q_P G (d + 1) 181 [.int a1, .int a2, .int a3] s B := by
  refine q_in (M := jm_M_two) rfl (Nat.le_of_ble_eq_true rfl) (ls := [some (.int a1), some (.int a2), some (.int a3)]) rfl ?_
  refine q_iload_n (pc' := 1) ja_M_two_0 rfl rfl ?_
  by_cases h1 : a1 = 2
  · refine q_swE (pc' := 44) ja_M_two_1 (by rw [h1]; decide) (by rw [h1]; exact ⟨_, rfl, rfl⟩) ?_
    refine q_iload_n (pc' := 45) ja_M_two_44 rfl rfl ?_
    refine q_if_ne (pc' := 48) ja_M_two_45 rfl ?_ ?_
    · intro h2
      refine q_iconst (pc' := 53) ja_M_two_52 rfl 1 (by decide) ?_
      refine q_goto ja_M_two_53 ?_
      exact q_iret ja_M_two_57 rfl rfl (k1 h1 h2)
    · intro h3
      refine q_iload_n (pc' := 49) ja_M_two_48 rfl rfl ?_
      refine q_if_eq (pc' := 52) ja_M_two_49 rfl ?_ ?_
      · intro h4
        refine q_iconst (pc' := 57) ja_M_two_56 rfl 0 (by decide) ?_
        exact q_iret ja_M_two_57 rfl rfl (k2 h1 h3 h4)
      · intro h5
        refine q_iconst (pc' := 53) ja_M_two_52 rfl 1 (by decide) ?_
        refine q_goto ja_M_two_53 ?_
        exact q_iret ja_M_two_57 rfl rfl (k3 h1 h3 h5)
  by_cases h6 : a1 = 3
  · refine q_swE (pc' := 58) ja_M_two_1 (by rw [h6]; decide) (by rw [h6]; exact ⟨_, rfl, rfl⟩) ?_
    refine q_iload_n (pc' := 59) ja_M_two_58 rfl rfl ?_
    refine q_if_eq (pc' := 62) ja_M_two_59 rfl ?_ ?_
    · intro h7
      refine q_iconst (pc' := 71) ja_M_two_70 rfl 0 (by decide) ?_
      exact q_iret ja_M_two_71 rfl rfl (k4 h1 h6 h7)
    · intro h8
      refine q_iload_n (pc' := 63) ja_M_two_62 rfl rfl ?_
      refine q_if_eq (pc' := 66) ja_M_two_63 rfl ?_ ?_
      · intro h9
        refine q_iconst (pc' := 71) ja_M_two_70 rfl 0 (by decide) ?_
        exact q_iret ja_M_two_71 rfl rfl (k5 h1 h6 h8 h9)
      · intro h10
        refine q_iconst (pc' := 67) ja_M_two_66 rfl 1 (by decide) ?_
        refine q_goto ja_M_two_67 ?_
        exact q_iret ja_M_two_71 rfl rfl (k6 h1 h6 h8 h10)
  by_cases h11 : a1 = 5
  · refine q_swE (pc' := 72) ja_M_two_1 (by rw [h11]; decide) (by rw [h11]; exact ⟨_, rfl, rfl⟩) ?_
    refine q_iload_n (pc' := 73) ja_M_two_72 rfl rfl ?_
    refine q_iload_n (pc' := 74) ja_M_two_73 rfl rfl ?_
    refine q_ic_ge (pc' := 77) ja_M_two_74 rfl ?_ ?_
    · intro h12
      refine q_iconst (pc' := 82) ja_M_two_81 rfl 0 (by decide) ?_
      exact q_iret ja_M_two_82 rfl rfl (k7 h1 h6 h11 h12)
    · intro h13
      refine q_iconst (pc' := 78) ja_M_two_77 rfl 1 (by decide) ?_
      refine q_goto ja_M_two_78 ?_
      exact q_iret ja_M_two_82 rfl rfl (k8 h1 h6 h11 h13)
  by_cases h14 : a1 = 6
  · refine q_swE (pc' := 83) ja_M_two_1 (by rw [h14]; decide) (by rw [h14]; exact ⟨_, rfl, rfl⟩) ?_
    refine q_iload_n (pc' := 84) ja_M_two_83 rfl rfl ?_
    refine q_iload_n (pc' := 85) ja_M_two_84 rfl rfl ?_
    refine q_ic_ne (pc' := 88) ja_M_two_85 rfl ?_ ?_
    · intro h15
      refine q_iconst (pc' := 93) ja_M_two_92 rfl 0 (by decide) ?_
      exact q_iret ja_M_two_93 rfl rfl (k9 h1 h6 h11 h14 h15)
    · intro h16
      refine q_iconst (pc' := 89) ja_M_two_88 rfl 1 (by decide) ?_
      refine q_goto ja_M_two_89 ?_
      exact q_iret ja_M_two_93 rfl rfl (k10 h1 h6 h11 h14 h16)
  by_cases h17 : a1 = 7
  · refine q_swE (pc' := 94) ja_M_two_1 (by rw [h17]; decide) (by rw [h17]; exact ⟨_, rfl, rfl⟩) ?_
    refine q_iload_n (pc' := 95) ja_M_two_94 rfl rfl ?_
    refine q_iload_n (pc' := 96) ja_M_two_95 rfl rfl ?_
    refine q_iadd (pc' := 97) ja_M_two_96 rfl ?_
    exact q_iret ja_M_two_97 rfl rfl (k11 h1 h6 h11 h14 h17)
  by_cases h18 : a1 = 8
  · refine q_swE (pc' := 98) ja_M_two_1 (by rw [h18]; decide) (by rw [h18]; exact ⟨_, rfl, rfl⟩) ?_
    refine q_iload_n (pc' := 99) ja_M_two_98 rfl rfl ?_
    refine q_iload_n (pc' := 100) ja_M_two_99 rfl rfl ?_
    refine q_isub (pc' := 101) ja_M_two_100 rfl ?_
    exact q_iret ja_M_two_101 rfl rfl (k12 h1 h6 h11 h14 h17 h18)
  refine q_swD (pc' := 102) ja_M_two_1 [2, 3, 5, 6, 7, 8] (List.forall_mem_cons.mpr ⟨fun e => h1 (by rw [e]; decide), (List.forall_mem_cons.mpr ⟨fun e => h6 (by rw [e]; decide), (List.forall_mem_cons.mpr ⟨fun e => h11 (by rw [e]; decide), (List.forall_mem_cons.mpr ⟨fun e => h14 (by rw [e]; decide), (List.forall_mem_cons.mpr ⟨fun e => h17 (by rw [e]; decide), (List.forall_mem_cons.mpr ⟨fun e => h18 (by rw [e]; decide), (List.forall_mem_nil _)⟩)⟩)⟩)⟩)⟩)⟩) (by decide) rfl ?_
  refine q_iload_n (pc' := 103) ja_M_two_102 rfl rfl ?_
  refine q_iload_n (pc' := 104) ja_M_two_103 rfl rfl ?_
  refine q_imul (pc' := 105) ja_M_two_104 rfl ?_
  exact q_iret ja_M_two_105 rfl rfl (k13 h1 h6 h11 h14 h17 h18)
set_option maxRecDepth 20000 in
theorem t_M_valued {G : jv_X} {d : Nat} {B : Option Value → jg_H → Prop} {s : jg_H} (a1 : Int32)
    (k1 : q_W G d jm_M_valued B 4 [some (.ref 146), some (.int a1), some (.int 0), some (.int 0)] [] s) :
    q_P G (d + 1) 170 [.ref 146, .int a1] s B := by
  refine q_in (M := jm_M_valued) rfl (Nat.le_of_ble_eq_true rfl) (ls := [some (.ref 146), some (.int a1), none, none]) rfl ?_
  refine q_iconst (pc' := 1) ja_M_valued_0 rfl 0 (by decide) ?_
  refine q_istore_n (pc' := 2) (ls' := [some (.ref 146), some (.int a1), some (.int 0), none]) ja_M_valued_1 rfl ⟨Nat.le_of_ble_eq_true rfl, rfl⟩ rfl ?_
  refine q_iconst (pc' := 3) ja_M_valued_2 rfl 0 (by decide) ?_
  refine q_istore_n (pc' := 4) (ls' := [some (.ref 146), some (.int a1), some (.int 0), some (.int 0)]) ja_M_valued_3 rfl ⟨Nat.le_of_ble_eq_true rfl, rfl⟩ rfl ?_
  exact k1
set_option maxRecDepth 20000 in
theorem t_M_valued_4 {G : jv_X} {d : Nat} {B : Option Value → jg_H → Prop} {s : jg_H} (x1 : Int32) (x2 : Int32) (x3 : Int32)
    (k1 : ¬ x3 < (s 146 53) → B (some (.int x2)) s)
    (k2 : x3 < (s 146 53) → jv_in x3 11 = true)
    (k3 : x3 < (s 146 53) → jv_in ((61 * x1) + (s 171 x3.toNatClampNeg)) 915 = true)
    (k4 : x3 < (s 146 53) → q_W G d jm_M_valued B 4 [some (.ref 146), some (.int x1), some (.int (x2 + (s 148 ((61 * x1) + (s 171 x3.toNatClampNeg)).toNatClampNeg))), some (.int (x3 + 1))] [] s) :
    q_W G d jm_M_valued B 4 [some (.ref 146), some (.int x1), some (.int x2), some (.int x3)] [] s := by
  refine q_iload_n (pc' := 5) ja_M_valued_4 rfl rfl ?_
  refine q_aload_n (pc' := 6) ja_M_valued_5 rfl rfl ?_
  refine q_getf (pc' := 9) (v := .int (s 146 53)) ja_M_valued_6 rfl (by decide) ⟨rfl, by decide⟩ rfl ?_
  refine q_ic_ge (pc' := 12) ja_M_valued_9 rfl ?_ ?_
  · intro h1
    refine q_iload_n (pc' := 38) ja_M_valued_37 rfl rfl ?_
    exact q_iret ja_M_valued_38 rfl rfl (k1 h1)
  · intro h2
    refine q_iload_n (pc' := 13) ja_M_valued_12 rfl rfl ?_
    refine q_aload_n (pc' := 14) ja_M_valued_13 rfl rfl ?_
    refine q_getf (pc' := 17) (v := .ref 148) ja_M_valued_14 rfl (by decide) ⟨rfl, by decide⟩ rfl ?_
    refine q_bipush (pc' := 19) ja_M_valued_17 rfl 61 (by decide) ?_
    refine q_iload_n (pc' := 20) ja_M_valued_19 rfl rfl ?_
    refine q_imul (pc' := 21) ja_M_valued_20 rfl ?_
    refine q_aload_n (pc' := 22) ja_M_valued_21 rfl rfl ?_
    refine q_getf (pc' := 25) (v := .ref 171) ja_M_valued_22 rfl (by decide) ⟨rfl, by decide⟩ rfl ?_
    refine q_iload_n (pc' := 26) ja_M_valued_25 rfl rfl ?_
    refine q_iald (pc' := 27) (v := .int (s 171 x3.toNatClampNeg)) ja_M_valued_26 rfl (by decide) (l := 11) rfl (k2 h2) rfl ?_
    refine q_iadd (pc' := 28) ja_M_valued_27 rfl ?_
    refine q_iald (pc' := 29) (v := .int (s 148 ((61 * x1) + (s 171 x3.toNatClampNeg)).toNatClampNeg)) ja_M_valued_28 rfl (by decide) (l := 915) rfl (k3 h2) rfl ?_
    refine q_iadd (pc' := 30) ja_M_valued_29 rfl ?_
    refine q_istore_n (pc' := 31) (ls' := [some (.ref 146), some (.int x1), some (.int (x2 + (s 148 ((61 * x1) + (s 171 x3.toNatClampNeg)).toNatClampNeg))), some (.int x3)]) ja_M_valued_30 rfl ⟨Nat.le_of_ble_eq_true rfl, rfl⟩ rfl ?_
    refine q_iinc (pc' := 34) (ls' := [some (.ref 146), some (.int x1), some (.int (x2 + (s 148 ((61 * x1) + (s 171 x3.toNatClampNeg)).toNatClampNeg))), some (.int (x3 + 1))]) ja_M_valued_31 rfl rfl (x3 + 1) rfl ⟨Nat.le_of_ble_eq_true rfl, rfl⟩ rfl ?_
    refine q_goto ja_M_valued_34 ?_
    exact (k4 h2)
set_option maxRecDepth 20000 in
theorem t_M_vote {G : jv_X} {d : Nat} {B : Option Value → jg_H → Prop} {s : jg_H} 
    (k1 : ¬ (s 146 18) = 0 → (s 146 17) < 100 → jv_in ((s 146 18) - 1) 13 = true)
    (k2 : ¬ (s 146 18) = 0 → (s 146 17) < 100 → jv_in ((s 146 18) - 1) 13 = true)
    (k3 : ¬ (s 146 18) = 0 → (s 146 17) < 100 → jv_in (s 158 ((s 146 18) - 1).toNatClampNeg) 15 = true)
    (k4 : ¬ (s 146 18) = 0 → (s 146 17) < 100 → q_P G (d + 1) 178 [.ref 146, .int (s 146 15), .int 3, .int (s 157 ((s 146 18) - 1).toNatClampNeg), .int (s 147 (s 158 ((s 146 18) - 1).toNatClampNeg).toNatClampNeg), .int (s 146 18), .int 0, .int 0] s (fun v t => q_W G (d + 1) jm_M_vote B 61 [some (.ref 146), some (.int ((s 146 18) - 1)), none] (v.toList ++ []) t))
    (k5 : ¬ (s 146 18) = 0 → ¬ (s 146 17) < 100 → B (some (.int (-22))) s)
    (k6 : (s 146 18) = 0 → B (some (.int (-21))) s) :
    q_P G (d + 2) 189 [.ref 146] s B := by
  refine q_in (M := jm_M_vote) rfl (Nat.le_of_ble_eq_true rfl) (ls := [some (.ref 146), none, none]) rfl ?_
  refine q_aload_n (pc' := 1) ja_M_vote_0 rfl rfl ?_
  refine q_getf (pc' := 4) (v := .int (s 146 18)) ja_M_vote_1 rfl (by decide) ⟨rfl, by decide⟩ rfl ?_
  refine q_if_ne (pc' := 7) ja_M_vote_4 rfl ?_ ?_
  · intro h1
    refine q_aload_n (pc' := 11) ja_M_vote_10 rfl rfl ?_
    refine q_getf (pc' := 14) (v := .int (s 146 17)) ja_M_vote_11 rfl (by decide) ⟨rfl, by decide⟩ rfl ?_
    refine q_bipush (pc' := 16) ja_M_vote_14 rfl 100 (by decide) ?_
    refine q_ic_lt (pc' := 19) ja_M_vote_16 rfl ?_ ?_
    · intro h2
      refine q_aload_n (pc' := 23) ja_M_vote_22 rfl rfl ?_
      refine q_getf (pc' := 26) (v := .int (s 146 18)) ja_M_vote_23 rfl (by decide) ⟨rfl, by decide⟩ rfl ?_
      refine q_iconst (pc' := 27) ja_M_vote_26 rfl 1 (by decide) ?_
      refine q_isub (pc' := 28) ja_M_vote_27 rfl ?_
      refine q_istore_n (pc' := 29) (ls' := [some (.ref 146), some (.int ((s 146 18) - 1)), none]) ja_M_vote_28 rfl ⟨Nat.le_of_ble_eq_true rfl, rfl⟩ rfl ?_
      refine q_aload_n (pc' := 30) ja_M_vote_29 rfl rfl ?_
      refine q_aload_n (pc' := 31) ja_M_vote_30 rfl rfl ?_
      refine q_getf (pc' := 34) (v := .int (s 146 15)) ja_M_vote_31 rfl (by decide) ⟨rfl, by decide⟩ rfl ?_
      refine q_iconst (pc' := 35) ja_M_vote_34 rfl 3 (by decide) ?_
      refine q_aload_n (pc' := 36) ja_M_vote_35 rfl rfl ?_
      refine q_getf (pc' := 39) (v := .ref 157) ja_M_vote_36 rfl (by decide) ⟨rfl, by decide⟩ rfl ?_
      refine q_iload_n (pc' := 40) ja_M_vote_39 rfl rfl ?_
      refine q_iald (pc' := 41) (v := .int (s 157 ((s 146 18) - 1).toNatClampNeg)) ja_M_vote_40 rfl (by decide) (l := 13) rfl (k1 h1 h2) rfl ?_
      refine q_aload_n (pc' := 42) ja_M_vote_41 rfl rfl ?_
      refine q_getf (pc' := 45) (v := .ref 147) ja_M_vote_42 rfl (by decide) ⟨rfl, by decide⟩ rfl ?_
      refine q_aload_n (pc' := 46) ja_M_vote_45 rfl rfl ?_
      refine q_getf (pc' := 49) (v := .ref 158) ja_M_vote_46 rfl (by decide) ⟨rfl, by decide⟩ rfl ?_
      refine q_iload_n (pc' := 50) ja_M_vote_49 rfl rfl ?_
      refine q_iald (pc' := 51) (v := .int (s 158 ((s 146 18) - 1).toNatClampNeg)) ja_M_vote_50 rfl (by decide) (l := 13) rfl (k2 h1 h2) rfl ?_
      refine q_iald (pc' := 52) (v := .int (s 147 (s 158 ((s 146 18) - 1).toNatClampNeg).toNatClampNeg)) ja_M_vote_51 rfl (by decide) (l := 15) rfl (k3 h1 h2) rfl ?_
      refine q_aload_n (pc' := 53) ja_M_vote_52 rfl rfl ?_
      refine q_getf (pc' := 56) (v := .int (s 146 18)) ja_M_vote_53 rfl (by decide) ⟨rfl, by decide⟩ rfl ?_
      refine q_iconst (pc' := 57) ja_M_vote_56 rfl 0 (by decide) ?_
      refine q_iconst (pc' := 58) ja_M_vote_57 rfl 0 (by decide) ?_
      refine q_virt (pc' := 61) (c := 146) (as := [.int (s 146 15), .int 3, .int (s 157 ((s 146 18) - 1).toNatClampNeg), .int (s 147 (s 158 ((s 146 18) - 1).toNatClampNeg).toNatClampNeg), .int (s 146 18), .int 0, .int 0]) (r := []) ja_M_vote_58 rfl rfl rfl (by decide) ⟨rfl, by decide⟩ ?_
      exact (k4 h1 h2)
    · intro h3
      refine q_bipush (pc' := 21) ja_M_vote_19 rfl (-22) (by decide) ?_
      exact q_iret ja_M_vote_21 rfl rfl (k5 h1 h3)
  · intro h4
    refine q_bipush (pc' := 9) ja_M_vote_7 rfl (-21) (by decide) ?_
    exact q_iret ja_M_vote_9 rfl rfl (k6 h4)
set_option maxRecDepth 20000 in
theorem t_M_vote_61 {G : jv_X} {d : Nat} {B : Option Value → jg_H → Prop} {s : jg_H} (x1 : Int32) (y0 : Int32)
    (k1 : ¬ y0 = 0 → (s 146 13) = (-1) → q_P G (d + 1) 190 [.ref 146, .int x1, .int 1] s (fun v t => q_W G (d + 1) jm_M_vote B 90 [some (.ref 146), some (.int x1), none] (v.toList ++ [.ref 146]) t))
    (k2 : ¬ y0 = 0 → ¬ (s 146 13) = (-1) → q_P G (d + 1) 169 [.ref 146, .int (s 146 13)] s (fun v t => q_W G (d + 1) jm_M_vote B 83 [some (.ref 146), some (.int x1), none] (v.toList ++ []) t))
    (k3 : y0 = 0 → B (some (.int (-23))) s) :
    q_W G (d + 1) jm_M_vote B 61 [some (.ref 146), some (.int x1), none] [.int y0] s := by
  refine q_if_ne (pc' := 64) ja_M_vote_61 rfl ?_ ?_
  · intro h1
    refine q_aload_n (pc' := 68) ja_M_vote_67 rfl rfl ?_
    refine q_getf (pc' := 71) (v := .int (s 146 13)) ja_M_vote_68 rfl (by decide) ⟨rfl, by decide⟩ rfl ?_
    refine q_iconst (pc' := 72) ja_M_vote_71 rfl (-1) (by decide) ?_
    refine q_ic_eq (pc' := 75) ja_M_vote_72 rfl ?_ ?_
    · intro h2
      refine q_aload_n (pc' := 84) ja_M_vote_83 rfl rfl ?_
      refine q_aload_n (pc' := 85) ja_M_vote_84 rfl rfl ?_
      refine q_iload_n (pc' := 86) ja_M_vote_85 rfl rfl ?_
      refine q_iconst (pc' := 87) ja_M_vote_86 rfl 1 (by decide) ?_
      refine q_virt (pc' := 90) (c := 146) (as := [.int x1, .int 1]) (r := [.ref 146]) ja_M_vote_87 rfl rfl rfl (by decide) ⟨rfl, by decide⟩ ?_
      exact (k1 h1 h2)
    · intro h3
      refine q_aload_n (pc' := 76) ja_M_vote_75 rfl rfl ?_
      refine q_aload_n (pc' := 77) ja_M_vote_76 rfl rfl ?_
      refine q_getf (pc' := 80) (v := .int (s 146 13)) ja_M_vote_77 rfl (by decide) ⟨rfl, by decide⟩ rfl ?_
      refine q_virt (pc' := 83) (c := 146) (as := [.int (s 146 13)]) (r := []) ja_M_vote_80 rfl rfl rfl (by decide) ⟨rfl, by decide⟩ ?_
      exact (k2 h1 h3)
  · intro h4
    refine q_bipush (pc' := 66) ja_M_vote_64 rfl (-23) (by decide) ?_
    exact q_iret ja_M_vote_66 rfl rfl (k3 h4)
set_option maxRecDepth 20000 in
theorem t_M_vote_83 {G : jv_X} {d : Nat} {B : Option Value → jg_H → Prop} {s : jg_H} (x1 : Int32)
    (k1 : q_P G (d + 1) 190 [.ref 146, .int x1, .int 1] s (fun v t => q_W G (d + 1) jm_M_vote B 90 [some (.ref 146), some (.int x1), none] (v.toList ++ [.ref 146]) t)) :
    q_W G (d + 1) jm_M_vote B 83 [some (.ref 146), some (.int x1), none] [] s := by
  refine q_aload_n (pc' := 84) ja_M_vote_83 rfl rfl ?_
  refine q_aload_n (pc' := 85) ja_M_vote_84 rfl rfl ?_
  refine q_iload_n (pc' := 86) ja_M_vote_85 rfl rfl ?_
  refine q_iconst (pc' := 87) ja_M_vote_86 rfl 1 (by decide) ?_
  refine q_virt (pc' := 90) (c := 146) (as := [.int x1, .int 1]) (r := [.ref 146]) ja_M_vote_87 rfl rfl rfl (by decide) ⟨rfl, by decide⟩ ?_
  exact k1
set_option maxRecDepth 20000 in
theorem t_M_vote_90 {G : jv_X} {d : Nat} {B : Option Value → jg_H → Prop} {s : jg_H} (x1 : Int32) (y1 : Int32)
    (k1 : ∀ s1 : jg_H, s1 = jg_up s 146 25 y1 → q_P G (d + 1) 190 [.ref 146, .int x1, .int 2] s1 (fun v t => q_W G (d + 1) jm_M_vote B 100 [some (.ref 146), some (.int x1), none] (v.toList ++ [.ref 146]) t)) :
    q_W G (d + 1) jm_M_vote B 90 [some (.ref 146), some (.int x1), none] [.int y1, .ref 146] s := by
  refine q_putf (pc' := 93) ja_M_vote_90 rfl (by decide) rfl rfl rfl ?_
  intro s1 e1
  refine q_aload_n (pc' := 94) ja_M_vote_93 rfl rfl ?_
  refine q_aload_n (pc' := 95) ja_M_vote_94 rfl rfl ?_
  refine q_iload_n (pc' := 96) ja_M_vote_95 rfl rfl ?_
  refine q_iconst (pc' := 97) ja_M_vote_96 rfl 2 (by decide) ?_
  refine q_virt (pc' := 100) (c := 146) (as := [.int x1, .int 2]) (r := [.ref 146]) ja_M_vote_97 rfl rfl rfl (by decide) ⟨rfl, by decide⟩ ?_
  exact (k1 s1 e1)
set_option maxRecDepth 20000 in
theorem t_M_vote_100 {G : jv_X} {d : Nat} {B : Option Value → jg_H → Prop} {s : jg_H} (x1 : Int32) (y1 : Int32)
    (k1 : ∀ s1 : jg_H, s1 = jg_up s 146 26 y1 → jv_in x1 13 = true)
    (k2 : ∀ s1 : jg_H, s1 = jg_up s 146 26 y1 → ∀ s2 : jg_H, s2 = jg_up s1 146 27 (s1 157 x1.toNatClampNeg) → jv_in x1 13 = true)
    (k3 : ∀ s1 : jg_H, s1 = jg_up s 146 26 y1 → ∀ s2 : jg_H, s2 = jg_up s1 146 27 (s1 157 x1.toNatClampNeg) → jv_in x1 13 = true)
    (k4 : ∀ s1 : jg_H, s1 = jg_up s 146 26 y1 → ∀ s2 : jg_H, s2 = jg_up s1 146 27 (s1 157 x1.toNatClampNeg) → jv_in (s2 158 x1.toNatClampNeg) 15 = true)
    (k5 : ∀ s1 : jg_H, s1 = jg_up s 146 26 y1 → ∀ s2 : jg_H, s2 = jg_up s1 146 27 (s1 157 x1.toNatClampNeg) → q_P G (d + 1) 178 [.ref 146, .int (s2 146 15), .int 2, .int (s2 157 x1.toNatClampNeg), .int (s2 147 (s2 158 x1.toNatClampNeg).toNatClampNeg), .int (s2 146 18), .int (s2 146 25), .int (s2 146 26)] s2 (fun v t => q_W G (d + 1) jm_M_vote B 151 [some (.ref 146), some (.int x1), none] (v.toList ++ []) t)) :
    q_W G (d + 1) jm_M_vote B 100 [some (.ref 146), some (.int x1), none] [.int y1, .ref 146] s := by
  refine q_putf (pc' := 103) ja_M_vote_100 rfl (by decide) rfl rfl rfl ?_
  intro s1 e1
  refine q_aload_n (pc' := 104) ja_M_vote_103 rfl rfl ?_
  refine q_aload_n (pc' := 105) ja_M_vote_104 rfl rfl ?_
  refine q_getf (pc' := 108) (v := .ref 157) ja_M_vote_105 rfl (by decide) ⟨rfl, by decide⟩ rfl ?_
  refine q_iload_n (pc' := 109) ja_M_vote_108 rfl rfl ?_
  refine q_iald (pc' := 110) (v := .int (s1 157 x1.toNatClampNeg)) ja_M_vote_109 rfl (by decide) (l := 13) rfl (k1 s1 e1) rfl ?_
  refine q_putf (pc' := 113) ja_M_vote_110 rfl (by decide) rfl rfl rfl ?_
  intro s2 e2
  refine q_aload_n (pc' := 114) ja_M_vote_113 rfl rfl ?_
  refine q_aload_n (pc' := 115) ja_M_vote_114 rfl rfl ?_
  refine q_getf (pc' := 118) (v := .int (s2 146 15)) ja_M_vote_115 rfl (by decide) ⟨rfl, by decide⟩ rfl ?_
  refine q_iconst (pc' := 119) ja_M_vote_118 rfl 2 (by decide) ?_
  refine q_aload_n (pc' := 120) ja_M_vote_119 rfl rfl ?_
  refine q_getf (pc' := 123) (v := .ref 157) ja_M_vote_120 rfl (by decide) ⟨rfl, by decide⟩ rfl ?_
  refine q_iload_n (pc' := 124) ja_M_vote_123 rfl rfl ?_
  refine q_iald (pc' := 125) (v := .int (s2 157 x1.toNatClampNeg)) ja_M_vote_124 rfl (by decide) (l := 13) rfl (k2 s1 e1 s2 e2) rfl ?_
  refine q_aload_n (pc' := 126) ja_M_vote_125 rfl rfl ?_
  refine q_getf (pc' := 129) (v := .ref 147) ja_M_vote_126 rfl (by decide) ⟨rfl, by decide⟩ rfl ?_
  refine q_aload_n (pc' := 130) ja_M_vote_129 rfl rfl ?_
  refine q_getf (pc' := 133) (v := .ref 158) ja_M_vote_130 rfl (by decide) ⟨rfl, by decide⟩ rfl ?_
  refine q_iload_n (pc' := 134) ja_M_vote_133 rfl rfl ?_
  refine q_iald (pc' := 135) (v := .int (s2 158 x1.toNatClampNeg)) ja_M_vote_134 rfl (by decide) (l := 13) rfl (k3 s1 e1 s2 e2) rfl ?_
  refine q_iald (pc' := 136) (v := .int (s2 147 (s2 158 x1.toNatClampNeg).toNatClampNeg)) ja_M_vote_135 rfl (by decide) (l := 15) rfl (k4 s1 e1 s2 e2) rfl ?_
  refine q_aload_n (pc' := 137) ja_M_vote_136 rfl rfl ?_
  refine q_getf (pc' := 140) (v := .int (s2 146 18)) ja_M_vote_137 rfl (by decide) ⟨rfl, by decide⟩ rfl ?_
  refine q_aload_n (pc' := 141) ja_M_vote_140 rfl rfl ?_
  refine q_getf (pc' := 144) (v := .int (s2 146 25)) ja_M_vote_141 rfl (by decide) ⟨rfl, by decide⟩ rfl ?_
  refine q_aload_n (pc' := 145) ja_M_vote_144 rfl rfl ?_
  refine q_getf (pc' := 148) (v := .int (s2 146 26)) ja_M_vote_145 rfl (by decide) ⟨rfl, by decide⟩ rfl ?_
  refine q_virt (pc' := 151) (c := 146) (as := [.int (s2 146 15), .int 2, .int (s2 157 x1.toNatClampNeg), .int (s2 147 (s2 158 x1.toNatClampNeg).toNatClampNeg), .int (s2 146 18), .int (s2 146 25), .int (s2 146 26)]) (r := []) ja_M_vote_148 rfl rfl rfl (by decide) ⟨rfl, by decide⟩ ?_
  exact (k5 s1 e1 s2 e2)
set_option maxRecDepth 20000 in
theorem t_M_vote_151 {G : jv_X} {d : Nat} {B : Option Value → jg_H → Prop} {s : jg_H} (x1 : Int32) (y0 : Int32)
    (k1 : y0 = 0 → ∀ s1 : jg_H, s1 = jg_up s 146 28 0 → ∀ s2 : jg_H, s2 = jg_up s1 146 18 ((s1 146 18) - 1) → ¬ (s2 146 27) = 0 → ∀ s3 : jg_H, s3 = jg_up s2 146 17 ((s2 146 17) + 1) → B (some (.int (s3 146 28))) s3)
    (k2 : y0 = 0 → ∀ s1 : jg_H, s1 = jg_up s 146 28 0 → ∀ s2 : jg_H, s2 = jg_up s1 146 18 ((s1 146 18) - 1) → (s2 146 27) = 0 → jv_in (s2 146 13) 8 = true)
    (k3 : y0 = 0 → ∀ s1 : jg_H, s1 = jg_up s 146 28 0 → ∀ s2 : jg_H, s2 = jg_up s1 146 18 ((s1 146 18) - 1) → (s2 146 27) = 0 → ∀ s4 : jg_H, s4 = jg_up s2 152 (s2 146 13).toNatClampNeg 4 → jv_in (s4 146 13) 8 = true)
    (k4 : y0 = 0 → ∀ s1 : jg_H, s1 = jg_up s 146 28 0 → ∀ s2 : jg_H, s2 = jg_up s1 146 18 ((s1 146 18) - 1) → (s2 146 27) = 0 → ∀ s4 : jg_H, s4 = jg_up s2 152 (s2 146 13).toNatClampNeg 4 → jv_in (s4 146 13) 8 = true)
    (k5 : y0 = 0 → ∀ s1 : jg_H, s1 = jg_up s 146 28 0 → ∀ s2 : jg_H, s2 = jg_up s1 146 18 ((s1 146 18) - 1) → (s2 146 27) = 0 → ∀ s4 : jg_H, s4 = jg_up s2 152 (s2 146 13).toNatClampNeg 4 → ∀ s5 : jg_H, s5 = jg_up s4 155 (s4 146 13).toNatClampNeg (s4 155 (s4 146 13).toNatClampNeg) → ∀ s6 : jg_H, s6 = jg_up s5 146 13 (-1) → ∀ s7 : jg_H, s7 = jg_up s6 146 18 0 → ∀ s8 : jg_H, s8 = jg_up s7 146 19 0 → ∀ s9 : jg_H, s9 = jg_up s8 146 17 ((s8 146 17) + 1) → B (some (.int (s9 146 28))) s9)
    (k6 : ¬ y0 = 0 → ∀ s10 : jg_H, s10 = jg_up s 146 28 1 → ∀ s11 : jg_H, s11 = jg_up s10 146 18 ((s10 146 18) - 1) → q_P G (d + 1) 196 [.ref 146, .int x1] s11 (fun v t => q_W G (d + 1) jm_M_vote B 192 [some (.ref 146), some (.int x1), some (.int 1)] (v.toList ++ []) t)) :
    q_W G (d + 1) jm_M_vote B 151 [some (.ref 146), some (.int x1), none] [.int y0] s := by
  refine q_if_eq (pc' := 154) ja_M_vote_151 rfl ?_ ?_
  · intro h1
    refine q_iconst (pc' := 159) ja_M_vote_158 rfl 0 (by decide) ?_
    refine q_istore_n (pc' := 160) (ls' := [some (.ref 146), some (.int x1), some (.int 0)]) ja_M_vote_159 rfl ⟨Nat.le_of_ble_eq_true rfl, rfl⟩ rfl ?_
    refine q_aload_n (pc' := 161) ja_M_vote_160 rfl rfl ?_
    refine q_iload_n (pc' := 162) ja_M_vote_161 rfl rfl ?_
    refine q_if_eq (pc' := 165) ja_M_vote_162 rfl (fun _ => ?_) (fun h => absurd ((by decide : (0 : Int32) = 0)) h)
    refine q_iconst (pc' := 170) ja_M_vote_169 rfl 0 (by decide) ?_
    refine q_putf (pc' := 173) ja_M_vote_170 rfl (by decide) rfl rfl rfl ?_
    intro s1 e1
    refine q_aload_n (pc' := 174) ja_M_vote_173 rfl rfl ?_
    refine q_dup (pc' := 175) ja_M_vote_174 rfl rfl ?_
    refine q_getf (pc' := 178) (v := .int (s1 146 18)) ja_M_vote_175 rfl (by decide) ⟨rfl, by decide⟩ rfl ?_
    refine q_iconst (pc' := 179) ja_M_vote_178 rfl 1 (by decide) ?_
    refine q_isub (pc' := 180) ja_M_vote_179 rfl ?_
    refine q_putf (pc' := 183) ja_M_vote_180 rfl (by decide) rfl rfl rfl ?_
    intro s2 e2
    refine q_iload_n (pc' := 184) ja_M_vote_183 rfl rfl ?_
    refine q_if_eq (pc' := 187) ja_M_vote_184 rfl (fun _ => ?_) (fun h => absurd ((by decide : (0 : Int32) = 0)) h)
    refine q_aload_n (pc' := 196) ja_M_vote_195 rfl rfl ?_
    refine q_getf (pc' := 199) (v := .int (s2 146 27)) ja_M_vote_196 rfl (by decide) ⟨rfl, by decide⟩ rfl ?_
    refine q_if_ne (pc' := 202) ja_M_vote_199 rfl ?_ ?_
    · intro h2
      refine q_aload_n (pc' := 208) ja_M_vote_207 rfl rfl ?_
      refine q_dup (pc' := 209) ja_M_vote_208 rfl rfl ?_
      refine q_getf (pc' := 212) (v := .int (s2 146 17)) ja_M_vote_209 rfl (by decide) ⟨rfl, by decide⟩ rfl ?_
      refine q_iconst (pc' := 213) ja_M_vote_212 rfl 1 (by decide) ?_
      refine q_iadd (pc' := 214) ja_M_vote_213 rfl ?_
      refine q_putf (pc' := 217) ja_M_vote_214 rfl (by decide) rfl rfl rfl ?_
      intro s3 e3
      refine q_aload_n (pc' := 218) ja_M_vote_217 rfl rfl ?_
      refine q_getf (pc' := 221) (v := .int (s3 146 28)) ja_M_vote_218 rfl (by decide) ⟨rfl, by decide⟩ rfl ?_
      exact q_iret ja_M_vote_221 rfl rfl (k1 h1 s1 e1 s2 e2 h2 s3 e3)
    · intro h3
      refine q_aload_n (pc' := 203) ja_M_vote_202 rfl rfl ?_
      refine q_iconst (pc' := 204) ja_M_vote_203 rfl 4 (by decide) ?_
      refine q_virt (pc' := 207) (c := 146) (as := [.int 4]) (r := []) ja_M_vote_204 rfl rfl rfl (by decide) ⟨rfl, by decide⟩ ?_
      refine q_in (M := jm_M_isUpNoMore) rfl (Nat.le_of_ble_eq_true rfl) (ls := [some (.ref 146), some (.int 4)]) rfl ?_
      refine q_aload_n (pc' := 1) ja_M_isUpNoMore_0 rfl rfl ?_
      refine q_getf (pc' := 4) (v := .ref 152) ja_M_isUpNoMore_1 rfl (by decide) ⟨rfl, by decide⟩ rfl ?_
      refine q_aload_n (pc' := 5) ja_M_isUpNoMore_4 rfl rfl ?_
      refine q_getf (pc' := 8) (v := .int (s2 146 13)) ja_M_isUpNoMore_5 rfl (by decide) ⟨rfl, by decide⟩ rfl ?_
      refine q_iload_n (pc' := 9) ja_M_isUpNoMore_8 rfl rfl ?_
      refine q_iast (pc' := 10) ja_M_isUpNoMore_9 rfl (by decide) (l := 8) rfl (k2 h1 s1 e1 s2 e2 h3) ?_
      intro s4 e4
      refine q_aload_n (pc' := 11) ja_M_isUpNoMore_10 rfl rfl ?_
      refine q_getf (pc' := 14) (v := .ref 155) ja_M_isUpNoMore_11 rfl (by decide) ⟨rfl, by decide⟩ rfl ?_
      refine q_aload_n (pc' := 15) ja_M_isUpNoMore_14 rfl rfl ?_
      refine q_getf (pc' := 18) (v := .int (s4 146 13)) ja_M_isUpNoMore_15 rfl (by decide) ⟨rfl, by decide⟩ rfl ?_
      refine q_iload_n (pc' := 19) ja_M_isUpNoMore_18 rfl rfl ?_
      refine q_if_ne (pc' := 22) ja_M_isUpNoMore_19 rfl (fun _ => ?_) (fun h => absurd h ((by decide : ¬ (4 : Int32) = 0)))
      refine q_aload_n (pc' := 27) ja_M_isUpNoMore_26 rfl rfl ?_
      refine q_getf (pc' := 30) (v := .ref 155) ja_M_isUpNoMore_27 rfl (by decide) ⟨rfl, by decide⟩ rfl ?_
      refine q_aload_n (pc' := 31) ja_M_isUpNoMore_30 rfl rfl ?_
      refine q_getf (pc' := 34) (v := .int (s4 146 13)) ja_M_isUpNoMore_31 rfl (by decide) ⟨rfl, by decide⟩ rfl ?_
      refine q_iald (pc' := 35) (v := .int (s4 155 (s4 146 13).toNatClampNeg)) ja_M_isUpNoMore_34 rfl (by decide) (l := 8) rfl (k3 h1 s1 e1 s2 e2 h3 s4 e4) rfl ?_
      refine q_iast (pc' := 36) ja_M_isUpNoMore_35 rfl (by decide) (l := 8) rfl (k4 h1 s1 e1 s2 e2 h3 s4 e4) ?_
      intro s5 e5
      refine q_aload_n (pc' := 37) ja_M_isUpNoMore_36 rfl rfl ?_
      refine q_iconst (pc' := 38) ja_M_isUpNoMore_37 rfl (-1) (by decide) ?_
      refine q_putf (pc' := 41) ja_M_isUpNoMore_38 rfl (by decide) rfl rfl rfl ?_
      intro s6 e6
      refine q_aload_n (pc' := 42) ja_M_isUpNoMore_41 rfl rfl ?_
      refine q_iconst (pc' := 43) ja_M_isUpNoMore_42 rfl 0 (by decide) ?_
      refine q_putf (pc' := 46) ja_M_isUpNoMore_43 rfl (by decide) rfl rfl rfl ?_
      intro s7 e7
      refine q_aload_n (pc' := 47) ja_M_isUpNoMore_46 rfl rfl ?_
      refine q_iconst (pc' := 48) ja_M_isUpNoMore_47 rfl 0 (by decide) ?_
      refine q_putf (pc' := 51) ja_M_isUpNoMore_48 rfl (by decide) rfl rfl rfl ?_
      intro s8 e8
      refine q_vret ja_M_isUpNoMore_51 rfl ?_
      show q_W _ _ _ _ 207 [some (.ref 146), some (.int x1), some (.int 0)] [] s8
      refine q_aload_n (pc' := 208) ja_M_vote_207 rfl rfl ?_
      refine q_dup (pc' := 209) ja_M_vote_208 rfl rfl ?_
      refine q_getf (pc' := 212) (v := .int (s8 146 17)) ja_M_vote_209 rfl (by decide) ⟨rfl, by decide⟩ rfl ?_
      refine q_iconst (pc' := 213) ja_M_vote_212 rfl 1 (by decide) ?_
      refine q_iadd (pc' := 214) ja_M_vote_213 rfl ?_
      refine q_putf (pc' := 217) ja_M_vote_214 rfl (by decide) rfl rfl rfl ?_
      intro s9 e9
      refine q_aload_n (pc' := 218) ja_M_vote_217 rfl rfl ?_
      refine q_getf (pc' := 221) (v := .int (s9 146 28)) ja_M_vote_218 rfl (by decide) ⟨rfl, by decide⟩ rfl ?_
      exact q_iret ja_M_vote_221 rfl rfl (k5 h1 s1 e1 s2 e2 h3 s4 e4 s5 e5 s6 e6 s7 e7 s8 e8 s9 e9)
  · intro h4
    refine q_iconst (pc' := 155) ja_M_vote_154 rfl 1 (by decide) ?_
    refine q_goto ja_M_vote_155 ?_
    refine q_istore_n (pc' := 160) (ls' := [some (.ref 146), some (.int x1), some (.int 1)]) ja_M_vote_159 rfl ⟨Nat.le_of_ble_eq_true rfl, rfl⟩ rfl ?_
    refine q_aload_n (pc' := 161) ja_M_vote_160 rfl rfl ?_
    refine q_iload_n (pc' := 162) ja_M_vote_161 rfl rfl ?_
    refine q_if_eq (pc' := 165) ja_M_vote_162 rfl (fun h => absurd h ((by decide : ¬ (1 : Int32) = 0))) (fun _ => ?_)
    refine q_iconst (pc' := 166) ja_M_vote_165 rfl 1 (by decide) ?_
    refine q_goto ja_M_vote_166 ?_
    refine q_putf (pc' := 173) ja_M_vote_170 rfl (by decide) rfl rfl rfl ?_
    intro s10 e10
    refine q_aload_n (pc' := 174) ja_M_vote_173 rfl rfl ?_
    refine q_dup (pc' := 175) ja_M_vote_174 rfl rfl ?_
    refine q_getf (pc' := 178) (v := .int (s10 146 18)) ja_M_vote_175 rfl (by decide) ⟨rfl, by decide⟩ rfl ?_
    refine q_iconst (pc' := 179) ja_M_vote_178 rfl 1 (by decide) ?_
    refine q_isub (pc' := 180) ja_M_vote_179 rfl ?_
    refine q_putf (pc' := 183) ja_M_vote_180 rfl (by decide) rfl rfl rfl ?_
    intro s11 e11
    refine q_iload_n (pc' := 184) ja_M_vote_183 rfl rfl ?_
    refine q_if_eq (pc' := 187) ja_M_vote_184 rfl (fun h => absurd h ((by decide : ¬ (1 : Int32) = 0))) (fun _ => ?_)
    refine q_aload_n (pc' := 188) ja_M_vote_187 rfl rfl ?_
    refine q_iload_n (pc' := 189) ja_M_vote_188 rfl rfl ?_
    refine q_virt (pc' := 192) (c := 146) (as := [.int x1]) (r := []) ja_M_vote_189 rfl rfl rfl (by decide) ⟨rfl, by decide⟩ ?_
    exact (k6 h4 s10 e10 s11 e11)
set_option maxRecDepth 20000 in
theorem t_M_vote_192 {G : jv_X} {d : Nat} {B : Option Value → jg_H → Prop} {s : jg_H} (x1 : Int32) (x2 : Int32)
    (k1 : ∀ s1 : jg_H, s1 = jg_up s 146 17 ((s 146 17) + 1) → B (some (.int (s1 146 28))) s1) :
    q_W G (d + 1) jm_M_vote B 192 [some (.ref 146), some (.int x1), some (.int x2)] [] s := by
  refine q_goto ja_M_vote_192 ?_
  refine q_aload_n (pc' := 208) ja_M_vote_207 rfl rfl ?_
  refine q_dup (pc' := 209) ja_M_vote_208 rfl rfl ?_
  refine q_getf (pc' := 212) (v := .int (s 146 17)) ja_M_vote_209 rfl (by decide) ⟨rfl, by decide⟩ rfl ?_
  refine q_iconst (pc' := 213) ja_M_vote_212 rfl 1 (by decide) ?_
  refine q_iadd (pc' := 214) ja_M_vote_213 rfl ?_
  refine q_putf (pc' := 217) ja_M_vote_214 rfl (by decide) rfl rfl rfl ?_
  intro s1 e1
  refine q_aload_n (pc' := 218) ja_M_vote_217 rfl rfl ?_
  refine q_getf (pc' := 221) (v := .int (s1 146 28)) ja_M_vote_218 rfl (by decide) ⟨rfl, by decide⟩ rfl ?_
  exact q_iret ja_M_vote_221 rfl rfl (k1 s1 e1)
set_option maxRecDepth 20000 in
theorem t_M_voted {G : jv_X} {d : Nat} {B : Option Value → jg_H → Prop} {s : jg_H} (a1 : Int32)
    (k1 : ¬ a1 = 0 → ¬ a1 = 1 → ¬ a1 = 2 → ¬ a1 = 3 → B (some (.int (-2))) s)
    (k2 : ¬ a1 = 0 → ¬ a1 = 1 → ¬ a1 = 2 → a1 = 3 → B (some (.int (s 146 28))) s)
    (k3 : ¬ a1 = 0 → ¬ a1 = 1 → a1 = 2 → B (some (.int (s 146 27))) s)
    (k4 : ¬ a1 = 0 → a1 = 1 → B (some (.int (s 146 26))) s)
    (k5 : a1 = 0 → B (some (.int (s 146 25))) s) :
    q_P G (d + 1) 200 [.ref 146, .int a1] s B := by
  refine q_in (M := jm_M_voted) rfl (Nat.le_of_ble_eq_true rfl) (ls := [some (.ref 146), some (.int a1)]) rfl ?_
  refine q_iload_n (pc' := 1) ja_M_voted_0 rfl rfl ?_
  refine q_if_ne (pc' := 4) ja_M_voted_1 rfl ?_ ?_
  · intro h1
    refine q_iload_n (pc' := 12) ja_M_voted_11 rfl rfl ?_
    refine q_iconst (pc' := 13) ja_M_voted_12 rfl 1 (by decide) ?_
    refine q_ic_ne (pc' := 16) ja_M_voted_13 rfl ?_ ?_
    · intro h2
      refine q_iload_n (pc' := 24) ja_M_voted_23 rfl rfl ?_
      refine q_iconst (pc' := 25) ja_M_voted_24 rfl 2 (by decide) ?_
      refine q_ic_ne (pc' := 28) ja_M_voted_25 rfl ?_ ?_
      · intro h3
        refine q_iload_n (pc' := 36) ja_M_voted_35 rfl rfl ?_
        refine q_iconst (pc' := 37) ja_M_voted_36 rfl 3 (by decide) ?_
        refine q_ic_ne (pc' := 40) ja_M_voted_37 rfl ?_ ?_
        · intro h4
          refine q_bipush (pc' := 49) ja_M_voted_47 rfl (-2) (by decide) ?_
          exact q_iret ja_M_voted_49 rfl rfl (k1 h1 h2 h3 h4)
        · intro h5
          refine q_aload_n (pc' := 41) ja_M_voted_40 rfl rfl ?_
          refine q_getf (pc' := 44) (v := .int (s 146 28)) ja_M_voted_41 rfl (by decide) ⟨rfl, by decide⟩ rfl ?_
          refine q_goto ja_M_voted_44 ?_
          exact q_iret ja_M_voted_49 rfl rfl (k2 h1 h2 h3 h5)
      · intro h6
        refine q_aload_n (pc' := 29) ja_M_voted_28 rfl rfl ?_
        refine q_getf (pc' := 32) (v := .int (s 146 27)) ja_M_voted_29 rfl (by decide) ⟨rfl, by decide⟩ rfl ?_
        refine q_goto ja_M_voted_32 ?_
        exact q_iret ja_M_voted_49 rfl rfl (k3 h1 h2 h6)
    · intro h7
      refine q_aload_n (pc' := 17) ja_M_voted_16 rfl rfl ?_
      refine q_getf (pc' := 20) (v := .int (s 146 26)) ja_M_voted_17 rfl (by decide) ⟨rfl, by decide⟩ rfl ?_
      refine q_goto ja_M_voted_20 ?_
      exact q_iret ja_M_voted_49 rfl rfl (k4 h1 h7)
  · intro h8
    refine q_aload_n (pc' := 5) ja_M_voted_4 rfl rfl ?_
    refine q_getf (pc' := 8) (v := .int (s 146 25)) ja_M_voted_5 rfl (by decide) ⟨rfl, by decide⟩ rfl ?_
    refine q_goto ja_M_voted_8 ?_
    exact q_iret ja_M_voted_49 rfl rfl (k5 h8)
set_option maxRecDepth 20000 in
theorem t_M_votes {G : jv_X} {d : Nat} {B : Option Value → jg_H → Prop} {s : jg_H} (a1 : Int32) (a2 : Int32)
    (k1 : jv_in a2 15 = true)
    (k2 : (s 151 a2.toNatClampNeg) = 0 → B (some (.int 0)) s)
    (k3 : ¬ (s 151 a2.toNatClampNeg) = 0 → jv_in a2 15 = true)
    (k4 : ¬ (s 151 a2.toNatClampNeg) = 0 → (s 149 a2.toNatClampNeg) = (-1) → jv_in a2 15 = true)
    (k5 : ¬ (s 151 a2.toNatClampNeg) = 0 → (s 149 a2.toNatClampNeg) = (-1) → (s 150 a2.toNatClampNeg) = 0 → q_P G d 192 [.ref 146, .int a1, .int a2] s (fun v t => q_W G d jm_M_votes B 43 [some (.ref 146), some (.int a1), some (.int a2), none] (v.toList ++ []) t))
    (k6 : ¬ (s 151 a2.toNatClampNeg) = 0 → (s 149 a2.toNatClampNeg) = (-1) → ¬ (s 150 a2.toNatClampNeg) = 0 → jv_in a2 15 = true)
    (k7 : ¬ (s 151 a2.toNatClampNeg) = 0 → (s 149 a2.toNatClampNeg) = (-1) → ¬ (s 150 a2.toNatClampNeg) = 0 → B (some (.int (s 150 a2.toNatClampNeg))) s)
    (k8 : ¬ (s 151 a2.toNatClampNeg) = 0 → ¬ (s 149 a2.toNatClampNeg) = (-1) → B (some (.int 0)) s) :
    q_P G (d + 1) 191 [.ref 146, .int a1, .int a2] s B := by
  refine q_in (M := jm_M_votes) rfl (Nat.le_of_ble_eq_true rfl) (ls := [some (.ref 146), some (.int a1), some (.int a2), none]) rfl ?_
  refine q_aload_n (pc' := 1) ja_M_votes_0 rfl rfl ?_
  refine q_getf (pc' := 4) (v := .ref 151) ja_M_votes_1 rfl (by decide) ⟨rfl, by decide⟩ rfl ?_
  refine q_iload_n (pc' := 5) ja_M_votes_4 rfl rfl ?_
  refine q_bald (pc' := 6) (v := .int (s 151 a2.toNatClampNeg)) ja_M_votes_5 rfl (by decide) (l := 15) rfl k1 rfl ?_
  refine q_if_eq (pc' := 9) ja_M_votes_6 rfl ?_ ?_
  · intro h1
    refine q_iconst (pc' := 20) ja_M_votes_19 rfl 0 (by decide) ?_
    exact q_iret ja_M_votes_20 rfl rfl (k2 h1)
  · intro h2
    refine q_aload_n (pc' := 10) ja_M_votes_9 rfl rfl ?_
    refine q_getf (pc' := 13) (v := .ref 149) ja_M_votes_10 rfl (by decide) ⟨rfl, by decide⟩ rfl ?_
    refine q_iload_n (pc' := 14) ja_M_votes_13 rfl rfl ?_
    refine q_iald (pc' := 15) (v := .int (s 149 a2.toNatClampNeg)) ja_M_votes_14 rfl (by decide) (l := 15) rfl (k3 h2) rfl ?_
    refine q_iconst (pc' := 16) ja_M_votes_15 rfl (-1) (by decide) ?_
    refine q_ic_eq (pc' := 19) ja_M_votes_16 rfl ?_ ?_
    · intro h3
      refine q_aload_n (pc' := 22) ja_M_votes_21 rfl rfl ?_
      refine q_getf (pc' := 25) (v := .ref 150) ja_M_votes_22 rfl (by decide) ⟨rfl, by decide⟩ rfl ?_
      refine q_iload_n (pc' := 26) ja_M_votes_25 rfl rfl ?_
      refine q_iald (pc' := 27) (v := .int (s 150 a2.toNatClampNeg)) ja_M_votes_26 rfl (by decide) (l := 15) rfl (k4 h2 h3) rfl ?_
      refine q_if_eq (pc' := 30) ja_M_votes_27 rfl ?_ ?_
      · intro h4
        refine q_aload_n (pc' := 38) ja_M_votes_37 rfl rfl ?_
        refine q_iload_n (pc' := 39) ja_M_votes_38 rfl rfl ?_
        refine q_iload_n (pc' := 40) ja_M_votes_39 rfl rfl ?_
        refine q_virt (pc' := 43) (c := 146) (as := [.int a1, .int a2]) (r := []) ja_M_votes_40 rfl rfl rfl (by decide) ⟨rfl, by decide⟩ ?_
        exact (k5 h2 h3 h4)
      · intro h5
        refine q_aload_n (pc' := 31) ja_M_votes_30 rfl rfl ?_
        refine q_getf (pc' := 34) (v := .ref 150) ja_M_votes_31 rfl (by decide) ⟨rfl, by decide⟩ rfl ?_
        refine q_iload_n (pc' := 35) ja_M_votes_34 rfl rfl ?_
        refine q_iald (pc' := 36) (v := .int (s 150 a2.toNatClampNeg)) ja_M_votes_35 rfl (by decide) (l := 15) rfl (k6 h2 h3 h5) rfl ?_
        exact q_iret ja_M_votes_36 rfl rfl (k7 h2 h3 h5)
    · intro h6
      refine q_iconst (pc' := 20) ja_M_votes_19 rfl 0 (by decide) ?_
      exact q_iret ja_M_votes_20 rfl rfl (k8 h2 h6)
set_option maxRecDepth 20000 in
theorem t_M_votes_43 {G : jv_X} {d : Nat} {B : Option Value → jg_H → Prop} {s : jg_H} (x1 : Int32) (x2 : Int32) (y0 : Int32)
    (k1 : y0 ≤ 0 → ¬ y0 < 0 → B (some (.int 0)) s)
    (k2 : y0 ≤ 0 → y0 < 0 → B (some (.int 2)) s)
    (k3 : ¬ y0 ≤ 0 → B (some (.int 1)) s) :
    q_W G d jm_M_votes B 43 [some (.ref 146), some (.int x1), some (.int x2), none] [.int y0] s := by
  refine q_istore_n (pc' := 44) (ls' := [some (.ref 146), some (.int x1), some (.int x2), some (.int y0)]) ja_M_votes_43 rfl ⟨Nat.le_of_ble_eq_true rfl, rfl⟩ rfl ?_
  refine q_iload_n (pc' := 45) ja_M_votes_44 rfl rfl ?_
  refine q_if_le (pc' := 48) ja_M_votes_45 rfl ?_ ?_
  · intro h1
    refine q_iload_n (pc' := 53) ja_M_votes_52 rfl rfl ?_
    refine q_if_ge (pc' := 56) ja_M_votes_53 rfl ?_ ?_
    · intro h2
      refine q_iconst (pc' := 61) ja_M_votes_60 rfl 0 (by decide) ?_
      exact q_iret ja_M_votes_61 rfl rfl (k1 h1 h2)
    · intro h3
      refine q_iconst (pc' := 57) ja_M_votes_56 rfl 2 (by decide) ?_
      refine q_goto ja_M_votes_57 ?_
      exact q_iret ja_M_votes_61 rfl rfl (k2 h1 h3)
  · intro h4
    refine q_iconst (pc' := 49) ja_M_votes_48 rfl 1 (by decide) ?_
    refine q_goto ja_M_votes_49 ?_
    exact q_iret ja_M_votes_61 rfl rfl (k3 h4)
set_option maxRecDepth 20000 in
theorem t_M_why {G : jv_X} {d : Nat} {B : Option Value → jg_H → Prop} {s : jg_H} (a1 : Int32) (a2 : Int32) (a3 : Int32) (a4 : Int32)
    (k1 : q_P G d 183 [.ref 146, .int a1, .int a2, .int a3, .int a4] s (fun v t => q_W G d jm_M_why B 9 [some (.ref 146), some (.int a1), some (.int a2), some (.int a3), some (.int a4)] (v.toList ++ []) t)) :
    q_P G (d + 1) 182 [.ref 146, .int a1, .int a2, .int a3, .int a4] s B := by
  refine q_in (M := jm_M_why) rfl (Nat.le_of_ble_eq_true rfl) (ls := [some (.ref 146), some (.int a1), some (.int a2), some (.int a3), some (.int a4)]) rfl ?_
  refine q_aload_n (pc' := 1) ja_M_why_0 rfl rfl ?_
  refine q_iload_n (pc' := 2) ja_M_why_1 rfl rfl ?_
  refine q_iload_n (pc' := 3) ja_M_why_2 rfl rfl ?_
  refine q_iload_n (pc' := 4) ja_M_why_3 rfl rfl ?_
  refine q_iload (pc' := 6) ja_M_why_4 rfl rfl ?_
  refine q_virt (pc' := 9) (c := 146) (as := [.int a1, .int a2, .int a3, .int a4]) (r := []) ja_M_why_6 rfl rfl rfl (by decide) ⟨rfl, by decide⟩ ?_
  exact k1
set_option maxRecDepth 20000 in
theorem t_M_why_9 {G : jv_X} {d : Nat} {B : Option Value → jg_H → Prop} {s : jg_H} (x1 : Int32) (x2 : Int32) (x3 : Int32) (x4 : Int32) (y0 : Int32)
    (k1 : y0 = 0 → B (some (.int (-2))) s)
    (k2 : ¬ y0 = 0 → q_P G d 184 [.ref 146, .int x1, .int x2] s (fun v t => q_W G d jm_M_why B 18 [some (.ref 146), some (.int x1), some (.int x2), some (.int x3), some (.int x4)] (v.toList ++ []) t)) :
    q_W G d jm_M_why B 9 [some (.ref 146), some (.int x1), some (.int x2), some (.int x3), some (.int x4)] [.int y0] s := by
  refine q_if_eq (pc' := 12) ja_M_why_9 rfl ?_ ?_
  · intro h1
    refine q_bipush (pc' := 23) ja_M_why_21 rfl (-2) (by decide) ?_
    exact q_iret ja_M_why_23 rfl rfl (k1 h1)
  · intro h2
    refine q_aload_n (pc' := 13) ja_M_why_12 rfl rfl ?_
    refine q_iload_n (pc' := 14) ja_M_why_13 rfl rfl ?_
    refine q_iload_n (pc' := 15) ja_M_why_14 rfl rfl ?_
    refine q_virt (pc' := 18) (c := 146) (as := [.int x1, .int x2]) (r := []) ja_M_why_15 rfl rfl rfl (by decide) ⟨rfl, by decide⟩ ?_
    exact (k2 h2)
set_option maxRecDepth 20000 in
theorem t_M_why_18 {G : jv_X} {d : Nat} {B : Option Value → jg_H → Prop} {s : jg_H} (x1 : Int32) (x2 : Int32) (x3 : Int32) (x4 : Int32) (y0 : Int32)
    (k1 : B (some (.int y0)) s) :
    q_W G d jm_M_why B 18 [some (.ref 146), some (.int x1), some (.int x2), some (.int x3), some (.int x4)] [.int y0] s := by
  refine q_goto ja_M_why_18 ?_
  exact q_iret ja_M_why_23 rfl rfl k1
set_option maxRecDepth 20000 in
theorem t_M_word {G : jv_X} {d : Nat} {B : Option Value → jg_H → Prop} {s : jg_H} (a1 : Int32) (a2 : Int32)
    (k1 : a1 < 0 → B (some (.int (-2))) s)
    (k2 : ¬ a1 < 0 → ¬ a1 ≤ ((s 146 6) - 1) → B (some (.int (-2))) s)
    (k3 : ¬ a1 < 0 → a1 ≤ ((s 146 6) - 1) → jv_in a1 8 = true)
    (k4 : ¬ a1 < 0 → a1 ≤ ((s 146 6) - 1) → a2 < 0 → B (some (.int (-1))) s)
    (k5 : ¬ a1 < 0 → a1 ≤ ((s 146 6) - 1) → ¬ a2 < 0 → ¬ a2 ≤ ((s 153 a1.toNatClampNeg) - 1) → B (some (.int (-1))) s)
    (k6 : ¬ a1 < 0 → a1 ≤ ((s 146 6) - 1) → ¬ a2 < 0 → a2 ≤ ((s 153 a1.toNatClampNeg) - 1) → jv_in ((10 * a1) + a2) 80 = true)
    (k7 : ¬ a1 < 0 → a1 ≤ ((s 146 6) - 1) → ¬ a2 < 0 → a2 ≤ ((s 153 a1.toNatClampNeg) - 1) → B (some (.int (s 154 ((10 * a1) + a2).toNatClampNeg))) s) :
    q_P G (d + 3) 167 [.ref 146, .int a1, .int a2] s B := by
  refine q_in (M := jm_M_word) rfl (Nat.le_of_ble_eq_true rfl) (ls := [some (.ref 146), some (.int a1), some (.int a2)]) rfl ?_
  refine q_aload_n (pc' := 1) ja_M_word_0 rfl rfl ?_
  refine q_iload_n (pc' := 2) ja_M_word_1 rfl rfl ?_
  refine q_virt (pc' := 5) (c := 146) (as := [.int a1]) (r := []) ja_M_word_2 rfl rfl rfl (by decide) ⟨rfl, by decide⟩ ?_
  refine q_in (M := jm_M_isBill) rfl (Nat.le_of_ble_eq_true rfl) (ls := [some (.ref 146), some (.int a1)]) rfl ?_
  refine q_iload_n (pc' := 1) ja_M_isBill_0 rfl rfl ?_
  refine q_iconst (pc' := 2) ja_M_isBill_1 rfl 0 (by decide) ?_
  refine q_aload_n (pc' := 3) ja_M_isBill_2 rfl rfl ?_
  refine q_getf (pc' := 6) (v := .int (s 146 6)) ja_M_isBill_3 rfl (by decide) ⟨rfl, by decide⟩ rfl ?_
  refine q_iconst (pc' := 7) ja_M_isBill_6 rfl 1 (by decide) ?_
  refine q_isub (pc' := 8) ja_M_isBill_7 rfl ?_
  refine q_stat (pc' := 11) (as := [.int a1, .int 0, .int ((s 146 6) - 1)]) (r := []) ja_M_isBill_8 rfl (by decide) rfl rfl ?_
  refine q_in (M := jm_M_in) rfl (Nat.le_of_ble_eq_true rfl) (ls := [some (.int a1), some (.int 0), some (.int ((s 146 6) - 1))]) rfl ?_
  refine q_iload_n (pc' := 1) ja_M_in_0 rfl rfl ?_
  refine q_iload_n (pc' := 2) ja_M_in_1 rfl rfl ?_
  refine q_ic_lt (pc' := 5) ja_M_in_2 rfl ?_ ?_
  · intro h1
    refine q_iconst (pc' := 15) ja_M_in_14 rfl 0 (by decide) ?_
    refine q_iret ja_M_in_15 rfl (by decide) ?_
    show q_W _ _ _ _ 11 [some (.ref 146), some (.int a1)] [.int 0] s
    refine q_iret ja_M_isBill_11 rfl (by decide) ?_
    show q_W _ _ _ _ 5 [some (.ref 146), some (.int a1), some (.int a2)] [.int 0] s
    refine q_if_ne (pc' := 8) ja_M_word_5 rfl (fun h => absurd ((by decide : (0 : Int32) = 0)) h) (fun _ => ?_)
    refine q_bipush (pc' := 10) ja_M_word_8 rfl (-2) (by decide) ?_
    exact q_iret ja_M_word_10 rfl rfl (k1 h1)
  · intro h2
    refine q_iload_n (pc' := 6) ja_M_in_5 rfl rfl ?_
    refine q_iload_n (pc' := 7) ja_M_in_6 rfl rfl ?_
    refine q_ic_gt (pc' := 10) ja_M_in_7 rfl ?_ ?_
    · intro h3
      refine q_iconst (pc' := 15) ja_M_in_14 rfl 0 (by decide) ?_
      refine q_iret ja_M_in_15 rfl (by decide) ?_
      show q_W _ _ _ _ 11 [some (.ref 146), some (.int a1)] [.int 0] s
      refine q_iret ja_M_isBill_11 rfl (by decide) ?_
      show q_W _ _ _ _ 5 [some (.ref 146), some (.int a1), some (.int a2)] [.int 0] s
      refine q_if_ne (pc' := 8) ja_M_word_5 rfl (fun h => absurd ((by decide : (0 : Int32) = 0)) h) (fun _ => ?_)
      refine q_bipush (pc' := 10) ja_M_word_8 rfl (-2) (by decide) ?_
      exact q_iret ja_M_word_10 rfl rfl (k2 h2 h3)
    · intro h4
      refine q_iconst (pc' := 11) ja_M_in_10 rfl 1 (by decide) ?_
      refine q_goto ja_M_in_11 ?_
      refine q_iret ja_M_in_15 rfl (by decide) ?_
      show q_W _ _ _ _ 11 [some (.ref 146), some (.int a1)] [.int 1] s
      refine q_iret ja_M_isBill_11 rfl (by decide) ?_
      show q_W _ _ _ _ 5 [some (.ref 146), some (.int a1), some (.int a2)] [.int 1] s
      refine q_if_ne (pc' := 8) ja_M_word_5 rfl (fun _ => ?_) (fun h => absurd h ((by decide : ¬ (1 : Int32) = 0)))
      refine q_iload_n (pc' := 12) ja_M_word_11 rfl rfl ?_
      refine q_iconst (pc' := 13) ja_M_word_12 rfl 0 (by decide) ?_
      refine q_aload_n (pc' := 14) ja_M_word_13 rfl rfl ?_
      refine q_getf (pc' := 17) (v := .ref 153) ja_M_word_14 rfl (by decide) ⟨rfl, by decide⟩ rfl ?_
      refine q_iload_n (pc' := 18) ja_M_word_17 rfl rfl ?_
      refine q_iald (pc' := 19) (v := .int (s 153 a1.toNatClampNeg)) ja_M_word_18 rfl (by decide) (l := 8) rfl (k3 h2 h4) rfl ?_
      refine q_iconst (pc' := 20) ja_M_word_19 rfl 1 (by decide) ?_
      refine q_isub (pc' := 21) ja_M_word_20 rfl ?_
      refine q_stat (pc' := 24) (as := [.int a2, .int 0, .int ((s 153 a1.toNatClampNeg) - 1)]) (r := []) ja_M_word_21 rfl (by decide) rfl rfl ?_
      refine q_in (M := jm_M_in) rfl (Nat.le_of_ble_eq_true rfl) (ls := [some (.int a2), some (.int 0), some (.int ((s 153 a1.toNatClampNeg) - 1))]) rfl ?_
      refine q_iload_n (pc' := 1) ja_M_in_0 rfl rfl ?_
      refine q_iload_n (pc' := 2) ja_M_in_1 rfl rfl ?_
      refine q_ic_lt (pc' := 5) ja_M_in_2 rfl ?_ ?_
      · intro h5
        refine q_iconst (pc' := 15) ja_M_in_14 rfl 0 (by decide) ?_
        refine q_iret ja_M_in_15 rfl (by decide) ?_
        show q_W _ _ _ _ 24 [some (.ref 146), some (.int a1), some (.int a2)] [.int 0] s
        refine q_if_eq (pc' := 27) ja_M_word_24 rfl (fun _ => ?_) (fun h => absurd ((by decide : (0 : Int32) = 0)) h)
        refine q_iconst (pc' := 42) ja_M_word_41 rfl (-1) (by decide) ?_
        exact q_iret ja_M_word_42 rfl rfl (k4 h2 h4 h5)
      · intro h6
        refine q_iload_n (pc' := 6) ja_M_in_5 rfl rfl ?_
        refine q_iload_n (pc' := 7) ja_M_in_6 rfl rfl ?_
        refine q_ic_gt (pc' := 10) ja_M_in_7 rfl ?_ ?_
        · intro h7
          refine q_iconst (pc' := 15) ja_M_in_14 rfl 0 (by decide) ?_
          refine q_iret ja_M_in_15 rfl (by decide) ?_
          show q_W _ _ _ _ 24 [some (.ref 146), some (.int a1), some (.int a2)] [.int 0] s
          refine q_if_eq (pc' := 27) ja_M_word_24 rfl (fun _ => ?_) (fun h => absurd ((by decide : (0 : Int32) = 0)) h)
          refine q_iconst (pc' := 42) ja_M_word_41 rfl (-1) (by decide) ?_
          exact q_iret ja_M_word_42 rfl rfl (k5 h2 h4 h6 h7)
        · intro h8
          refine q_iconst (pc' := 11) ja_M_in_10 rfl 1 (by decide) ?_
          refine q_goto ja_M_in_11 ?_
          refine q_iret ja_M_in_15 rfl (by decide) ?_
          show q_W _ _ _ _ 24 [some (.ref 146), some (.int a1), some (.int a2)] [.int 1] s
          refine q_if_eq (pc' := 27) ja_M_word_24 rfl (fun h => absurd h ((by decide : ¬ (1 : Int32) = 0))) (fun _ => ?_)
          refine q_aload_n (pc' := 28) ja_M_word_27 rfl rfl ?_
          refine q_getf (pc' := 31) (v := .ref 154) ja_M_word_28 rfl (by decide) ⟨rfl, by decide⟩ rfl ?_
          refine q_bipush (pc' := 33) ja_M_word_31 rfl 10 (by decide) ?_
          refine q_iload_n (pc' := 34) ja_M_word_33 rfl rfl ?_
          refine q_imul (pc' := 35) ja_M_word_34 rfl ?_
          refine q_iload_n (pc' := 36) ja_M_word_35 rfl rfl ?_
          refine q_iadd (pc' := 37) ja_M_word_36 rfl ?_
          refine q_iald (pc' := 38) (v := .int (s 154 ((10 * a1) + a2).toNatClampNeg)) ja_M_word_37 rfl (by decide) (l := 80) rfl (k6 h2 h4 h6 h8) rfl ?_
          refine q_goto ja_M_word_38 ?_
          exact q_iret ja_M_word_42 rfl rfl (k7 h2 h4 h6 h8)
set_option maxRecDepth 20000 in
theorem t_M_worked {G : jv_X} {d : Nat} {B : Option Value → jg_H → Prop} {s : jg_H} (a1 : Int32) (a2 : Int32) (a3 : Int32) (a4 : Int32) (a5 : Int32) (a6 : Int32) (a7 : Int32)
    (k1 : ∀ s1 : jg_H, s1 = jg_up s 146 48 a3 → ∀ s2 : jg_H, s2 = jg_up s1 146 49 a4 → ∀ s3 : jg_H, s3 = jg_up s2 146 50 a5 → ∀ s4 : jg_H, s4 = jg_up s3 146 51 a6 → ∀ s5 : jg_H, s5 = jg_up s4 146 52 a7 → jv_in ((5 * a1) + a2) 45 = true)
    (k2 : ∀ s1 : jg_H, s1 = jg_up s 146 48 a3 → ∀ s2 : jg_H, s2 = jg_up s1 146 49 a4 → ∀ s3 : jg_H, s3 = jg_up s2 146 50 a5 → ∀ s4 : jg_H, s4 = jg_up s3 146 51 a6 → ∀ s5 : jg_H, s5 = jg_up s4 146 52 a7 → q_W G (d + 1) jm_M_worked B 50 [some (.ref 146), some (.int a1), some (.int a2), some (.int a3), some (.int a4), some (.int a5), some (.int a6), some (.int a7), some (.int 0), some (.int ((200 * a1) + (s5 165 ((5 * a1) + a2).toNatClampNeg))), none] [] s5) :
    q_P G (d + 2) 178 [.ref 146, .int a1, .int a2, .int a3, .int a4, .int a5, .int a6, .int a7] s B := by
  refine q_in (M := jm_M_worked) rfl (Nat.le_of_ble_eq_true rfl) (ls := [some (.ref 146), some (.int a1), some (.int a2), some (.int a3), some (.int a4), some (.int a5), some (.int a6), some (.int a7), none, none, none]) rfl ?_
  refine q_aload_n (pc' := 1) ja_M_worked_0 rfl rfl ?_
  refine q_iload_n (pc' := 2) ja_M_worked_1 rfl rfl ?_
  refine q_putf (pc' := 5) ja_M_worked_2 rfl (by decide) rfl rfl rfl ?_
  intro s1 e1
  refine q_aload_n (pc' := 6) ja_M_worked_5 rfl rfl ?_
  refine q_iload (pc' := 8) ja_M_worked_6 rfl rfl ?_
  refine q_putf (pc' := 11) ja_M_worked_8 rfl (by decide) rfl rfl rfl ?_
  intro s2 e2
  refine q_aload_n (pc' := 12) ja_M_worked_11 rfl rfl ?_
  refine q_iload (pc' := 14) ja_M_worked_12 rfl rfl ?_
  refine q_putf (pc' := 17) ja_M_worked_14 rfl (by decide) rfl rfl rfl ?_
  intro s3 e3
  refine q_aload_n (pc' := 18) ja_M_worked_17 rfl rfl ?_
  refine q_iload (pc' := 20) ja_M_worked_18 rfl rfl ?_
  refine q_putf (pc' := 23) ja_M_worked_20 rfl (by decide) rfl rfl rfl ?_
  intro s4 e4
  refine q_aload_n (pc' := 24) ja_M_worked_23 rfl rfl ?_
  refine q_iload (pc' := 26) ja_M_worked_24 rfl rfl ?_
  refine q_putf (pc' := 29) ja_M_worked_26 rfl (by decide) rfl rfl rfl ?_
  intro s5 e5
  refine q_iconst (pc' := 30) ja_M_worked_29 rfl 0 (by decide) ?_
  refine q_istore (pc' := 32) (ls' := [some (.ref 146), some (.int a1), some (.int a2), some (.int a3), some (.int a4), some (.int a5), some (.int a6), some (.int a7), some (.int 0), none, none]) ja_M_worked_30 rfl ⟨Nat.le_of_ble_eq_true rfl, rfl⟩ rfl ?_
  refine q_sipush (pc' := 35) ja_M_worked_32 rfl 200 (by decide) ?_
  refine q_iload_n (pc' := 36) ja_M_worked_35 rfl rfl ?_
  refine q_imul (pc' := 37) ja_M_worked_36 rfl ?_
  refine q_aload_n (pc' := 38) ja_M_worked_37 rfl rfl ?_
  refine q_getf (pc' := 41) (v := .ref 165) ja_M_worked_38 rfl (by decide) ⟨rfl, by decide⟩ rfl ?_
  refine q_iconst (pc' := 42) ja_M_worked_41 rfl 5 (by decide) ?_
  refine q_iload_n (pc' := 43) ja_M_worked_42 rfl rfl ?_
  refine q_imul (pc' := 44) ja_M_worked_43 rfl ?_
  refine q_iload_n (pc' := 45) ja_M_worked_44 rfl rfl ?_
  refine q_iadd (pc' := 46) ja_M_worked_45 rfl ?_
  refine q_iald (pc' := 47) (v := .int (s5 165 ((5 * a1) + a2).toNatClampNeg)) ja_M_worked_46 rfl (by decide) (l := 45) rfl (k1 s1 e1 s2 e2 s3 e3 s4 e4 s5 e5) rfl ?_
  refine q_iadd (pc' := 48) ja_M_worked_47 rfl ?_
  refine q_istore (pc' := 50) (ls' := [some (.ref 146), some (.int a1), some (.int a2), some (.int a3), some (.int a4), some (.int a5), some (.int a6), some (.int a7), some (.int 0), some (.int ((200 * a1) + (s5 165 ((5 * a1) + a2).toNatClampNeg))), none]) ja_M_worked_48 rfl ⟨Nat.le_of_ble_eq_true rfl, rfl⟩ rfl ?_
  exact (k2 s1 e1 s2 e2 s3 e3 s4 e4 s5 e5)
set_option maxRecDepth 20000 in
theorem t_M_worked_50 {G : jv_X} {d : Nat} {B : Option Value → jg_H → Prop} {s : jg_H} (x1 : Int32) (x2 : Int32) (x3 : Int32) (x4 : Int32) (x5 : Int32) (x6 : Int32) (x7 : Int32) (x8 : Int32) (x9 : Int32) {o10 : Option Value} (ho10 : f_n o10 = true)
    (k1 : jv_in (((5 * x1) + x2) + 1) 45 = true)
    (k2 : ¬ x9 < ((200 * x1) + (s 165 (((5 * x1) + x2) + 1).toNatClampNeg)) → B (some (.int (s 170 0))) s)
    (k3 : x9 < ((200 * x1) + (s 165 (((5 * x1) + x2) + 1).toNatClampNeg)) → jv_in x9 1800 = true)
    (k4 : x9 < ((200 * x1) + (s 165 (((5 * x1) + x2) + 1).toNatClampNeg)) → (s 163 x9.toNatClampNeg) = 0 → jv_in x9 1800 = true)
    (k5 : x9 < ((200 * x1) + (s 165 (((5 * x1) + x2) + 1).toNatClampNeg)) → (s 163 x9.toNatClampNeg) = 0 → jv_in x8 220 = true)
    (k6 : x9 < ((200 * x1) + (s 165 (((5 * x1) + x2) + 1).toNatClampNeg)) → (s 163 x9.toNatClampNeg) = 0 → ∀ s1 : jg_H, s1 = jg_up s 170 x8.toNatClampNeg (s 164 x9.toNatClampNeg) → q_W G (d + 1) jm_M_worked B 50 [some (.ref 146), some (.int x1), some (.int x2), some (.int x3), some (.int x4), some (.int x5), some (.int x6), some (.int x7), some (.int (x8 + 1)), some (.int (x9 + 1)), some (.int (s 163 x9.toNatClampNeg))] [] s1)
    (k7 : x9 < ((200 * x1) + (s 165 (((5 * x1) + x2) + 1).toNatClampNeg)) → ¬ (s 163 x9.toNatClampNeg) = 0 → ¬ (s 163 x9.toNatClampNeg) = 1 → ¬ (s 163 x9.toNatClampNeg) = 4 → ¬ (s 163 x9.toNatClampNeg) = 10 → jv_in ((x8 + (-1)) - 1) 220 = true)
    (k8 : x9 < ((200 * x1) + (s 165 (((5 * x1) + x2) + 1).toNatClampNeg)) → ¬ (s 163 x9.toNatClampNeg) = 0 → ¬ (s 163 x9.toNatClampNeg) = 1 → ¬ (s 163 x9.toNatClampNeg) = 4 → ¬ (s 163 x9.toNatClampNeg) = 10 → jv_in (x8 + (-1)) 220 = true)
    (k9 : x9 < ((200 * x1) + (s 165 (((5 * x1) + x2) + 1).toNatClampNeg)) → ¬ (s 163 x9.toNatClampNeg) = 0 → ¬ (s 163 x9.toNatClampNeg) = 1 → ¬ (s 163 x9.toNatClampNeg) = 4 → ¬ (s 163 x9.toNatClampNeg) = 10 → (s 163 x9.toNatClampNeg) = 2 → ¬ (s 170 ((x8 + (-1)) - 1).toNatClampNeg) = 0 → jv_in ((x8 + (-1)) - 1) 220 = true)
    (k10 : x9 < ((200 * x1) + (s 165 (((5 * x1) + x2) + 1).toNatClampNeg)) → ¬ (s 163 x9.toNatClampNeg) = 0 → ¬ (s 163 x9.toNatClampNeg) = 1 → ¬ (s 163 x9.toNatClampNeg) = 4 → ¬ (s 163 x9.toNatClampNeg) = 10 → (s 163 x9.toNatClampNeg) = 2 → ¬ (s 170 ((x8 + (-1)) - 1).toNatClampNeg) = 0 → ∀ s2 : jg_H, s2 = jg_up s 170 ((x8 + (-1)) - 1).toNatClampNeg 1 → q_W G (d + 1) jm_M_worked B 50 [some (.ref 146), some (.int x1), some (.int x2), some (.int x3), some (.int x4), some (.int x5), some (.int x6), some (.int x7), some (.int (x8 + (-1))), some (.int (x9 + 1)), some (.int (s 163 x9.toNatClampNeg))] [] s2)
    (k11 : x9 < ((200 * x1) + (s 165 (((5 * x1) + x2) + 1).toNatClampNeg)) → ¬ (s 163 x9.toNatClampNeg) = 0 → ¬ (s 163 x9.toNatClampNeg) = 1 → ¬ (s 163 x9.toNatClampNeg) = 4 → ¬ (s 163 x9.toNatClampNeg) = 10 → (s 163 x9.toNatClampNeg) = 2 → (s 170 ((x8 + (-1)) - 1).toNatClampNeg) = 0 → (s 170 (x8 + (-1)).toNatClampNeg) = 0 → jv_in ((x8 + (-1)) - 1) 220 = true)
    (k12 : x9 < ((200 * x1) + (s 165 (((5 * x1) + x2) + 1).toNatClampNeg)) → ¬ (s 163 x9.toNatClampNeg) = 0 → ¬ (s 163 x9.toNatClampNeg) = 1 → ¬ (s 163 x9.toNatClampNeg) = 4 → ¬ (s 163 x9.toNatClampNeg) = 10 → (s 163 x9.toNatClampNeg) = 2 → (s 170 ((x8 + (-1)) - 1).toNatClampNeg) = 0 → (s 170 (x8 + (-1)).toNatClampNeg) = 0 → ∀ s3 : jg_H, s3 = jg_up s 170 ((x8 + (-1)) - 1).toNatClampNeg 0 → q_W G (d + 1) jm_M_worked B 50 [some (.ref 146), some (.int x1), some (.int x2), some (.int x3), some (.int x4), some (.int x5), some (.int x6), some (.int x7), some (.int (x8 + (-1))), some (.int (x9 + 1)), some (.int (s 163 x9.toNatClampNeg))] [] s3)
    (k13 : x9 < ((200 * x1) + (s 165 (((5 * x1) + x2) + 1).toNatClampNeg)) → ¬ (s 163 x9.toNatClampNeg) = 0 → ¬ (s 163 x9.toNatClampNeg) = 1 → ¬ (s 163 x9.toNatClampNeg) = 4 → ¬ (s 163 x9.toNatClampNeg) = 10 → (s 163 x9.toNatClampNeg) = 2 → (s 170 ((x8 + (-1)) - 1).toNatClampNeg) = 0 → ¬ (s 170 (x8 + (-1)).toNatClampNeg) = 0 → jv_in ((x8 + (-1)) - 1) 220 = true)
    (k14 : x9 < ((200 * x1) + (s 165 (((5 * x1) + x2) + 1).toNatClampNeg)) → ¬ (s 163 x9.toNatClampNeg) = 0 → ¬ (s 163 x9.toNatClampNeg) = 1 → ¬ (s 163 x9.toNatClampNeg) = 4 → ¬ (s 163 x9.toNatClampNeg) = 10 → (s 163 x9.toNatClampNeg) = 2 → (s 170 ((x8 + (-1)) - 1).toNatClampNeg) = 0 → ¬ (s 170 (x8 + (-1)).toNatClampNeg) = 0 → ∀ s4 : jg_H, s4 = jg_up s 170 ((x8 + (-1)) - 1).toNatClampNeg 1 → q_W G (d + 1) jm_M_worked B 50 [some (.ref 146), some (.int x1), some (.int x2), some (.int x3), some (.int x4), some (.int x5), some (.int x6), some (.int x7), some (.int (x8 + (-1))), some (.int (x9 + 1)), some (.int (s 163 x9.toNatClampNeg))] [] s4)
    (k15 : x9 < ((200 * x1) + (s 165 (((5 * x1) + x2) + 1).toNatClampNeg)) → ¬ (s 163 x9.toNatClampNeg) = 0 → ¬ (s 163 x9.toNatClampNeg) = 1 → ¬ (s 163 x9.toNatClampNeg) = 4 → ¬ (s 163 x9.toNatClampNeg) = 10 → ¬ (s 163 x9.toNatClampNeg) = 2 → (s 163 x9.toNatClampNeg) = 3 → (s 170 ((x8 + (-1)) - 1).toNatClampNeg) = 0 → jv_in ((x8 + (-1)) - 1) 220 = true)
    (k16 : x9 < ((200 * x1) + (s 165 (((5 * x1) + x2) + 1).toNatClampNeg)) → ¬ (s 163 x9.toNatClampNeg) = 0 → ¬ (s 163 x9.toNatClampNeg) = 1 → ¬ (s 163 x9.toNatClampNeg) = 4 → ¬ (s 163 x9.toNatClampNeg) = 10 → ¬ (s 163 x9.toNatClampNeg) = 2 → (s 163 x9.toNatClampNeg) = 3 → (s 170 ((x8 + (-1)) - 1).toNatClampNeg) = 0 → ∀ s5 : jg_H, s5 = jg_up s 170 ((x8 + (-1)) - 1).toNatClampNeg 0 → q_W G (d + 1) jm_M_worked B 50 [some (.ref 146), some (.int x1), some (.int x2), some (.int x3), some (.int x4), some (.int x5), some (.int x6), some (.int x7), some (.int (x8 + (-1))), some (.int (x9 + 1)), some (.int (s 163 x9.toNatClampNeg))] [] s5)
    (k17 : x9 < ((200 * x1) + (s 165 (((5 * x1) + x2) + 1).toNatClampNeg)) → ¬ (s 163 x9.toNatClampNeg) = 0 → ¬ (s 163 x9.toNatClampNeg) = 1 → ¬ (s 163 x9.toNatClampNeg) = 4 → ¬ (s 163 x9.toNatClampNeg) = 10 → ¬ (s 163 x9.toNatClampNeg) = 2 → (s 163 x9.toNatClampNeg) = 3 → ¬ (s 170 ((x8 + (-1)) - 1).toNatClampNeg) = 0 → (s 170 (x8 + (-1)).toNatClampNeg) = 0 → jv_in ((x8 + (-1)) - 1) 220 = true)
    (k18 : x9 < ((200 * x1) + (s 165 (((5 * x1) + x2) + 1).toNatClampNeg)) → ¬ (s 163 x9.toNatClampNeg) = 0 → ¬ (s 163 x9.toNatClampNeg) = 1 → ¬ (s 163 x9.toNatClampNeg) = 4 → ¬ (s 163 x9.toNatClampNeg) = 10 → ¬ (s 163 x9.toNatClampNeg) = 2 → (s 163 x9.toNatClampNeg) = 3 → ¬ (s 170 ((x8 + (-1)) - 1).toNatClampNeg) = 0 → (s 170 (x8 + (-1)).toNatClampNeg) = 0 → ∀ s6 : jg_H, s6 = jg_up s 170 ((x8 + (-1)) - 1).toNatClampNeg 0 → q_W G (d + 1) jm_M_worked B 50 [some (.ref 146), some (.int x1), some (.int x2), some (.int x3), some (.int x4), some (.int x5), some (.int x6), some (.int x7), some (.int (x8 + (-1))), some (.int (x9 + 1)), some (.int (s 163 x9.toNatClampNeg))] [] s6)
    (k19 : x9 < ((200 * x1) + (s 165 (((5 * x1) + x2) + 1).toNatClampNeg)) → ¬ (s 163 x9.toNatClampNeg) = 0 → ¬ (s 163 x9.toNatClampNeg) = 1 → ¬ (s 163 x9.toNatClampNeg) = 4 → ¬ (s 163 x9.toNatClampNeg) = 10 → ¬ (s 163 x9.toNatClampNeg) = 2 → (s 163 x9.toNatClampNeg) = 3 → ¬ (s 170 ((x8 + (-1)) - 1).toNatClampNeg) = 0 → ¬ (s 170 (x8 + (-1)).toNatClampNeg) = 0 → jv_in ((x8 + (-1)) - 1) 220 = true)
    (k20 : x9 < ((200 * x1) + (s 165 (((5 * x1) + x2) + 1).toNatClampNeg)) → ¬ (s 163 x9.toNatClampNeg) = 0 → ¬ (s 163 x9.toNatClampNeg) = 1 → ¬ (s 163 x9.toNatClampNeg) = 4 → ¬ (s 163 x9.toNatClampNeg) = 10 → ¬ (s 163 x9.toNatClampNeg) = 2 → (s 163 x9.toNatClampNeg) = 3 → ¬ (s 170 ((x8 + (-1)) - 1).toNatClampNeg) = 0 → ¬ (s 170 (x8 + (-1)).toNatClampNeg) = 0 → ∀ s7 : jg_H, s7 = jg_up s 170 ((x8 + (-1)) - 1).toNatClampNeg 1 → q_W G (d + 1) jm_M_worked B 50 [some (.ref 146), some (.int x1), some (.int x2), some (.int x3), some (.int x4), some (.int x5), some (.int x6), some (.int x7), some (.int (x8 + (-1))), some (.int (x9 + 1)), some (.int (s 163 x9.toNatClampNeg))] [] s7)
    (k21 : x9 < ((200 * x1) + (s 165 (((5 * x1) + x2) + 1).toNatClampNeg)) → ¬ (s 163 x9.toNatClampNeg) = 0 → ¬ (s 163 x9.toNatClampNeg) = 1 → ¬ (s 163 x9.toNatClampNeg) = 4 → ¬ (s 163 x9.toNatClampNeg) = 10 → ¬ (s 163 x9.toNatClampNeg) = 2 → ¬ (s 163 x9.toNatClampNeg) = 3 → (s 163 x9.toNatClampNeg) = 5 → ¬ (s 170 ((x8 + (-1)) - 1).toNatClampNeg) < (s 170 (x8 + (-1)).toNatClampNeg) → jv_in ((x8 + (-1)) - 1) 220 = true)
    (k22 : x9 < ((200 * x1) + (s 165 (((5 * x1) + x2) + 1).toNatClampNeg)) → ¬ (s 163 x9.toNatClampNeg) = 0 → ¬ (s 163 x9.toNatClampNeg) = 1 → ¬ (s 163 x9.toNatClampNeg) = 4 → ¬ (s 163 x9.toNatClampNeg) = 10 → ¬ (s 163 x9.toNatClampNeg) = 2 → ¬ (s 163 x9.toNatClampNeg) = 3 → (s 163 x9.toNatClampNeg) = 5 → ¬ (s 170 ((x8 + (-1)) - 1).toNatClampNeg) < (s 170 (x8 + (-1)).toNatClampNeg) → ∀ s8 : jg_H, s8 = jg_up s 170 ((x8 + (-1)) - 1).toNatClampNeg 0 → q_W G (d + 1) jm_M_worked B 50 [some (.ref 146), some (.int x1), some (.int x2), some (.int x3), some (.int x4), some (.int x5), some (.int x6), some (.int x7), some (.int (x8 + (-1))), some (.int (x9 + 1)), some (.int (s 163 x9.toNatClampNeg))] [] s8)
    (k23 : x9 < ((200 * x1) + (s 165 (((5 * x1) + x2) + 1).toNatClampNeg)) → ¬ (s 163 x9.toNatClampNeg) = 0 → ¬ (s 163 x9.toNatClampNeg) = 1 → ¬ (s 163 x9.toNatClampNeg) = 4 → ¬ (s 163 x9.toNatClampNeg) = 10 → ¬ (s 163 x9.toNatClampNeg) = 2 → ¬ (s 163 x9.toNatClampNeg) = 3 → (s 163 x9.toNatClampNeg) = 5 → (s 170 ((x8 + (-1)) - 1).toNatClampNeg) < (s 170 (x8 + (-1)).toNatClampNeg) → jv_in ((x8 + (-1)) - 1) 220 = true)
    (k24 : x9 < ((200 * x1) + (s 165 (((5 * x1) + x2) + 1).toNatClampNeg)) → ¬ (s 163 x9.toNatClampNeg) = 0 → ¬ (s 163 x9.toNatClampNeg) = 1 → ¬ (s 163 x9.toNatClampNeg) = 4 → ¬ (s 163 x9.toNatClampNeg) = 10 → ¬ (s 163 x9.toNatClampNeg) = 2 → ¬ (s 163 x9.toNatClampNeg) = 3 → (s 163 x9.toNatClampNeg) = 5 → (s 170 ((x8 + (-1)) - 1).toNatClampNeg) < (s 170 (x8 + (-1)).toNatClampNeg) → ∀ s9 : jg_H, s9 = jg_up s 170 ((x8 + (-1)) - 1).toNatClampNeg 1 → q_W G (d + 1) jm_M_worked B 50 [some (.ref 146), some (.int x1), some (.int x2), some (.int x3), some (.int x4), some (.int x5), some (.int x6), some (.int x7), some (.int (x8 + (-1))), some (.int (x9 + 1)), some (.int (s 163 x9.toNatClampNeg))] [] s9)
    (k25 : x9 < ((200 * x1) + (s 165 (((5 * x1) + x2) + 1).toNatClampNeg)) → ¬ (s 163 x9.toNatClampNeg) = 0 → ¬ (s 163 x9.toNatClampNeg) = 1 → ¬ (s 163 x9.toNatClampNeg) = 4 → ¬ (s 163 x9.toNatClampNeg) = 10 → ¬ (s 163 x9.toNatClampNeg) = 2 → ¬ (s 163 x9.toNatClampNeg) = 3 → ¬ (s 163 x9.toNatClampNeg) = 5 → (s 163 x9.toNatClampNeg) = 6 → ¬ (s 170 ((x8 + (-1)) - 1).toNatClampNeg) = (s 170 (x8 + (-1)).toNatClampNeg) → jv_in ((x8 + (-1)) - 1) 220 = true)
    (k26 : x9 < ((200 * x1) + (s 165 (((5 * x1) + x2) + 1).toNatClampNeg)) → ¬ (s 163 x9.toNatClampNeg) = 0 → ¬ (s 163 x9.toNatClampNeg) = 1 → ¬ (s 163 x9.toNatClampNeg) = 4 → ¬ (s 163 x9.toNatClampNeg) = 10 → ¬ (s 163 x9.toNatClampNeg) = 2 → ¬ (s 163 x9.toNatClampNeg) = 3 → ¬ (s 163 x9.toNatClampNeg) = 5 → (s 163 x9.toNatClampNeg) = 6 → ¬ (s 170 ((x8 + (-1)) - 1).toNatClampNeg) = (s 170 (x8 + (-1)).toNatClampNeg) → ∀ s10 : jg_H, s10 = jg_up s 170 ((x8 + (-1)) - 1).toNatClampNeg 0 → q_W G (d + 1) jm_M_worked B 50 [some (.ref 146), some (.int x1), some (.int x2), some (.int x3), some (.int x4), some (.int x5), some (.int x6), some (.int x7), some (.int (x8 + (-1))), some (.int (x9 + 1)), some (.int (s 163 x9.toNatClampNeg))] [] s10)
    (k27 : x9 < ((200 * x1) + (s 165 (((5 * x1) + x2) + 1).toNatClampNeg)) → ¬ (s 163 x9.toNatClampNeg) = 0 → ¬ (s 163 x9.toNatClampNeg) = 1 → ¬ (s 163 x9.toNatClampNeg) = 4 → ¬ (s 163 x9.toNatClampNeg) = 10 → ¬ (s 163 x9.toNatClampNeg) = 2 → ¬ (s 163 x9.toNatClampNeg) = 3 → ¬ (s 163 x9.toNatClampNeg) = 5 → (s 163 x9.toNatClampNeg) = 6 → (s 170 ((x8 + (-1)) - 1).toNatClampNeg) = (s 170 (x8 + (-1)).toNatClampNeg) → jv_in ((x8 + (-1)) - 1) 220 = true)
    (k28 : x9 < ((200 * x1) + (s 165 (((5 * x1) + x2) + 1).toNatClampNeg)) → ¬ (s 163 x9.toNatClampNeg) = 0 → ¬ (s 163 x9.toNatClampNeg) = 1 → ¬ (s 163 x9.toNatClampNeg) = 4 → ¬ (s 163 x9.toNatClampNeg) = 10 → ¬ (s 163 x9.toNatClampNeg) = 2 → ¬ (s 163 x9.toNatClampNeg) = 3 → ¬ (s 163 x9.toNatClampNeg) = 5 → (s 163 x9.toNatClampNeg) = 6 → (s 170 ((x8 + (-1)) - 1).toNatClampNeg) = (s 170 (x8 + (-1)).toNatClampNeg) → ∀ s11 : jg_H, s11 = jg_up s 170 ((x8 + (-1)) - 1).toNatClampNeg 1 → q_W G (d + 1) jm_M_worked B 50 [some (.ref 146), some (.int x1), some (.int x2), some (.int x3), some (.int x4), some (.int x5), some (.int x6), some (.int x7), some (.int (x8 + (-1))), some (.int (x9 + 1)), some (.int (s 163 x9.toNatClampNeg))] [] s11)
    (k29 : x9 < ((200 * x1) + (s 165 (((5 * x1) + x2) + 1).toNatClampNeg)) → ¬ (s 163 x9.toNatClampNeg) = 0 → ¬ (s 163 x9.toNatClampNeg) = 1 → ¬ (s 163 x9.toNatClampNeg) = 4 → ¬ (s 163 x9.toNatClampNeg) = 10 → ¬ (s 163 x9.toNatClampNeg) = 2 → ¬ (s 163 x9.toNatClampNeg) = 3 → ¬ (s 163 x9.toNatClampNeg) = 5 → ¬ (s 163 x9.toNatClampNeg) = 6 → (s 163 x9.toNatClampNeg) = 7 → jv_in ((x8 + (-1)) - 1) 220 = true)
    (k30 : x9 < ((200 * x1) + (s 165 (((5 * x1) + x2) + 1).toNatClampNeg)) → ¬ (s 163 x9.toNatClampNeg) = 0 → ¬ (s 163 x9.toNatClampNeg) = 1 → ¬ (s 163 x9.toNatClampNeg) = 4 → ¬ (s 163 x9.toNatClampNeg) = 10 → ¬ (s 163 x9.toNatClampNeg) = 2 → ¬ (s 163 x9.toNatClampNeg) = 3 → ¬ (s 163 x9.toNatClampNeg) = 5 → ¬ (s 163 x9.toNatClampNeg) = 6 → (s 163 x9.toNatClampNeg) = 7 → ∀ s12 : jg_H, s12 = jg_up s 170 ((x8 + (-1)) - 1).toNatClampNeg ((s 170 ((x8 + (-1)) - 1).toNatClampNeg) + (s 170 (x8 + (-1)).toNatClampNeg)) → q_W G (d + 1) jm_M_worked B 50 [some (.ref 146), some (.int x1), some (.int x2), some (.int x3), some (.int x4), some (.int x5), some (.int x6), some (.int x7), some (.int (x8 + (-1))), some (.int (x9 + 1)), some (.int (s 163 x9.toNatClampNeg))] [] s12)
    (k31 : x9 < ((200 * x1) + (s 165 (((5 * x1) + x2) + 1).toNatClampNeg)) → ¬ (s 163 x9.toNatClampNeg) = 0 → ¬ (s 163 x9.toNatClampNeg) = 1 → ¬ (s 163 x9.toNatClampNeg) = 4 → ¬ (s 163 x9.toNatClampNeg) = 10 → ¬ (s 163 x9.toNatClampNeg) = 2 → ¬ (s 163 x9.toNatClampNeg) = 3 → ¬ (s 163 x9.toNatClampNeg) = 5 → ¬ (s 163 x9.toNatClampNeg) = 6 → ¬ (s 163 x9.toNatClampNeg) = 7 → (s 163 x9.toNatClampNeg) = 8 → jv_in ((x8 + (-1)) - 1) 220 = true)
    (k32 : x9 < ((200 * x1) + (s 165 (((5 * x1) + x2) + 1).toNatClampNeg)) → ¬ (s 163 x9.toNatClampNeg) = 0 → ¬ (s 163 x9.toNatClampNeg) = 1 → ¬ (s 163 x9.toNatClampNeg) = 4 → ¬ (s 163 x9.toNatClampNeg) = 10 → ¬ (s 163 x9.toNatClampNeg) = 2 → ¬ (s 163 x9.toNatClampNeg) = 3 → ¬ (s 163 x9.toNatClampNeg) = 5 → ¬ (s 163 x9.toNatClampNeg) = 6 → ¬ (s 163 x9.toNatClampNeg) = 7 → (s 163 x9.toNatClampNeg) = 8 → ∀ s13 : jg_H, s13 = jg_up s 170 ((x8 + (-1)) - 1).toNatClampNeg ((s 170 ((x8 + (-1)) - 1).toNatClampNeg) - (s 170 (x8 + (-1)).toNatClampNeg)) → q_W G (d + 1) jm_M_worked B 50 [some (.ref 146), some (.int x1), some (.int x2), some (.int x3), some (.int x4), some (.int x5), some (.int x6), some (.int x7), some (.int (x8 + (-1))), some (.int (x9 + 1)), some (.int (s 163 x9.toNatClampNeg))] [] s13)
    (k33 : x9 < ((200 * x1) + (s 165 (((5 * x1) + x2) + 1).toNatClampNeg)) → ¬ (s 163 x9.toNatClampNeg) = 0 → ¬ (s 163 x9.toNatClampNeg) = 1 → ¬ (s 163 x9.toNatClampNeg) = 4 → ¬ (s 163 x9.toNatClampNeg) = 10 → ¬ (s 163 x9.toNatClampNeg) = 2 → ¬ (s 163 x9.toNatClampNeg) = 3 → ¬ (s 163 x9.toNatClampNeg) = 5 → ¬ (s 163 x9.toNatClampNeg) = 6 → ¬ (s 163 x9.toNatClampNeg) = 7 → ¬ (s 163 x9.toNatClampNeg) = 8 → jv_in ((x8 + (-1)) - 1) 220 = true)
    (k34 : x9 < ((200 * x1) + (s 165 (((5 * x1) + x2) + 1).toNatClampNeg)) → ¬ (s 163 x9.toNatClampNeg) = 0 → ¬ (s 163 x9.toNatClampNeg) = 1 → ¬ (s 163 x9.toNatClampNeg) = 4 → ¬ (s 163 x9.toNatClampNeg) = 10 → ¬ (s 163 x9.toNatClampNeg) = 2 → ¬ (s 163 x9.toNatClampNeg) = 3 → ¬ (s 163 x9.toNatClampNeg) = 5 → ¬ (s 163 x9.toNatClampNeg) = 6 → ¬ (s 163 x9.toNatClampNeg) = 7 → ¬ (s 163 x9.toNatClampNeg) = 8 → ∀ s14 : jg_H, s14 = jg_up s 170 ((x8 + (-1)) - 1).toNatClampNeg ((s 170 ((x8 + (-1)) - 1).toNatClampNeg) * (s 170 (x8 + (-1)).toNatClampNeg)) → q_W G (d + 1) jm_M_worked B 50 [some (.ref 146), some (.int x1), some (.int x2), some (.int x3), some (.int x4), some (.int x5), some (.int x6), some (.int x7), some (.int (x8 + (-1))), some (.int (x9 + 1)), some (.int (s 163 x9.toNatClampNeg))] [] s14)
    (k35 : x9 < ((200 * x1) + (s 165 (((5 * x1) + x2) + 1).toNatClampNeg)) → ¬ (s 163 x9.toNatClampNeg) = 0 → ¬ (s 163 x9.toNatClampNeg) = 1 → ¬ (s 163 x9.toNatClampNeg) = 4 → (s 163 x9.toNatClampNeg) = 10 → jv_in (x8 - 1) 220 = true)
    (k36 : x9 < ((200 * x1) + (s 165 (((5 * x1) + x2) + 1).toNatClampNeg)) → ¬ (s 163 x9.toNatClampNeg) = 0 → ¬ (s 163 x9.toNatClampNeg) = 1 → ¬ (s 163 x9.toNatClampNeg) = 4 → (s 163 x9.toNatClampNeg) = 10 → jv_in (x8 - 1) 220 = true)
    (k37 : x9 < ((200 * x1) + (s 165 (((5 * x1) + x2) + 1).toNatClampNeg)) → ¬ (s 163 x9.toNatClampNeg) = 0 → ¬ (s 163 x9.toNatClampNeg) = 1 → ¬ (s 163 x9.toNatClampNeg) = 4 → (s 163 x9.toNatClampNeg) = 10 → ∀ s15 : jg_H, s15 = jg_up s 170 (x8 - 1).toNatClampNeg (-(s 170 (x8 - 1).toNatClampNeg)) → q_W G (d + 1) jm_M_worked B 50 [some (.ref 146), some (.int x1), some (.int x2), some (.int x3), some (.int x4), some (.int x5), some (.int x6), some (.int x7), some (.int x8), some (.int (x9 + 1)), some (.int (s 163 x9.toNatClampNeg))] [] s15)
    (k38 : x9 < ((200 * x1) + (s 165 (((5 * x1) + x2) + 1).toNatClampNeg)) → ¬ (s 163 x9.toNatClampNeg) = 0 → ¬ (s 163 x9.toNatClampNeg) = 1 → (s 163 x9.toNatClampNeg) = 4 → jv_in (x8 - 1) 220 = true)
    (k39 : x9 < ((200 * x1) + (s 165 (((5 * x1) + x2) + 1).toNatClampNeg)) → ¬ (s 163 x9.toNatClampNeg) = 0 → ¬ (s 163 x9.toNatClampNeg) = 1 → (s 163 x9.toNatClampNeg) = 4 → ¬ (s 170 (x8 - 1).toNatClampNeg) = 0 → jv_in (x8 - 1) 220 = true)
    (k40 : x9 < ((200 * x1) + (s 165 (((5 * x1) + x2) + 1).toNatClampNeg)) → ¬ (s 163 x9.toNatClampNeg) = 0 → ¬ (s 163 x9.toNatClampNeg) = 1 → (s 163 x9.toNatClampNeg) = 4 → ¬ (s 170 (x8 - 1).toNatClampNeg) = 0 → ∀ s16 : jg_H, s16 = jg_up s 170 (x8 - 1).toNatClampNeg 0 → q_W G (d + 1) jm_M_worked B 50 [some (.ref 146), some (.int x1), some (.int x2), some (.int x3), some (.int x4), some (.int x5), some (.int x6), some (.int x7), some (.int x8), some (.int (x9 + 1)), some (.int (s 163 x9.toNatClampNeg))] [] s16)
    (k41 : x9 < ((200 * x1) + (s 165 (((5 * x1) + x2) + 1).toNatClampNeg)) → ¬ (s 163 x9.toNatClampNeg) = 0 → ¬ (s 163 x9.toNatClampNeg) = 1 → (s 163 x9.toNatClampNeg) = 4 → (s 170 (x8 - 1).toNatClampNeg) = 0 → jv_in (x8 - 1) 220 = true)
    (k42 : x9 < ((200 * x1) + (s 165 (((5 * x1) + x2) + 1).toNatClampNeg)) → ¬ (s 163 x9.toNatClampNeg) = 0 → ¬ (s 163 x9.toNatClampNeg) = 1 → (s 163 x9.toNatClampNeg) = 4 → (s 170 (x8 - 1).toNatClampNeg) = 0 → ∀ s17 : jg_H, s17 = jg_up s 170 (x8 - 1).toNatClampNeg 1 → q_W G (d + 1) jm_M_worked B 50 [some (.ref 146), some (.int x1), some (.int x2), some (.int x3), some (.int x4), some (.int x5), some (.int x6), some (.int x7), some (.int x8), some (.int (x9 + 1)), some (.int (s 163 x9.toNatClampNeg))] [] s17)
    (k43 : x9 < ((200 * x1) + (s 165 (((5 * x1) + x2) + 1).toNatClampNeg)) → ¬ (s 163 x9.toNatClampNeg) = 0 → (s 163 x9.toNatClampNeg) = 1 → jv_in x9 1800 = true)
    (k44 : x9 < ((200 * x1) + (s 165 (((5 * x1) + x2) + 1).toNatClampNeg)) → ¬ (s 163 x9.toNatClampNeg) = 0 → (s 163 x9.toNatClampNeg) = 1 → q_P G (d + 1) 179 [.ref 146, .int (s 164 x9.toNatClampNeg)] s (fun v t => q_W G (d + 1) jm_M_worked B 125 [some (.ref 146), some (.int x1), some (.int x2), some (.int x3), some (.int x4), some (.int x5), some (.int x6), some (.int x7), some (.int x8), some (.int x9), some (.int (s 163 x9.toNatClampNeg))] (v.toList ++ [.int x8, .ref 170]) t)) :
    q_W G (d + 1) jm_M_worked B 50 [some (.ref 146), some (.int x1), some (.int x2), some (.int x3), some (.int x4), some (.int x5), some (.int x6), some (.int x7), some (.int x8), some (.int x9), o10] [] s := by
  refine q_iload (pc' := 52) ja_M_worked_50 rfl rfl ?_
  refine q_sipush (pc' := 55) ja_M_worked_52 rfl 200 (by decide) ?_
  refine q_iload_n (pc' := 56) ja_M_worked_55 rfl rfl ?_
  refine q_imul (pc' := 57) ja_M_worked_56 rfl ?_
  refine q_aload_n (pc' := 58) ja_M_worked_57 rfl rfl ?_
  refine q_getf (pc' := 61) (v := .ref 165) ja_M_worked_58 rfl (by decide) ⟨rfl, by decide⟩ rfl ?_
  refine q_iconst (pc' := 62) ja_M_worked_61 rfl 5 (by decide) ?_
  refine q_iload_n (pc' := 63) ja_M_worked_62 rfl rfl ?_
  refine q_imul (pc' := 64) ja_M_worked_63 rfl ?_
  refine q_iload_n (pc' := 65) ja_M_worked_64 rfl rfl ?_
  refine q_iadd (pc' := 66) ja_M_worked_65 rfl ?_
  refine q_iconst (pc' := 67) ja_M_worked_66 rfl 1 (by decide) ?_
  refine q_iadd (pc' := 68) ja_M_worked_67 rfl ?_
  refine q_iald (pc' := 69) (v := .int (s 165 (((5 * x1) + x2) + 1).toNatClampNeg)) ja_M_worked_68 rfl (by decide) (l := 45) rfl k1 rfl ?_
  refine q_iadd (pc' := 70) ja_M_worked_69 rfl ?_
  refine q_ic_ge (pc' := 73) ja_M_worked_70 rfl ?_ ?_
  · intro h1
    refine q_aload_n (pc' := 236) ja_M_worked_235 rfl rfl ?_
    refine q_getf (pc' := 239) (v := .ref 170) ja_M_worked_236 rfl (by decide) ⟨rfl, by decide⟩ rfl ?_
    refine q_iconst (pc' := 240) ja_M_worked_239 rfl 0 (by decide) ?_
    refine q_iald (pc' := 241) (v := .int (s 170 0)) ja_M_worked_240 rfl (by decide) (l := 220) rfl (by decide) rfl ?_
    exact q_iret ja_M_worked_241 rfl rfl (k2 h1)
  · intro h2
    refine q_aload_n (pc' := 74) ja_M_worked_73 rfl rfl ?_
    refine q_getf (pc' := 77) (v := .ref 163) ja_M_worked_74 rfl (by decide) ⟨rfl, by decide⟩ rfl ?_
    refine q_iload (pc' := 79) ja_M_worked_77 rfl rfl ?_
    refine q_iald (pc' := 80) (v := .int (s 163 x9.toNatClampNeg)) ja_M_worked_79 rfl (by decide) (l := 1800) rfl (k3 h2) rfl ?_
    refine q_istore (pc' := 82) (ls' := [some (.ref 146), some (.int x1), some (.int x2), some (.int x3), some (.int x4), some (.int x5), some (.int x6), some (.int x7), some (.int x8), some (.int x9), some (.int (s 163 x9.toNatClampNeg))]) ja_M_worked_80 rfl ⟨Nat.le_of_ble_eq_true rfl, rfl⟩ rfl ?_
    refine q_iload (pc' := 84) ja_M_worked_82 rfl rfl ?_
    refine q_if_eq (pc' := 87) ja_M_worked_84 rfl ?_ ?_
    · intro h3
      refine q_aload_n (pc' := 94) ja_M_worked_93 rfl rfl ?_
      refine q_getf (pc' := 97) (v := .ref 170) ja_M_worked_94 rfl (by decide) ⟨rfl, by decide⟩ rfl ?_
      refine q_iload (pc' := 99) ja_M_worked_97 rfl rfl ?_
      refine q_iload (pc' := 101) ja_M_worked_99 rfl rfl ?_
      refine q_if_ne (pc' := 104) ja_M_worked_101 rfl (fun h => absurd (h3) h) (fun _ => ?_)
      refine q_aload_n (pc' := 105) ja_M_worked_104 rfl rfl ?_
      refine q_getf (pc' := 108) (v := .ref 164) ja_M_worked_105 rfl (by decide) ⟨rfl, by decide⟩ rfl ?_
      refine q_iload (pc' := 110) ja_M_worked_108 rfl rfl ?_
      refine q_iald (pc' := 111) (v := .int (s 164 x9.toNatClampNeg)) ja_M_worked_110 rfl (by decide) (l := 1800) rfl (k4 h2 h3) rfl ?_
      refine q_goto ja_M_worked_111 ?_
      refine q_iast (pc' := 126) ja_M_worked_125 rfl (by decide) (l := 220) rfl (k5 h2 h3) ?_
      intro s1 e1
      refine q_iinc (pc' := 129) (ls' := [some (.ref 146), some (.int x1), some (.int x2), some (.int x3), some (.int x4), some (.int x5), some (.int x6), some (.int x7), some (.int (x8 + 1)), some (.int x9), some (.int (s 163 x9.toNatClampNeg))]) ja_M_worked_126 rfl rfl (x8 + 1) rfl ⟨Nat.le_of_ble_eq_true rfl, rfl⟩ rfl ?_
      refine q_goto ja_M_worked_129 ?_
      refine q_iinc (pc' := 232) (ls' := [some (.ref 146), some (.int x1), some (.int x2), some (.int x3), some (.int x4), some (.int x5), some (.int x6), some (.int x7), some (.int (x8 + 1)), some (.int (x9 + 1)), some (.int (s 163 x9.toNatClampNeg))]) ja_M_worked_229 rfl rfl (x9 + 1) rfl ⟨Nat.le_of_ble_eq_true rfl, rfl⟩ rfl ?_
      refine q_goto ja_M_worked_232 ?_
      exact (k6 h2 h3 s1 e1)
    · intro h4
      refine q_iload (pc' := 89) ja_M_worked_87 rfl rfl ?_
      refine q_iconst (pc' := 90) ja_M_worked_89 rfl 1 (by decide) ?_
      refine q_ic_ne (pc' := 93) ja_M_worked_90 rfl ?_ ?_
      · intro h5
        refine q_iload (pc' := 134) ja_M_worked_132 rfl rfl ?_
        refine q_iconst (pc' := 135) ja_M_worked_134 rfl 4 (by decide) ?_
        refine q_ic_ne (pc' := 138) ja_M_worked_135 rfl ?_ ?_
        · intro h6
          refine q_iload (pc' := 169) ja_M_worked_167 rfl rfl ?_
          refine q_bipush (pc' := 171) ja_M_worked_169 rfl 10 (by decide) ?_
          refine q_ic_ne (pc' := 174) ja_M_worked_171 rfl ?_ ?_
          · intro h7
            refine q_iinc (pc' := 199) (ls' := [some (.ref 146), some (.int x1), some (.int x2), some (.int x3), some (.int x4), some (.int x5), some (.int x6), some (.int x7), some (.int (x8 + (-1))), some (.int x9), some (.int (s 163 x9.toNatClampNeg))]) ja_M_worked_196 rfl rfl (x8 + (-1)) rfl ⟨Nat.le_of_ble_eq_true rfl, rfl⟩ rfl ?_
            refine q_aload_n (pc' := 200) ja_M_worked_199 rfl rfl ?_
            refine q_getf (pc' := 203) (v := .ref 170) ja_M_worked_200 rfl (by decide) ⟨rfl, by decide⟩ rfl ?_
            refine q_iload (pc' := 205) ja_M_worked_203 rfl rfl ?_
            refine q_iconst (pc' := 206) ja_M_worked_205 rfl 1 (by decide) ?_
            refine q_isub (pc' := 207) ja_M_worked_206 rfl ?_
            refine q_iload (pc' := 209) ja_M_worked_207 rfl rfl ?_
            refine q_aload_n (pc' := 210) ja_M_worked_209 rfl rfl ?_
            refine q_getf (pc' := 213) (v := .ref 170) ja_M_worked_210 rfl (by decide) ⟨rfl, by decide⟩ rfl ?_
            refine q_iload (pc' := 215) ja_M_worked_213 rfl rfl ?_
            refine q_iconst (pc' := 216) ja_M_worked_215 rfl 1 (by decide) ?_
            refine q_isub (pc' := 217) ja_M_worked_216 rfl ?_
            refine q_iald (pc' := 218) (v := .int (s 170 ((x8 + (-1)) - 1).toNatClampNeg)) ja_M_worked_217 rfl (by decide) (l := 220) rfl (k7 h2 h4 h5 h6 h7) rfl ?_
            refine q_aload_n (pc' := 219) ja_M_worked_218 rfl rfl ?_
            refine q_getf (pc' := 222) (v := .ref 170) ja_M_worked_219 rfl (by decide) ⟨rfl, by decide⟩ rfl ?_
            refine q_iload (pc' := 224) ja_M_worked_222 rfl rfl ?_
            refine q_iald (pc' := 225) (v := .int (s 170 (x8 + (-1)).toNatClampNeg)) ja_M_worked_224 rfl (by decide) (l := 220) rfl (k8 h2 h4 h5 h6 h7) rfl ?_
            refine q_stat (pc' := 228) (as := [.int (s 163 x9.toNatClampNeg), .int (s 170 ((x8 + (-1)) - 1).toNatClampNeg), .int (s 170 (x8 + (-1)).toNatClampNeg)]) (r := [.int ((x8 + (-1)) - 1), .ref 170]) ja_M_worked_225 rfl (by decide) rfl rfl ?_
            refine q_in (M := jm_M_two) rfl (Nat.le_of_ble_eq_true rfl) (ls := [some (.int (s 163 x9.toNatClampNeg)), some (.int (s 170 ((x8 + (-1)) - 1).toNatClampNeg)), some (.int (s 170 (x8 + (-1)).toNatClampNeg))]) rfl ?_
            refine q_iload_n (pc' := 1) ja_M_two_0 rfl rfl ?_
            by_cases h8 : (s 163 x9.toNatClampNeg) = 2
            · refine q_swE (pc' := 44) ja_M_two_1 (by rw [h8]; decide) (by rw [h8]; exact ⟨_, rfl, rfl⟩) ?_
              refine q_iload_n (pc' := 45) ja_M_two_44 rfl rfl ?_
              refine q_if_ne (pc' := 48) ja_M_two_45 rfl ?_ ?_
              · intro h9
                refine q_iconst (pc' := 53) ja_M_two_52 rfl 1 (by decide) ?_
                refine q_goto ja_M_two_53 ?_
                refine q_iret ja_M_two_57 rfl rfl ?_
                show q_W _ _ _ _ 228 [some (.ref 146), some (.int x1), some (.int x2), some (.int x3), some (.int x4), some (.int x5), some (.int x6), some (.int x7), some (.int (x8 + (-1))), some (.int x9), some (.int (s 163 x9.toNatClampNeg))] [.int 1, .int ((x8 + (-1)) - 1), .ref 170] s
                refine q_iast (pc' := 229) ja_M_worked_228 rfl (by decide) (l := 220) rfl (k9 h2 h4 h5 h6 h7 h8 h9) ?_
                intro s2 e2
                refine q_iinc (pc' := 232) (ls' := [some (.ref 146), some (.int x1), some (.int x2), some (.int x3), some (.int x4), some (.int x5), some (.int x6), some (.int x7), some (.int (x8 + (-1))), some (.int (x9 + 1)), some (.int (s 163 x9.toNatClampNeg))]) ja_M_worked_229 rfl rfl (x9 + 1) rfl ⟨Nat.le_of_ble_eq_true rfl, rfl⟩ rfl ?_
                refine q_goto ja_M_worked_232 ?_
                exact (k10 h2 h4 h5 h6 h7 h8 h9 s2 e2)
              · intro h10
                refine q_iload_n (pc' := 49) ja_M_two_48 rfl rfl ?_
                refine q_if_eq (pc' := 52) ja_M_two_49 rfl ?_ ?_
                · intro h11
                  refine q_iconst (pc' := 57) ja_M_two_56 rfl 0 (by decide) ?_
                  refine q_iret ja_M_two_57 rfl rfl ?_
                  show q_W _ _ _ _ 228 [some (.ref 146), some (.int x1), some (.int x2), some (.int x3), some (.int x4), some (.int x5), some (.int x6), some (.int x7), some (.int (x8 + (-1))), some (.int x9), some (.int (s 163 x9.toNatClampNeg))] [.int 0, .int ((x8 + (-1)) - 1), .ref 170] s
                  refine q_iast (pc' := 229) ja_M_worked_228 rfl (by decide) (l := 220) rfl (k11 h2 h4 h5 h6 h7 h8 h10 h11) ?_
                  intro s3 e3
                  refine q_iinc (pc' := 232) (ls' := [some (.ref 146), some (.int x1), some (.int x2), some (.int x3), some (.int x4), some (.int x5), some (.int x6), some (.int x7), some (.int (x8 + (-1))), some (.int (x9 + 1)), some (.int (s 163 x9.toNatClampNeg))]) ja_M_worked_229 rfl rfl (x9 + 1) rfl ⟨Nat.le_of_ble_eq_true rfl, rfl⟩ rfl ?_
                  refine q_goto ja_M_worked_232 ?_
                  exact (k12 h2 h4 h5 h6 h7 h8 h10 h11 s3 e3)
                · intro h12
                  refine q_iconst (pc' := 53) ja_M_two_52 rfl 1 (by decide) ?_
                  refine q_goto ja_M_two_53 ?_
                  refine q_iret ja_M_two_57 rfl rfl ?_
                  show q_W _ _ _ _ 228 [some (.ref 146), some (.int x1), some (.int x2), some (.int x3), some (.int x4), some (.int x5), some (.int x6), some (.int x7), some (.int (x8 + (-1))), some (.int x9), some (.int (s 163 x9.toNatClampNeg))] [.int 1, .int ((x8 + (-1)) - 1), .ref 170] s
                  refine q_iast (pc' := 229) ja_M_worked_228 rfl (by decide) (l := 220) rfl (k13 h2 h4 h5 h6 h7 h8 h10 h12) ?_
                  intro s4 e4
                  refine q_iinc (pc' := 232) (ls' := [some (.ref 146), some (.int x1), some (.int x2), some (.int x3), some (.int x4), some (.int x5), some (.int x6), some (.int x7), some (.int (x8 + (-1))), some (.int (x9 + 1)), some (.int (s 163 x9.toNatClampNeg))]) ja_M_worked_229 rfl rfl (x9 + 1) rfl ⟨Nat.le_of_ble_eq_true rfl, rfl⟩ rfl ?_
                  refine q_goto ja_M_worked_232 ?_
                  exact (k14 h2 h4 h5 h6 h7 h8 h10 h12 s4 e4)
            by_cases h13 : (s 163 x9.toNatClampNeg) = 3
            · refine q_swE (pc' := 58) ja_M_two_1 (by rw [h13]; decide) (by rw [h13]; exact ⟨_, rfl, rfl⟩) ?_
              refine q_iload_n (pc' := 59) ja_M_two_58 rfl rfl ?_
              refine q_if_eq (pc' := 62) ja_M_two_59 rfl ?_ ?_
              · intro h14
                refine q_iconst (pc' := 71) ja_M_two_70 rfl 0 (by decide) ?_
                refine q_iret ja_M_two_71 rfl rfl ?_
                show q_W _ _ _ _ 228 [some (.ref 146), some (.int x1), some (.int x2), some (.int x3), some (.int x4), some (.int x5), some (.int x6), some (.int x7), some (.int (x8 + (-1))), some (.int x9), some (.int (s 163 x9.toNatClampNeg))] [.int 0, .int ((x8 + (-1)) - 1), .ref 170] s
                refine q_iast (pc' := 229) ja_M_worked_228 rfl (by decide) (l := 220) rfl (k15 h2 h4 h5 h6 h7 h8 h13 h14) ?_
                intro s5 e5
                refine q_iinc (pc' := 232) (ls' := [some (.ref 146), some (.int x1), some (.int x2), some (.int x3), some (.int x4), some (.int x5), some (.int x6), some (.int x7), some (.int (x8 + (-1))), some (.int (x9 + 1)), some (.int (s 163 x9.toNatClampNeg))]) ja_M_worked_229 rfl rfl (x9 + 1) rfl ⟨Nat.le_of_ble_eq_true rfl, rfl⟩ rfl ?_
                refine q_goto ja_M_worked_232 ?_
                exact (k16 h2 h4 h5 h6 h7 h8 h13 h14 s5 e5)
              · intro h15
                refine q_iload_n (pc' := 63) ja_M_two_62 rfl rfl ?_
                refine q_if_eq (pc' := 66) ja_M_two_63 rfl ?_ ?_
                · intro h16
                  refine q_iconst (pc' := 71) ja_M_two_70 rfl 0 (by decide) ?_
                  refine q_iret ja_M_two_71 rfl rfl ?_
                  show q_W _ _ _ _ 228 [some (.ref 146), some (.int x1), some (.int x2), some (.int x3), some (.int x4), some (.int x5), some (.int x6), some (.int x7), some (.int (x8 + (-1))), some (.int x9), some (.int (s 163 x9.toNatClampNeg))] [.int 0, .int ((x8 + (-1)) - 1), .ref 170] s
                  refine q_iast (pc' := 229) ja_M_worked_228 rfl (by decide) (l := 220) rfl (k17 h2 h4 h5 h6 h7 h8 h13 h15 h16) ?_
                  intro s6 e6
                  refine q_iinc (pc' := 232) (ls' := [some (.ref 146), some (.int x1), some (.int x2), some (.int x3), some (.int x4), some (.int x5), some (.int x6), some (.int x7), some (.int (x8 + (-1))), some (.int (x9 + 1)), some (.int (s 163 x9.toNatClampNeg))]) ja_M_worked_229 rfl rfl (x9 + 1) rfl ⟨Nat.le_of_ble_eq_true rfl, rfl⟩ rfl ?_
                  refine q_goto ja_M_worked_232 ?_
                  exact (k18 h2 h4 h5 h6 h7 h8 h13 h15 h16 s6 e6)
                · intro h17
                  refine q_iconst (pc' := 67) ja_M_two_66 rfl 1 (by decide) ?_
                  refine q_goto ja_M_two_67 ?_
                  refine q_iret ja_M_two_71 rfl rfl ?_
                  show q_W _ _ _ _ 228 [some (.ref 146), some (.int x1), some (.int x2), some (.int x3), some (.int x4), some (.int x5), some (.int x6), some (.int x7), some (.int (x8 + (-1))), some (.int x9), some (.int (s 163 x9.toNatClampNeg))] [.int 1, .int ((x8 + (-1)) - 1), .ref 170] s
                  refine q_iast (pc' := 229) ja_M_worked_228 rfl (by decide) (l := 220) rfl (k19 h2 h4 h5 h6 h7 h8 h13 h15 h17) ?_
                  intro s7 e7
                  refine q_iinc (pc' := 232) (ls' := [some (.ref 146), some (.int x1), some (.int x2), some (.int x3), some (.int x4), some (.int x5), some (.int x6), some (.int x7), some (.int (x8 + (-1))), some (.int (x9 + 1)), some (.int (s 163 x9.toNatClampNeg))]) ja_M_worked_229 rfl rfl (x9 + 1) rfl ⟨Nat.le_of_ble_eq_true rfl, rfl⟩ rfl ?_
                  refine q_goto ja_M_worked_232 ?_
                  exact (k20 h2 h4 h5 h6 h7 h8 h13 h15 h17 s7 e7)
            by_cases h18 : (s 163 x9.toNatClampNeg) = 5
            · refine q_swE (pc' := 72) ja_M_two_1 (by rw [h18]; decide) (by rw [h18]; exact ⟨_, rfl, rfl⟩) ?_
              refine q_iload_n (pc' := 73) ja_M_two_72 rfl rfl ?_
              refine q_iload_n (pc' := 74) ja_M_two_73 rfl rfl ?_
              refine q_ic_ge (pc' := 77) ja_M_two_74 rfl ?_ ?_
              · intro h19
                refine q_iconst (pc' := 82) ja_M_two_81 rfl 0 (by decide) ?_
                refine q_iret ja_M_two_82 rfl rfl ?_
                show q_W _ _ _ _ 228 [some (.ref 146), some (.int x1), some (.int x2), some (.int x3), some (.int x4), some (.int x5), some (.int x6), some (.int x7), some (.int (x8 + (-1))), some (.int x9), some (.int (s 163 x9.toNatClampNeg))] [.int 0, .int ((x8 + (-1)) - 1), .ref 170] s
                refine q_iast (pc' := 229) ja_M_worked_228 rfl (by decide) (l := 220) rfl (k21 h2 h4 h5 h6 h7 h8 h13 h18 h19) ?_
                intro s8 e8
                refine q_iinc (pc' := 232) (ls' := [some (.ref 146), some (.int x1), some (.int x2), some (.int x3), some (.int x4), some (.int x5), some (.int x6), some (.int x7), some (.int (x8 + (-1))), some (.int (x9 + 1)), some (.int (s 163 x9.toNatClampNeg))]) ja_M_worked_229 rfl rfl (x9 + 1) rfl ⟨Nat.le_of_ble_eq_true rfl, rfl⟩ rfl ?_
                refine q_goto ja_M_worked_232 ?_
                exact (k22 h2 h4 h5 h6 h7 h8 h13 h18 h19 s8 e8)
              · intro h20
                refine q_iconst (pc' := 78) ja_M_two_77 rfl 1 (by decide) ?_
                refine q_goto ja_M_two_78 ?_
                refine q_iret ja_M_two_82 rfl rfl ?_
                show q_W _ _ _ _ 228 [some (.ref 146), some (.int x1), some (.int x2), some (.int x3), some (.int x4), some (.int x5), some (.int x6), some (.int x7), some (.int (x8 + (-1))), some (.int x9), some (.int (s 163 x9.toNatClampNeg))] [.int 1, .int ((x8 + (-1)) - 1), .ref 170] s
                refine q_iast (pc' := 229) ja_M_worked_228 rfl (by decide) (l := 220) rfl (k23 h2 h4 h5 h6 h7 h8 h13 h18 h20) ?_
                intro s9 e9
                refine q_iinc (pc' := 232) (ls' := [some (.ref 146), some (.int x1), some (.int x2), some (.int x3), some (.int x4), some (.int x5), some (.int x6), some (.int x7), some (.int (x8 + (-1))), some (.int (x9 + 1)), some (.int (s 163 x9.toNatClampNeg))]) ja_M_worked_229 rfl rfl (x9 + 1) rfl ⟨Nat.le_of_ble_eq_true rfl, rfl⟩ rfl ?_
                refine q_goto ja_M_worked_232 ?_
                exact (k24 h2 h4 h5 h6 h7 h8 h13 h18 h20 s9 e9)
            by_cases h21 : (s 163 x9.toNatClampNeg) = 6
            · refine q_swE (pc' := 83) ja_M_two_1 (by rw [h21]; decide) (by rw [h21]; exact ⟨_, rfl, rfl⟩) ?_
              refine q_iload_n (pc' := 84) ja_M_two_83 rfl rfl ?_
              refine q_iload_n (pc' := 85) ja_M_two_84 rfl rfl ?_
              refine q_ic_ne (pc' := 88) ja_M_two_85 rfl ?_ ?_
              · intro h22
                refine q_iconst (pc' := 93) ja_M_two_92 rfl 0 (by decide) ?_
                refine q_iret ja_M_two_93 rfl rfl ?_
                show q_W _ _ _ _ 228 [some (.ref 146), some (.int x1), some (.int x2), some (.int x3), some (.int x4), some (.int x5), some (.int x6), some (.int x7), some (.int (x8 + (-1))), some (.int x9), some (.int (s 163 x9.toNatClampNeg))] [.int 0, .int ((x8 + (-1)) - 1), .ref 170] s
                refine q_iast (pc' := 229) ja_M_worked_228 rfl (by decide) (l := 220) rfl (k25 h2 h4 h5 h6 h7 h8 h13 h18 h21 h22) ?_
                intro s10 e10
                refine q_iinc (pc' := 232) (ls' := [some (.ref 146), some (.int x1), some (.int x2), some (.int x3), some (.int x4), some (.int x5), some (.int x6), some (.int x7), some (.int (x8 + (-1))), some (.int (x9 + 1)), some (.int (s 163 x9.toNatClampNeg))]) ja_M_worked_229 rfl rfl (x9 + 1) rfl ⟨Nat.le_of_ble_eq_true rfl, rfl⟩ rfl ?_
                refine q_goto ja_M_worked_232 ?_
                exact (k26 h2 h4 h5 h6 h7 h8 h13 h18 h21 h22 s10 e10)
              · intro h23
                refine q_iconst (pc' := 89) ja_M_two_88 rfl 1 (by decide) ?_
                refine q_goto ja_M_two_89 ?_
                refine q_iret ja_M_two_93 rfl rfl ?_
                show q_W _ _ _ _ 228 [some (.ref 146), some (.int x1), some (.int x2), some (.int x3), some (.int x4), some (.int x5), some (.int x6), some (.int x7), some (.int (x8 + (-1))), some (.int x9), some (.int (s 163 x9.toNatClampNeg))] [.int 1, .int ((x8 + (-1)) - 1), .ref 170] s
                refine q_iast (pc' := 229) ja_M_worked_228 rfl (by decide) (l := 220) rfl (k27 h2 h4 h5 h6 h7 h8 h13 h18 h21 h23) ?_
                intro s11 e11
                refine q_iinc (pc' := 232) (ls' := [some (.ref 146), some (.int x1), some (.int x2), some (.int x3), some (.int x4), some (.int x5), some (.int x6), some (.int x7), some (.int (x8 + (-1))), some (.int (x9 + 1)), some (.int (s 163 x9.toNatClampNeg))]) ja_M_worked_229 rfl rfl (x9 + 1) rfl ⟨Nat.le_of_ble_eq_true rfl, rfl⟩ rfl ?_
                refine q_goto ja_M_worked_232 ?_
                exact (k28 h2 h4 h5 h6 h7 h8 h13 h18 h21 h23 s11 e11)
            by_cases h24 : (s 163 x9.toNatClampNeg) = 7
            · refine q_swE (pc' := 94) ja_M_two_1 (by rw [h24]; decide) (by rw [h24]; exact ⟨_, rfl, rfl⟩) ?_
              refine q_iload_n (pc' := 95) ja_M_two_94 rfl rfl ?_
              refine q_iload_n (pc' := 96) ja_M_two_95 rfl rfl ?_
              refine q_iadd (pc' := 97) ja_M_two_96 rfl ?_
              refine q_iret ja_M_two_97 rfl rfl ?_
              show q_W _ _ _ _ 228 [some (.ref 146), some (.int x1), some (.int x2), some (.int x3), some (.int x4), some (.int x5), some (.int x6), some (.int x7), some (.int (x8 + (-1))), some (.int x9), some (.int (s 163 x9.toNatClampNeg))] [.int ((s 170 ((x8 + (-1)) - 1).toNatClampNeg) + (s 170 (x8 + (-1)).toNatClampNeg)), .int ((x8 + (-1)) - 1), .ref 170] s
              refine q_iast (pc' := 229) ja_M_worked_228 rfl (by decide) (l := 220) rfl (k29 h2 h4 h5 h6 h7 h8 h13 h18 h21 h24) ?_
              intro s12 e12
              refine q_iinc (pc' := 232) (ls' := [some (.ref 146), some (.int x1), some (.int x2), some (.int x3), some (.int x4), some (.int x5), some (.int x6), some (.int x7), some (.int (x8 + (-1))), some (.int (x9 + 1)), some (.int (s 163 x9.toNatClampNeg))]) ja_M_worked_229 rfl rfl (x9 + 1) rfl ⟨Nat.le_of_ble_eq_true rfl, rfl⟩ rfl ?_
              refine q_goto ja_M_worked_232 ?_
              exact (k30 h2 h4 h5 h6 h7 h8 h13 h18 h21 h24 s12 e12)
            by_cases h25 : (s 163 x9.toNatClampNeg) = 8
            · refine q_swE (pc' := 98) ja_M_two_1 (by rw [h25]; decide) (by rw [h25]; exact ⟨_, rfl, rfl⟩) ?_
              refine q_iload_n (pc' := 99) ja_M_two_98 rfl rfl ?_
              refine q_iload_n (pc' := 100) ja_M_two_99 rfl rfl ?_
              refine q_isub (pc' := 101) ja_M_two_100 rfl ?_
              refine q_iret ja_M_two_101 rfl rfl ?_
              show q_W _ _ _ _ 228 [some (.ref 146), some (.int x1), some (.int x2), some (.int x3), some (.int x4), some (.int x5), some (.int x6), some (.int x7), some (.int (x8 + (-1))), some (.int x9), some (.int (s 163 x9.toNatClampNeg))] [.int ((s 170 ((x8 + (-1)) - 1).toNatClampNeg) - (s 170 (x8 + (-1)).toNatClampNeg)), .int ((x8 + (-1)) - 1), .ref 170] s
              refine q_iast (pc' := 229) ja_M_worked_228 rfl (by decide) (l := 220) rfl (k31 h2 h4 h5 h6 h7 h8 h13 h18 h21 h24 h25) ?_
              intro s13 e13
              refine q_iinc (pc' := 232) (ls' := [some (.ref 146), some (.int x1), some (.int x2), some (.int x3), some (.int x4), some (.int x5), some (.int x6), some (.int x7), some (.int (x8 + (-1))), some (.int (x9 + 1)), some (.int (s 163 x9.toNatClampNeg))]) ja_M_worked_229 rfl rfl (x9 + 1) rfl ⟨Nat.le_of_ble_eq_true rfl, rfl⟩ rfl ?_
              refine q_goto ja_M_worked_232 ?_
              exact (k32 h2 h4 h5 h6 h7 h8 h13 h18 h21 h24 h25 s13 e13)
            refine q_swD (pc' := 102) ja_M_two_1 [2, 3, 5, 6, 7, 8] (List.forall_mem_cons.mpr ⟨fun e => h8 (by rw [e]; decide), (List.forall_mem_cons.mpr ⟨fun e => h13 (by rw [e]; decide), (List.forall_mem_cons.mpr ⟨fun e => h18 (by rw [e]; decide), (List.forall_mem_cons.mpr ⟨fun e => h21 (by rw [e]; decide), (List.forall_mem_cons.mpr ⟨fun e => h24 (by rw [e]; decide), (List.forall_mem_cons.mpr ⟨fun e => h25 (by rw [e]; decide), (List.forall_mem_nil _)⟩)⟩)⟩)⟩)⟩)⟩) (by decide) rfl ?_
            refine q_iload_n (pc' := 103) ja_M_two_102 rfl rfl ?_
            refine q_iload_n (pc' := 104) ja_M_two_103 rfl rfl ?_
            refine q_imul (pc' := 105) ja_M_two_104 rfl ?_
            refine q_iret ja_M_two_105 rfl rfl ?_
            show q_W _ _ _ _ 228 [some (.ref 146), some (.int x1), some (.int x2), some (.int x3), some (.int x4), some (.int x5), some (.int x6), some (.int x7), some (.int (x8 + (-1))), some (.int x9), some (.int (s 163 x9.toNatClampNeg))] [.int ((s 170 ((x8 + (-1)) - 1).toNatClampNeg) * (s 170 (x8 + (-1)).toNatClampNeg)), .int ((x8 + (-1)) - 1), .ref 170] s
            refine q_iast (pc' := 229) ja_M_worked_228 rfl (by decide) (l := 220) rfl (k33 h2 h4 h5 h6 h7 h8 h13 h18 h21 h24 h25) ?_
            intro s14 e14
            refine q_iinc (pc' := 232) (ls' := [some (.ref 146), some (.int x1), some (.int x2), some (.int x3), some (.int x4), some (.int x5), some (.int x6), some (.int x7), some (.int (x8 + (-1))), some (.int (x9 + 1)), some (.int (s 163 x9.toNatClampNeg))]) ja_M_worked_229 rfl rfl (x9 + 1) rfl ⟨Nat.le_of_ble_eq_true rfl, rfl⟩ rfl ?_
            refine q_goto ja_M_worked_232 ?_
            exact (k34 h2 h4 h5 h6 h7 h8 h13 h18 h21 h24 h25 s14 e14)
          · intro h26
            refine q_aload_n (pc' := 175) ja_M_worked_174 rfl rfl ?_
            refine q_getf (pc' := 178) (v := .ref 170) ja_M_worked_175 rfl (by decide) ⟨rfl, by decide⟩ rfl ?_
            refine q_iload (pc' := 180) ja_M_worked_178 rfl rfl ?_
            refine q_iconst (pc' := 181) ja_M_worked_180 rfl 1 (by decide) ?_
            refine q_isub (pc' := 182) ja_M_worked_181 rfl ?_
            refine q_aload_n (pc' := 183) ja_M_worked_182 rfl rfl ?_
            refine q_getf (pc' := 186) (v := .ref 170) ja_M_worked_183 rfl (by decide) ⟨rfl, by decide⟩ rfl ?_
            refine q_iload (pc' := 188) ja_M_worked_186 rfl rfl ?_
            refine q_iconst (pc' := 189) ja_M_worked_188 rfl 1 (by decide) ?_
            refine q_isub (pc' := 190) ja_M_worked_189 rfl ?_
            refine q_iald (pc' := 191) (v := .int (s 170 (x8 - 1).toNatClampNeg)) ja_M_worked_190 rfl (by decide) (l := 220) rfl (k35 h2 h4 h5 h6 h26) rfl ?_
            refine q_ineg (pc' := 192) ja_M_worked_191 rfl ?_
            refine q_iast (pc' := 193) ja_M_worked_192 rfl (by decide) (l := 220) rfl (k36 h2 h4 h5 h6 h26) ?_
            intro s15 e15
            refine q_goto ja_M_worked_193 ?_
            refine q_iinc (pc' := 232) (ls' := [some (.ref 146), some (.int x1), some (.int x2), some (.int x3), some (.int x4), some (.int x5), some (.int x6), some (.int x7), some (.int x8), some (.int (x9 + 1)), some (.int (s 163 x9.toNatClampNeg))]) ja_M_worked_229 rfl rfl (x9 + 1) rfl ⟨Nat.le_of_ble_eq_true rfl, rfl⟩ rfl ?_
            refine q_goto ja_M_worked_232 ?_
            exact (k37 h2 h4 h5 h6 h26 s15 e15)
        · intro h27
          refine q_aload_n (pc' := 139) ja_M_worked_138 rfl rfl ?_
          refine q_getf (pc' := 142) (v := .ref 170) ja_M_worked_139 rfl (by decide) ⟨rfl, by decide⟩ rfl ?_
          refine q_iload (pc' := 144) ja_M_worked_142 rfl rfl ?_
          refine q_iconst (pc' := 145) ja_M_worked_144 rfl 1 (by decide) ?_
          refine q_isub (pc' := 146) ja_M_worked_145 rfl ?_
          refine q_aload_n (pc' := 147) ja_M_worked_146 rfl rfl ?_
          refine q_getf (pc' := 150) (v := .ref 170) ja_M_worked_147 rfl (by decide) ⟨rfl, by decide⟩ rfl ?_
          refine q_iload (pc' := 152) ja_M_worked_150 rfl rfl ?_
          refine q_iconst (pc' := 153) ja_M_worked_152 rfl 1 (by decide) ?_
          refine q_isub (pc' := 154) ja_M_worked_153 rfl ?_
          refine q_iald (pc' := 155) (v := .int (s 170 (x8 - 1).toNatClampNeg)) ja_M_worked_154 rfl (by decide) (l := 220) rfl (k38 h2 h4 h5 h27) rfl ?_
          refine q_if_ne (pc' := 158) ja_M_worked_155 rfl ?_ ?_
          · intro h28
            refine q_iconst (pc' := 163) ja_M_worked_162 rfl 0 (by decide) ?_
            refine q_iast (pc' := 164) ja_M_worked_163 rfl (by decide) (l := 220) rfl (k39 h2 h4 h5 h27 h28) ?_
            intro s16 e16
            refine q_goto ja_M_worked_164 ?_
            refine q_iinc (pc' := 232) (ls' := [some (.ref 146), some (.int x1), some (.int x2), some (.int x3), some (.int x4), some (.int x5), some (.int x6), some (.int x7), some (.int x8), some (.int (x9 + 1)), some (.int (s 163 x9.toNatClampNeg))]) ja_M_worked_229 rfl rfl (x9 + 1) rfl ⟨Nat.le_of_ble_eq_true rfl, rfl⟩ rfl ?_
            refine q_goto ja_M_worked_232 ?_
            exact (k40 h2 h4 h5 h27 h28 s16 e16)
          · intro h29
            refine q_iconst (pc' := 159) ja_M_worked_158 rfl 1 (by decide) ?_
            refine q_goto ja_M_worked_159 ?_
            refine q_iast (pc' := 164) ja_M_worked_163 rfl (by decide) (l := 220) rfl (k41 h2 h4 h5 h27 h29) ?_
            intro s17 e17
            refine q_goto ja_M_worked_164 ?_
            refine q_iinc (pc' := 232) (ls' := [some (.ref 146), some (.int x1), some (.int x2), some (.int x3), some (.int x4), some (.int x5), some (.int x6), some (.int x7), some (.int x8), some (.int (x9 + 1)), some (.int (s 163 x9.toNatClampNeg))]) ja_M_worked_229 rfl rfl (x9 + 1) rfl ⟨Nat.le_of_ble_eq_true rfl, rfl⟩ rfl ?_
            refine q_goto ja_M_worked_232 ?_
            exact (k42 h2 h4 h5 h27 h29 s17 e17)
      · intro h30
        refine q_aload_n (pc' := 94) ja_M_worked_93 rfl rfl ?_
        refine q_getf (pc' := 97) (v := .ref 170) ja_M_worked_94 rfl (by decide) ⟨rfl, by decide⟩ rfl ?_
        refine q_iload (pc' := 99) ja_M_worked_97 rfl rfl ?_
        refine q_iload (pc' := 101) ja_M_worked_99 rfl rfl ?_
        refine q_if_ne (pc' := 104) ja_M_worked_101 rfl (fun _ => ?_) (fun h => absurd h (h4))
        refine q_aload_n (pc' := 115) ja_M_worked_114 rfl rfl ?_
        refine q_aload_n (pc' := 116) ja_M_worked_115 rfl rfl ?_
        refine q_getf (pc' := 119) (v := .ref 164) ja_M_worked_116 rfl (by decide) ⟨rfl, by decide⟩ rfl ?_
        refine q_iload (pc' := 121) ja_M_worked_119 rfl rfl ?_
        refine q_iald (pc' := 122) (v := .int (s 164 x9.toNatClampNeg)) ja_M_worked_121 rfl (by decide) (l := 1800) rfl (k43 h2 h4 h30) rfl ?_
        refine q_virt (pc' := 125) (c := 146) (as := [.int (s 164 x9.toNatClampNeg)]) (r := [.int x8, .ref 170]) ja_M_worked_122 rfl rfl rfl (by decide) ⟨rfl, by decide⟩ ?_
        exact (k44 h2 h4 h30)
set_option maxRecDepth 20000 in
theorem t_M_worked_125 {G : jv_X} {d : Nat} {B : Option Value → jg_H → Prop} {s : jg_H} (x1 : Int32) (x2 : Int32) (x3 : Int32) (x4 : Int32) (x5 : Int32) (x6 : Int32) (x7 : Int32) (x8 : Int32) (x9 : Int32) (x10 : Int32) (y1 : Int32) (y2 : Int32)
    (k1 : jv_in y1 220 = true)
    (k2 : ∀ s1 : jg_H, s1 = jg_up s 170 y1.toNatClampNeg y2 → q_W G (d + 1) jm_M_worked B 50 [some (.ref 146), some (.int x1), some (.int x2), some (.int x3), some (.int x4), some (.int x5), some (.int x6), some (.int x7), some (.int (x8 + 1)), some (.int (x9 + 1)), some (.int x10)] [] s1) :
    q_W G (d + 1) jm_M_worked B 125 [some (.ref 146), some (.int x1), some (.int x2), some (.int x3), some (.int x4), some (.int x5), some (.int x6), some (.int x7), some (.int x8), some (.int x9), some (.int x10)] [.int y2, .int y1, .ref 170] s := by
  refine q_iast (pc' := 126) ja_M_worked_125 rfl (by decide) (l := 220) rfl k1 ?_
  intro s1 e1
  refine q_iinc (pc' := 129) (ls' := [some (.ref 146), some (.int x1), some (.int x2), some (.int x3), some (.int x4), some (.int x5), some (.int x6), some (.int x7), some (.int (x8 + 1)), some (.int x9), some (.int x10)]) ja_M_worked_126 rfl rfl (x8 + 1) rfl ⟨Nat.le_of_ble_eq_true rfl, rfl⟩ rfl ?_
  refine q_goto ja_M_worked_129 ?_
  refine q_iinc (pc' := 232) (ls' := [some (.ref 146), some (.int x1), some (.int x2), some (.int x3), some (.int x4), some (.int x5), some (.int x6), some (.int x7), some (.int (x8 + 1)), some (.int (x9 + 1)), some (.int x10)]) ja_M_worked_229 rfl rfl (x9 + 1) rfl ⟨Nat.le_of_ble_eq_true rfl, rfl⟩ rfl ?_
  refine q_goto ja_M_worked_232 ?_
  exact (k2 s1 e1)
set_option maxRecDepth 20000 in
theorem t_M_worth {G : jv_X} {d : Nat} {B : Option Value → jg_H → Prop} {s : jg_H} (a1 : Int32) (a2 : Int32)
    (k1 : a1 < 0 → B (some (.long (-4611686018427387904))) s)
    (k2 : ¬ a1 < 0 → ¬ a1 ≤ ((s 146 6) - 1) → B (some (.long (-4611686018427387904))) s)
    (k3 : ¬ a1 < 0 → a1 ≤ ((s 146 6) - 1) → a2 < 0 → B (some (.long (-4611686018427387904))) s)
    (k4 : ¬ a1 < 0 → a1 ≤ ((s 146 6) - 1) → ¬ a2 < 0 → ¬ a2 ≤ ((s 146 0) - 1) → B (some (.long (-4611686018427387904))) s)
    (k5 : ¬ a1 < 0 → a1 ≤ ((s 146 6) - 1) → ¬ a2 < 0 → a2 ≤ ((s 146 0) - 1) → q_P G (d + 2) 169 [.ref 146, .int a1] s (fun v t => q_W G (d + 2) jm_M_worth B 25 [some (.ref 146), some (.int a1), some (.int a2)] (v.toList ++ []) t)) :
    q_P G (d + 3) 168 [.ref 146, .int a1, .int a2] s B := by
  refine q_in (M := jm_M_worth) rfl (Nat.le_of_ble_eq_true rfl) (ls := [some (.ref 146), some (.int a1), some (.int a2)]) rfl ?_
  refine q_aload_n (pc' := 1) ja_M_worth_0 rfl rfl ?_
  refine q_iload_n (pc' := 2) ja_M_worth_1 rfl rfl ?_
  refine q_virt (pc' := 5) (c := 146) (as := [.int a1]) (r := []) ja_M_worth_2 rfl rfl rfl (by decide) ⟨rfl, by decide⟩ ?_
  refine q_in (M := jm_M_isBill) rfl (Nat.le_of_ble_eq_true rfl) (ls := [some (.ref 146), some (.int a1)]) rfl ?_
  refine q_iload_n (pc' := 1) ja_M_isBill_0 rfl rfl ?_
  refine q_iconst (pc' := 2) ja_M_isBill_1 rfl 0 (by decide) ?_
  refine q_aload_n (pc' := 3) ja_M_isBill_2 rfl rfl ?_
  refine q_getf (pc' := 6) (v := .int (s 146 6)) ja_M_isBill_3 rfl (by decide) ⟨rfl, by decide⟩ rfl ?_
  refine q_iconst (pc' := 7) ja_M_isBill_6 rfl 1 (by decide) ?_
  refine q_isub (pc' := 8) ja_M_isBill_7 rfl ?_
  refine q_stat (pc' := 11) (as := [.int a1, .int 0, .int ((s 146 6) - 1)]) (r := []) ja_M_isBill_8 rfl (by decide) rfl rfl ?_
  refine q_in (M := jm_M_in) rfl (Nat.le_of_ble_eq_true rfl) (ls := [some (.int a1), some (.int 0), some (.int ((s 146 6) - 1))]) rfl ?_
  refine q_iload_n (pc' := 1) ja_M_in_0 rfl rfl ?_
  refine q_iload_n (pc' := 2) ja_M_in_1 rfl rfl ?_
  refine q_ic_lt (pc' := 5) ja_M_in_2 rfl ?_ ?_
  · intro h1
    refine q_iconst (pc' := 15) ja_M_in_14 rfl 0 (by decide) ?_
    refine q_iret ja_M_in_15 rfl (by decide) ?_
    show q_W _ _ _ _ 11 [some (.ref 146), some (.int a1)] [.int 0] s
    refine q_iret ja_M_isBill_11 rfl (by decide) ?_
    show q_W _ _ _ _ 5 [some (.ref 146), some (.int a1), some (.int a2)] [.int 0] s
    refine q_if_eq (pc' := 8) ja_M_worth_5 rfl (fun _ => ?_) (fun h => absurd ((by decide : (0 : Int32) = 0)) h)
    refine q_ldc2 (pc' := 19) ja_M_worth_16 rfl (-4611686018427387904) (by decide) ?_
    exact q_lret ja_M_worth_19 rfl (k1 h1)
  · intro h2
    refine q_iload_n (pc' := 6) ja_M_in_5 rfl rfl ?_
    refine q_iload_n (pc' := 7) ja_M_in_6 rfl rfl ?_
    refine q_ic_gt (pc' := 10) ja_M_in_7 rfl ?_ ?_
    · intro h3
      refine q_iconst (pc' := 15) ja_M_in_14 rfl 0 (by decide) ?_
      refine q_iret ja_M_in_15 rfl (by decide) ?_
      show q_W _ _ _ _ 11 [some (.ref 146), some (.int a1)] [.int 0] s
      refine q_iret ja_M_isBill_11 rfl (by decide) ?_
      show q_W _ _ _ _ 5 [some (.ref 146), some (.int a1), some (.int a2)] [.int 0] s
      refine q_if_eq (pc' := 8) ja_M_worth_5 rfl (fun _ => ?_) (fun h => absurd ((by decide : (0 : Int32) = 0)) h)
      refine q_ldc2 (pc' := 19) ja_M_worth_16 rfl (-4611686018427387904) (by decide) ?_
      exact q_lret ja_M_worth_19 rfl (k2 h2 h3)
    · intro h4
      refine q_iconst (pc' := 11) ja_M_in_10 rfl 1 (by decide) ?_
      refine q_goto ja_M_in_11 ?_
      refine q_iret ja_M_in_15 rfl (by decide) ?_
      show q_W _ _ _ _ 11 [some (.ref 146), some (.int a1)] [.int 1] s
      refine q_iret ja_M_isBill_11 rfl (by decide) ?_
      show q_W _ _ _ _ 5 [some (.ref 146), some (.int a1), some (.int a2)] [.int 1] s
      refine q_if_eq (pc' := 8) ja_M_worth_5 rfl (fun h => absurd h ((by decide : ¬ (1 : Int32) = 0))) (fun _ => ?_)
      refine q_aload_n (pc' := 9) ja_M_worth_8 rfl rfl ?_
      refine q_iload_n (pc' := 10) ja_M_worth_9 rfl rfl ?_
      refine q_virt (pc' := 13) (c := 146) (as := [.int a2]) (r := []) ja_M_worth_10 rfl rfl rfl (by decide) ⟨rfl, by decide⟩ ?_
      refine q_in (M := jm_M_isMember) rfl (Nat.le_of_ble_eq_true rfl) (ls := [some (.ref 146), some (.int a2)]) rfl ?_
      refine q_iload_n (pc' := 1) ja_M_isMember_0 rfl rfl ?_
      refine q_iconst (pc' := 2) ja_M_isMember_1 rfl 0 (by decide) ?_
      refine q_aload_n (pc' := 3) ja_M_isMember_2 rfl rfl ?_
      refine q_getf (pc' := 6) (v := .int (s 146 0)) ja_M_isMember_3 rfl (by decide) ⟨rfl, by decide⟩ rfl ?_
      refine q_iconst (pc' := 7) ja_M_isMember_6 rfl 1 (by decide) ?_
      refine q_isub (pc' := 8) ja_M_isMember_7 rfl ?_
      refine q_stat (pc' := 11) (as := [.int a2, .int 0, .int ((s 146 0) - 1)]) (r := []) ja_M_isMember_8 rfl (by decide) rfl rfl ?_
      refine q_in (M := jm_M_in) rfl (Nat.le_of_ble_eq_true rfl) (ls := [some (.int a2), some (.int 0), some (.int ((s 146 0) - 1))]) rfl ?_
      refine q_iload_n (pc' := 1) ja_M_in_0 rfl rfl ?_
      refine q_iload_n (pc' := 2) ja_M_in_1 rfl rfl ?_
      refine q_ic_lt (pc' := 5) ja_M_in_2 rfl ?_ ?_
      · intro h5
        refine q_iconst (pc' := 15) ja_M_in_14 rfl 0 (by decide) ?_
        refine q_iret ja_M_in_15 rfl (by decide) ?_
        show q_W _ _ _ _ 11 [some (.ref 146), some (.int a2)] [.int 0] s
        refine q_iret ja_M_isMember_11 rfl (by decide) ?_
        show q_W _ _ _ _ 13 [some (.ref 146), some (.int a1), some (.int a2)] [.int 0] s
        refine q_if_ne (pc' := 16) ja_M_worth_13 rfl (fun h => absurd ((by decide : (0 : Int32) = 0)) h) (fun _ => ?_)
        refine q_ldc2 (pc' := 19) ja_M_worth_16 rfl (-4611686018427387904) (by decide) ?_
        exact q_lret ja_M_worth_19 rfl (k3 h2 h4 h5)
      · intro h6
        refine q_iload_n (pc' := 6) ja_M_in_5 rfl rfl ?_
        refine q_iload_n (pc' := 7) ja_M_in_6 rfl rfl ?_
        refine q_ic_gt (pc' := 10) ja_M_in_7 rfl ?_ ?_
        · intro h7
          refine q_iconst (pc' := 15) ja_M_in_14 rfl 0 (by decide) ?_
          refine q_iret ja_M_in_15 rfl (by decide) ?_
          show q_W _ _ _ _ 11 [some (.ref 146), some (.int a2)] [.int 0] s
          refine q_iret ja_M_isMember_11 rfl (by decide) ?_
          show q_W _ _ _ _ 13 [some (.ref 146), some (.int a1), some (.int a2)] [.int 0] s
          refine q_if_ne (pc' := 16) ja_M_worth_13 rfl (fun h => absurd ((by decide : (0 : Int32) = 0)) h) (fun _ => ?_)
          refine q_ldc2 (pc' := 19) ja_M_worth_16 rfl (-4611686018427387904) (by decide) ?_
          exact q_lret ja_M_worth_19 rfl (k4 h2 h4 h6 h7)
        · intro h8
          refine q_iconst (pc' := 11) ja_M_in_10 rfl 1 (by decide) ?_
          refine q_goto ja_M_in_11 ?_
          refine q_iret ja_M_in_15 rfl (by decide) ?_
          show q_W _ _ _ _ 11 [some (.ref 146), some (.int a2)] [.int 1] s
          refine q_iret ja_M_isMember_11 rfl (by decide) ?_
          show q_W _ _ _ _ 13 [some (.ref 146), some (.int a1), some (.int a2)] [.int 1] s
          refine q_if_ne (pc' := 16) ja_M_worth_13 rfl (fun _ => ?_) (fun h => absurd h ((by decide : ¬ (1 : Int32) = 0)))
          refine q_aload_n (pc' := 21) ja_M_worth_20 rfl rfl ?_
          refine q_iload_n (pc' := 22) ja_M_worth_21 rfl rfl ?_
          refine q_virt (pc' := 25) (c := 146) (as := [.int a1]) (r := []) ja_M_worth_22 rfl rfl rfl (by decide) ⟨rfl, by decide⟩ ?_
          exact (k5 h2 h4 h6 h8)
set_option maxRecDepth 20000 in
theorem t_M_worth_25 {G : jv_X} {d : Nat} {B : Option Value → jg_H → Prop} {s : jg_H} (x1 : Int32) (x2 : Int32)
    (k1 : q_P G (d + 2) 170 [.ref 146, .int x2] s (fun v t => q_W G (d + 2) jm_M_worth B 30 [some (.ref 146), some (.int x1), some (.int x2)] (v.toList ++ []) t)) :
    q_W G (d + 2) jm_M_worth B 25 [some (.ref 146), some (.int x1), some (.int x2)] [] s := by
  refine q_aload_n (pc' := 26) ja_M_worth_25 rfl rfl ?_
  refine q_iload_n (pc' := 27) ja_M_worth_26 rfl rfl ?_
  refine q_virt (pc' := 30) (c := 146) (as := [.int x2]) (r := []) ja_M_worth_27 rfl rfl rfl (by decide) ⟨rfl, by decide⟩ ?_
  exact k1
set_option maxRecDepth 20000 in
theorem t_M_worth_30 {G : jv_X} {d : Nat} {B : Option Value → jg_H → Prop} {s : jg_H} (x1 : Int32) (x2 : Int32) (y0 : Int32)
    (k1 : B (some (.long (y0).toInt64)) s) :
    q_W G (d + 2) jm_M_worth B 30 [some (.ref 146), some (.int x1), some (.int x2)] [.int y0] s := by
  refine q_i2l (pc' := 31) ja_M_worth_30 rfl ?_
  exact q_lret ja_M_worth_31 rfl k1
set_option maxRecDepth 20000 in
theorem t_M_would {G : jv_X} {d : Nat} {B : Option Value → jg_H → Prop} {s : jg_H} (a1 : Int32)
    (k1 : a1 < 0 → B (some (.int (-2))) s)
    (k2 : ¬ a1 < 0 → ¬ a1 ≤ ((s 146 0) - 1) → B (some (.int (-2))) s)
    (k3 : ¬ a1 < 0 → a1 ≤ ((s 146 0) - 1) → ¬ (s 146 18) = 0 → (s 146 13) = (-1) → q_P G (d + 2) 191 [.ref 146, .int ((s 146 18) - 1), .int a1] s (fun v t => q_W G (d + 2) jm_M_would B 47 [some (.ref 146), some (.int a1)] (v.toList ++ []) t))
    (k4 : ¬ a1 < 0 → a1 ≤ ((s 146 0) - 1) → ¬ (s 146 18) = 0 → ¬ (s 146 13) = (-1) → q_P G (d + 2) 169 [.ref 146, .int (s 146 13)] s (fun v t => q_W G (d + 2) jm_M_would B 36 [some (.ref 146), some (.int a1)] (v.toList ++ []) t))
    (k5 : ¬ a1 < 0 → a1 ≤ ((s 146 0) - 1) → (s 146 18) = 0 → B (some (.int (-1))) s) :
    q_P G (d + 3) 201 [.ref 146, .int a1] s B := by
  refine q_in (M := jm_M_would) rfl (Nat.le_of_ble_eq_true rfl) (ls := [some (.ref 146), some (.int a1)]) rfl ?_
  refine q_aload_n (pc' := 1) ja_M_would_0 rfl rfl ?_
  refine q_iload_n (pc' := 2) ja_M_would_1 rfl rfl ?_
  refine q_virt (pc' := 5) (c := 146) (as := [.int a1]) (r := []) ja_M_would_2 rfl rfl rfl (by decide) ⟨rfl, by decide⟩ ?_
  refine q_in (M := jm_M_isMember) rfl (Nat.le_of_ble_eq_true rfl) (ls := [some (.ref 146), some (.int a1)]) rfl ?_
  refine q_iload_n (pc' := 1) ja_M_isMember_0 rfl rfl ?_
  refine q_iconst (pc' := 2) ja_M_isMember_1 rfl 0 (by decide) ?_
  refine q_aload_n (pc' := 3) ja_M_isMember_2 rfl rfl ?_
  refine q_getf (pc' := 6) (v := .int (s 146 0)) ja_M_isMember_3 rfl (by decide) ⟨rfl, by decide⟩ rfl ?_
  refine q_iconst (pc' := 7) ja_M_isMember_6 rfl 1 (by decide) ?_
  refine q_isub (pc' := 8) ja_M_isMember_7 rfl ?_
  refine q_stat (pc' := 11) (as := [.int a1, .int 0, .int ((s 146 0) - 1)]) (r := []) ja_M_isMember_8 rfl (by decide) rfl rfl ?_
  refine q_in (M := jm_M_in) rfl (Nat.le_of_ble_eq_true rfl) (ls := [some (.int a1), some (.int 0), some (.int ((s 146 0) - 1))]) rfl ?_
  refine q_iload_n (pc' := 1) ja_M_in_0 rfl rfl ?_
  refine q_iload_n (pc' := 2) ja_M_in_1 rfl rfl ?_
  refine q_ic_lt (pc' := 5) ja_M_in_2 rfl ?_ ?_
  · intro h1
    refine q_iconst (pc' := 15) ja_M_in_14 rfl 0 (by decide) ?_
    refine q_iret ja_M_in_15 rfl (by decide) ?_
    show q_W _ _ _ _ 11 [some (.ref 146), some (.int a1)] [.int 0] s
    refine q_iret ja_M_isMember_11 rfl (by decide) ?_
    show q_W _ _ _ _ 5 [some (.ref 146), some (.int a1)] [.int 0] s
    refine q_if_ne (pc' := 8) ja_M_would_5 rfl (fun h => absurd ((by decide : (0 : Int32) = 0)) h) (fun _ => ?_)
    refine q_bipush (pc' := 10) ja_M_would_8 rfl (-2) (by decide) ?_
    exact q_iret ja_M_would_10 rfl rfl (k1 h1)
  · intro h2
    refine q_iload_n (pc' := 6) ja_M_in_5 rfl rfl ?_
    refine q_iload_n (pc' := 7) ja_M_in_6 rfl rfl ?_
    refine q_ic_gt (pc' := 10) ja_M_in_7 rfl ?_ ?_
    · intro h3
      refine q_iconst (pc' := 15) ja_M_in_14 rfl 0 (by decide) ?_
      refine q_iret ja_M_in_15 rfl (by decide) ?_
      show q_W _ _ _ _ 11 [some (.ref 146), some (.int a1)] [.int 0] s
      refine q_iret ja_M_isMember_11 rfl (by decide) ?_
      show q_W _ _ _ _ 5 [some (.ref 146), some (.int a1)] [.int 0] s
      refine q_if_ne (pc' := 8) ja_M_would_5 rfl (fun h => absurd ((by decide : (0 : Int32) = 0)) h) (fun _ => ?_)
      refine q_bipush (pc' := 10) ja_M_would_8 rfl (-2) (by decide) ?_
      exact q_iret ja_M_would_10 rfl rfl (k2 h2 h3)
    · intro h4
      refine q_iconst (pc' := 11) ja_M_in_10 rfl 1 (by decide) ?_
      refine q_goto ja_M_in_11 ?_
      refine q_iret ja_M_in_15 rfl (by decide) ?_
      show q_W _ _ _ _ 11 [some (.ref 146), some (.int a1)] [.int 1] s
      refine q_iret ja_M_isMember_11 rfl (by decide) ?_
      show q_W _ _ _ _ 5 [some (.ref 146), some (.int a1)] [.int 1] s
      refine q_if_ne (pc' := 8) ja_M_would_5 rfl (fun _ => ?_) (fun h => absurd h ((by decide : ¬ (1 : Int32) = 0)))
      refine q_aload_n (pc' := 12) ja_M_would_11 rfl rfl ?_
      refine q_getf (pc' := 15) (v := .int (s 146 18)) ja_M_would_12 rfl (by decide) ⟨rfl, by decide⟩ rfl ?_
      refine q_if_ne (pc' := 18) ja_M_would_15 rfl ?_ ?_
      · intro h5
        refine q_aload_n (pc' := 21) ja_M_would_20 rfl rfl ?_
        refine q_getf (pc' := 24) (v := .int (s 146 13)) ja_M_would_21 rfl (by decide) ⟨rfl, by decide⟩ rfl ?_
        refine q_iconst (pc' := 25) ja_M_would_24 rfl (-1) (by decide) ?_
        refine q_ic_eq (pc' := 28) ja_M_would_25 rfl ?_ ?_
        · intro h6
          refine q_aload_n (pc' := 37) ja_M_would_36 rfl rfl ?_
          refine q_aload_n (pc' := 38) ja_M_would_37 rfl rfl ?_
          refine q_getf (pc' := 41) (v := .int (s 146 18)) ja_M_would_38 rfl (by decide) ⟨rfl, by decide⟩ rfl ?_
          refine q_iconst (pc' := 42) ja_M_would_41 rfl 1 (by decide) ?_
          refine q_isub (pc' := 43) ja_M_would_42 rfl ?_
          refine q_iload_n (pc' := 44) ja_M_would_43 rfl rfl ?_
          refine q_virt (pc' := 47) (c := 146) (as := [.int ((s 146 18) - 1), .int a1]) (r := []) ja_M_would_44 rfl rfl rfl (by decide) ⟨rfl, by decide⟩ ?_
          exact (k3 h2 h4 h5 h6)
        · intro h7
          refine q_aload_n (pc' := 29) ja_M_would_28 rfl rfl ?_
          refine q_aload_n (pc' := 30) ja_M_would_29 rfl rfl ?_
          refine q_getf (pc' := 33) (v := .int (s 146 13)) ja_M_would_30 rfl (by decide) ⟨rfl, by decide⟩ rfl ?_
          refine q_virt (pc' := 36) (c := 146) (as := [.int (s 146 13)]) (r := []) ja_M_would_33 rfl rfl rfl (by decide) ⟨rfl, by decide⟩ ?_
          exact (k4 h2 h4 h5 h7)
      · intro h8
        refine q_iconst (pc' := 19) ja_M_would_18 rfl (-1) (by decide) ?_
        exact q_iret ja_M_would_19 rfl rfl (k5 h2 h4 h8)
set_option maxRecDepth 20000 in
theorem t_M_would_36 {G : jv_X} {d : Nat} {B : Option Value → jg_H → Prop} {s : jg_H} (x1 : Int32)
    (k1 : q_P G (d + 2) 191 [.ref 146, .int ((s 146 18) - 1), .int x1] s (fun v t => q_W G (d + 2) jm_M_would B 47 [some (.ref 146), some (.int x1)] (v.toList ++ []) t)) :
    q_W G (d + 2) jm_M_would B 36 [some (.ref 146), some (.int x1)] [] s := by
  refine q_aload_n (pc' := 37) ja_M_would_36 rfl rfl ?_
  refine q_aload_n (pc' := 38) ja_M_would_37 rfl rfl ?_
  refine q_getf (pc' := 41) (v := .int (s 146 18)) ja_M_would_38 rfl (by decide) ⟨rfl, by decide⟩ rfl ?_
  refine q_iconst (pc' := 42) ja_M_would_41 rfl 1 (by decide) ?_
  refine q_isub (pc' := 43) ja_M_would_42 rfl ?_
  refine q_iload_n (pc' := 44) ja_M_would_43 rfl rfl ?_
  refine q_virt (pc' := 47) (c := 146) (as := [.int ((s 146 18) - 1), .int x1]) (r := []) ja_M_would_44 rfl rfl rfl (by decide) ⟨rfl, by decide⟩ ?_
  exact k1
set_option maxRecDepth 20000 in
theorem t_M_would_47 {G : jv_X} {d : Nat} {B : Option Value → jg_H → Prop} {s : jg_H} (x1 : Int32) (y0 : Int32)
    (k1 : B (some (.int y0)) s) :
    q_W G (d + 2) jm_M_would B 47 [some (.ref 146), some (.int x1)] [.int y0] s := by
  exact q_iret ja_M_would_47 rfl rfl k1
set_option maxRecDepth 20000 in
theorem t_M_yield {G : jv_X} {d : Nat} {B : Option Value → jg_H → Prop} {s : jg_H} 
    (k1 : ¬ (s 146 18) = 0 → ∀ s1 : jg_H, s1 = jg_up s 146 18 ((s 146 18) - 1) → B (some (.int (s1 146 18))) s1)
    (k2 : (s 146 18) = 0 → B (some (.int (-3))) s) :
    q_P G (d + 1) 203 [.ref 146] s B := by
  refine q_in (M := jm_M_yield) rfl (Nat.le_of_ble_eq_true rfl) (ls := [some (.ref 146)]) rfl ?_
  refine q_aload_n (pc' := 1) ja_M_yield_0 rfl rfl ?_
  refine q_getf (pc' := 4) (v := .int (s 146 18)) ja_M_yield_1 rfl (by decide) ⟨rfl, by decide⟩ rfl ?_
  refine q_if_ne (pc' := 7) ja_M_yield_4 rfl ?_ ?_
  · intro h1
    refine q_aload_n (pc' := 11) ja_M_yield_10 rfl rfl ?_
    refine q_dup (pc' := 12) ja_M_yield_11 rfl rfl ?_
    refine q_getf (pc' := 15) (v := .int (s 146 18)) ja_M_yield_12 rfl (by decide) ⟨rfl, by decide⟩ rfl ?_
    refine q_iconst (pc' := 16) ja_M_yield_15 rfl 1 (by decide) ?_
    refine q_isub (pc' := 17) ja_M_yield_16 rfl ?_
    refine q_putf (pc' := 20) ja_M_yield_17 rfl (by decide) rfl rfl rfl ?_
    intro s1 e1
    refine q_aload_n (pc' := 21) ja_M_yield_20 rfl rfl ?_
    refine q_getf (pc' := 24) (v := .int (s1 146 18)) ja_M_yield_21 rfl (by decide) ⟨rfl, by decide⟩ rfl ?_
    exact q_iret ja_M_yield_24 rfl rfl (k1 h1 s1 e1)
  · intro h2
    refine q_bipush (pc' := 9) ja_M_yield_7 rfl (-3) (by decide) ?_
    exact q_iret ja_M_yield_9 rfl rfl (k2 h2)
set_option maxRecDepth 20000 in
theorem t_Machine_joined {G : jv_X} {d : Nat} {B : Option Value → jg_H → Prop} {s : jg_H} (a1 : Int32) (a2 : Int32) (a3 : Int32)
    (k1 : a1 = -16 → B (some (.int (a2 * a3))) s)
    (k2 : ¬ a1 = -16 → a1 = -15 → B (some (.int (a2 - a3))) s)
    (k3 : ¬ a1 = -16 → ¬ a1 = -15 → a1 = -14 → B (some (.int (a2 + a3))) s)
    (k4 : ¬ a1 = -16 → ¬ a1 = -15 → ¬ a1 = -14 → a1 = -13 → ¬ a2 = a3 → B (some (.int 0)) s)
    (k5 : ¬ a1 = -16 → ¬ a1 = -15 → ¬ a1 = -14 → a1 = -13 → a2 = a3 → B (some (.int 1)) s)
    (k6 : ¬ a1 = -16 → ¬ a1 = -15 → ¬ a1 = -14 → ¬ a1 = -13 → a1 = -12 → ¬ a2 < a3 → B (some (.int 0)) s)
    (k7 : ¬ a1 = -16 → ¬ a1 = -15 → ¬ a1 = -14 → ¬ a1 = -13 → a1 = -12 → a2 < a3 → B (some (.int 1)) s)
    (k8 : ¬ a1 = -16 → ¬ a1 = -15 → ¬ a1 = -14 → ¬ a1 = -13 → ¬ a1 = -12 → a1 = -10 → a2 = 0 → B (some (.int 0)) s)
    (k9 : ¬ a1 = -16 → ¬ a1 = -15 → ¬ a1 = -14 → ¬ a1 = -13 → ¬ a1 = -12 → a1 = -10 → ¬ a2 = 0 → a3 = 0 → B (some (.int 0)) s)
    (k10 : ¬ a1 = -16 → ¬ a1 = -15 → ¬ a1 = -14 → ¬ a1 = -13 → ¬ a1 = -12 → a1 = -10 → ¬ a2 = 0 → ¬ a3 = 0 → B (some (.int 1)) s)
    (k11 : ¬ a1 = -16 → ¬ a1 = -15 → ¬ a1 = -14 → ¬ a1 = -13 → ¬ a1 = -12 → ¬ a1 = -10 → a1 = -9 → ¬ a2 = 0 → B (some (.int 1)) s)
    (k12 : ¬ a1 = -16 → ¬ a1 = -15 → ¬ a1 = -14 → ¬ a1 = -13 → ¬ a1 = -12 → ¬ a1 = -10 → a1 = -9 → a2 = 0 → a3 = 0 → B (some (.int 0)) s)
    (k13 : ¬ a1 = -16 → ¬ a1 = -15 → ¬ a1 = -14 → ¬ a1 = -13 → ¬ a1 = -12 → ¬ a1 = -10 → a1 = -9 → a2 = 0 → ¬ a3 = 0 → B (some (.int 1)) s)
    (k14 : ¬ a1 = -16 → ¬ a1 = -15 → ¬ a1 = -14 → ¬ a1 = -13 → ¬ a1 = -12 → ¬ a1 = -10 → ¬ a1 = -9 → B (some (.int 0)) s) :
    q_P G (d + 1) 79 [.int a1, .int a2, .int a3] s B := by
  refine q_in (M := jm_Machine_joined) rfl (Nat.le_of_ble_eq_true rfl) (ls := [some (.int a1), some (.int a2), some (.int a3)]) rfl ?_
  refine q_iload_n (pc' := 1) ja_Machine_joined_0 rfl rfl ?_
  by_cases h1 : a1 = -16
  · refine q_swE (pc' := 106) ja_Machine_joined_1 (by rw [h1]; decide) (by rw [h1]; exact ⟨_, rfl, rfl⟩) ?_
    refine q_iload_n (pc' := 107) ja_Machine_joined_106 rfl rfl ?_
    refine q_iload_n (pc' := 108) ja_Machine_joined_107 rfl rfl ?_
    refine q_imul (pc' := 109) ja_Machine_joined_108 rfl ?_
    exact q_iret ja_Machine_joined_109 rfl rfl (k1 h1)
  by_cases h2 : a1 = -15
  · refine q_swE (pc' := 102) ja_Machine_joined_1 (by rw [h2]; decide) (by rw [h2]; exact ⟨_, rfl, rfl⟩) ?_
    refine q_iload_n (pc' := 103) ja_Machine_joined_102 rfl rfl ?_
    refine q_iload_n (pc' := 104) ja_Machine_joined_103 rfl rfl ?_
    refine q_isub (pc' := 105) ja_Machine_joined_104 rfl ?_
    exact q_iret ja_Machine_joined_105 rfl rfl (k2 h1 h2)
  by_cases h3 : a1 = -14
  · refine q_swE (pc' := 98) ja_Machine_joined_1 (by rw [h3]; decide) (by rw [h3]; exact ⟨_, rfl, rfl⟩) ?_
    refine q_iload_n (pc' := 99) ja_Machine_joined_98 rfl rfl ?_
    refine q_iload_n (pc' := 100) ja_Machine_joined_99 rfl rfl ?_
    refine q_iadd (pc' := 101) ja_Machine_joined_100 rfl ?_
    exact q_iret ja_Machine_joined_101 rfl rfl (k3 h1 h2 h3)
  by_cases h4 : a1 = -13
  · refine q_swE (pc' := 87) ja_Machine_joined_1 (by rw [h4]; decide) (by rw [h4]; exact ⟨_, rfl, rfl⟩) ?_
    refine q_iload_n (pc' := 88) ja_Machine_joined_87 rfl rfl ?_
    refine q_iload_n (pc' := 89) ja_Machine_joined_88 rfl rfl ?_
    refine q_ic_ne (pc' := 92) ja_Machine_joined_89 rfl ?_ ?_
    · intro h5
      refine q_iconst (pc' := 97) ja_Machine_joined_96 rfl 0 (by decide) ?_
      exact q_iret ja_Machine_joined_97 rfl rfl (k4 h1 h2 h3 h4 h5)
    · intro h6
      refine q_iconst (pc' := 93) ja_Machine_joined_92 rfl 1 (by decide) ?_
      refine q_goto ja_Machine_joined_93 ?_
      exact q_iret ja_Machine_joined_97 rfl rfl (k5 h1 h2 h3 h4 h6)
  by_cases h7 : a1 = -12
  · refine q_swE (pc' := 76) ja_Machine_joined_1 (by rw [h7]; decide) (by rw [h7]; exact ⟨_, rfl, rfl⟩) ?_
    refine q_iload_n (pc' := 77) ja_Machine_joined_76 rfl rfl ?_
    refine q_iload_n (pc' := 78) ja_Machine_joined_77 rfl rfl ?_
    refine q_ic_ge (pc' := 81) ja_Machine_joined_78 rfl ?_ ?_
    · intro h8
      refine q_iconst (pc' := 86) ja_Machine_joined_85 rfl 0 (by decide) ?_
      exact q_iret ja_Machine_joined_86 rfl rfl (k6 h1 h2 h3 h4 h7 h8)
    · intro h9
      refine q_iconst (pc' := 82) ja_Machine_joined_81 rfl 1 (by decide) ?_
      refine q_goto ja_Machine_joined_82 ?_
      exact q_iret ja_Machine_joined_86 rfl rfl (k7 h1 h2 h3 h4 h7 h9)
  by_cases h10 : a1 = -10
  · refine q_swE (pc' := 62) ja_Machine_joined_1 (by rw [h10]; decide) (by rw [h10]; exact ⟨_, rfl, rfl⟩) ?_
    refine q_iload_n (pc' := 63) ja_Machine_joined_62 rfl rfl ?_
    refine q_if_eq (pc' := 66) ja_Machine_joined_63 rfl ?_ ?_
    · intro h11
      refine q_iconst (pc' := 75) ja_Machine_joined_74 rfl 0 (by decide) ?_
      exact q_iret ja_Machine_joined_75 rfl rfl (k8 h1 h2 h3 h4 h7 h10 h11)
    · intro h12
      refine q_iload_n (pc' := 67) ja_Machine_joined_66 rfl rfl ?_
      refine q_if_eq (pc' := 70) ja_Machine_joined_67 rfl ?_ ?_
      · intro h13
        refine q_iconst (pc' := 75) ja_Machine_joined_74 rfl 0 (by decide) ?_
        exact q_iret ja_Machine_joined_75 rfl rfl (k9 h1 h2 h3 h4 h7 h10 h12 h13)
      · intro h14
        refine q_iconst (pc' := 71) ja_Machine_joined_70 rfl 1 (by decide) ?_
        refine q_goto ja_Machine_joined_71 ?_
        exact q_iret ja_Machine_joined_75 rfl rfl (k10 h1 h2 h3 h4 h7 h10 h12 h14)
  by_cases h15 : a1 = -9
  · refine q_swE (pc' := 48) ja_Machine_joined_1 (by rw [h15]; decide) (by rw [h15]; exact ⟨_, rfl, rfl⟩) ?_
    refine q_iload_n (pc' := 49) ja_Machine_joined_48 rfl rfl ?_
    refine q_if_ne (pc' := 52) ja_Machine_joined_49 rfl ?_ ?_
    · intro h16
      refine q_iconst (pc' := 57) ja_Machine_joined_56 rfl 1 (by decide) ?_
      refine q_goto ja_Machine_joined_57 ?_
      exact q_iret ja_Machine_joined_61 rfl rfl (k11 h1 h2 h3 h4 h7 h10 h15 h16)
    · intro h17
      refine q_iload_n (pc' := 53) ja_Machine_joined_52 rfl rfl ?_
      refine q_if_eq (pc' := 56) ja_Machine_joined_53 rfl ?_ ?_
      · intro h18
        refine q_iconst (pc' := 61) ja_Machine_joined_60 rfl 0 (by decide) ?_
        exact q_iret ja_Machine_joined_61 rfl rfl (k12 h1 h2 h3 h4 h7 h10 h15 h17 h18)
      · intro h19
        refine q_iconst (pc' := 57) ja_Machine_joined_56 rfl 1 (by decide) ?_
        refine q_goto ja_Machine_joined_57 ?_
        exact q_iret ja_Machine_joined_61 rfl rfl (k13 h1 h2 h3 h4 h7 h10 h15 h17 h19)
  refine q_swD (pc' := 110) ja_Machine_joined_1 [-16, -15, -14, -13, -12, -10, -9] (List.forall_mem_cons.mpr ⟨fun e => h1 (by rw [e]; decide), (List.forall_mem_cons.mpr ⟨fun e => h2 (by rw [e]; decide), (List.forall_mem_cons.mpr ⟨fun e => h3 (by rw [e]; decide), (List.forall_mem_cons.mpr ⟨fun e => h4 (by rw [e]; decide), (List.forall_mem_cons.mpr ⟨fun e => h7 (by rw [e]; decide), (List.forall_mem_cons.mpr ⟨fun e => h10 (by rw [e]; decide), (List.forall_mem_cons.mpr ⟨fun e => h15 (by rw [e]; decide), (List.forall_mem_nil _)⟩)⟩)⟩)⟩)⟩)⟩)⟩) (by decide) rfl ?_
  refine q_iconst (pc' := 111) ja_Machine_joined_110 rfl 0 (by decide) ?_
  exact q_iret ja_Machine_joined_111 rfl rfl (k14 h1 h2 h3 h4 h7 h10 h15)
set_option maxRecDepth 20000 in
theorem t_Machine_run {G : jv_X} {d : Nat} {B : Option Value → jg_H → Prop} {s : jg_H} {c1 : Nat} (hc1 : f_9 c1) (a2 : Int32)
    (k1 : a2 < 0 → B (some (.int 0)) s)
    (k2 : ¬ a2 < 0 → a2 < 4 → jv_in a2 5 = true)
    (k3 : ¬ a2 < 0 → a2 < 4 → q_W G (d + 1) jm_Machine_run B 21 [some (.ref 119), some (.ref c1), some (.int a2), some (.int 0), some (.int (s (c1 + 2) a2.toNatClampNeg)), none] [] s)
    (k4 : ¬ a2 < 0 → ¬ a2 < 4 → B (some (.int 0)) s) :
    q_P G (d + 2) 78 [.ref 119, .ref c1, .int a2] s B := by
  refine q_in (M := jm_Machine_run) rfl (Nat.le_of_ble_eq_true rfl) (ls := [some (.ref 119), some (.ref c1), some (.int a2), none, none, none]) rfl ?_
  refine q_iload_n (pc' := 1) ja_Machine_run_0 rfl rfl ?_
  refine q_if_lt (pc' := 4) ja_Machine_run_1 rfl ?_ ?_
  · intro h1
    refine q_iconst (pc' := 10) ja_Machine_run_9 rfl 0 (by decide) ?_
    exact q_iret ja_Machine_run_10 rfl rfl (k1 h1)
  · intro h2
    refine q_iload_n (pc' := 5) ja_Machine_run_4 rfl rfl ?_
    refine q_iconst (pc' := 6) ja_Machine_run_5 rfl 4 (by decide) ?_
    refine q_ic_lt (pc' := 9) ja_Machine_run_6 rfl ?_ ?_
    · intro h3
      refine q_iconst (pc' := 12) ja_Machine_run_11 rfl 0 (by decide) ?_
      refine q_istore_n (pc' := 13) (ls' := [some (.ref 119), some (.ref c1), some (.int a2), some (.int 0), none, none]) ja_Machine_run_12 rfl ⟨Nat.le_of_ble_eq_true rfl, rfl⟩ rfl ?_
      refine q_aload_n (pc' := 14) ja_Machine_run_13 rfl rfl ?_
      refine q_getf (pc' := 17) (v := .ref (c1 + 2)) ja_Machine_run_14 rfl (f_9_c hc1) ⟨by rw [f_9_k hc1], by decide⟩ (f_9_g2 hc1) ?_
      refine q_iload_n (pc' := 18) ja_Machine_run_17 rfl rfl ?_
      refine q_iald (pc' := 19) (v := .int (s (c1 + 2) a2.toNatClampNeg)) ja_Machine_run_18 rfl (f_a_c (f_9_s2 hc1)) (l := 5) (f_a_k (f_9_s2 hc1)) (k2 h2 h3) (f_i (f_a_k (f_9_s2 hc1)) rfl) ?_
      refine q_istore (pc' := 21) (ls' := [some (.ref 119), some (.ref c1), some (.int a2), some (.int 0), some (.int (s (c1 + 2) a2.toNatClampNeg)), none]) ja_Machine_run_19 rfl ⟨Nat.le_of_ble_eq_true rfl, rfl⟩ rfl ?_
      exact (k3 h2 h3)
    · intro h4
      refine q_iconst (pc' := 10) ja_Machine_run_9 rfl 0 (by decide) ?_
      exact q_iret ja_Machine_run_10 rfl rfl (k4 h2 h4)
set_option maxRecDepth 20000 in
theorem t_Machine_run_21 {G : jv_X} {d : Nat} {B : Option Value → jg_H → Prop} {s : jg_H} {x1 : Nat} (hx1 : f_9 x1) (x2 : Int32) (x3 : Int32) (x4 : Int32) {o5 : Option Value} (ho5 : f_n o5 = true)
    (k1 : jv_in (x2 + 1) 5 = true)
    (k2 : ¬ x4 < (s (x1 + 2) (x2 + 1).toNatClampNeg) → ¬ x3 < 1 → jv_in (x3 - 1) 200 = true)
    (k3 : ¬ x4 < (s (x1 + 2) (x2 + 1).toNatClampNeg) → ¬ x3 < 1 → B (some (.int (s 121 (x3 - 1).toNatClampNeg))) s)
    (k4 : ¬ x4 < (s (x1 + 2) (x2 + 1).toNatClampNeg) → x3 < 1 → B (some (.int 0)) s)
    (k5 : x4 < (s (x1 + 2) (x2 + 1).toNatClampNeg) → ¬ x4 < 200 → ¬ x3 < 1 → jv_in (x3 - 1) 200 = true)
    (k6 : x4 < (s (x1 + 2) (x2 + 1).toNatClampNeg) → ¬ x4 < 200 → ¬ x3 < 1 → B (some (.int (s 121 (x3 - 1).toNatClampNeg))) s)
    (k7 : x4 < (s (x1 + 2) (x2 + 1).toNatClampNeg) → ¬ x4 < 200 → x3 < 1 → B (some (.int 0)) s)
    (k8 : x4 < (s (x1 + 2) (x2 + 1).toNatClampNeg) → x4 < 200 → jv_in x4 200 = true)
    (k9 : x4 < (s (x1 + 2) (x2 + 1).toNatClampNeg) → x4 < 200 → (s (x1 + 1) x4.toNatClampNeg) < (-8) → (s (x1 + 1) x4.toNatClampNeg) = (-11) → ¬ x3 < 1 → ¬ (s (x1 + 1) x4.toNatClampNeg) = (-17) → jv_in (x3 - 1) 200 = true)
    (k10 : x4 < (s (x1 + 2) (x2 + 1).toNatClampNeg) → x4 < 200 → (s (x1 + 1) x4.toNatClampNeg) < (-8) → (s (x1 + 1) x4.toNatClampNeg) = (-11) → ¬ x3 < 1 → ¬ (s (x1 + 1) x4.toNatClampNeg) = (-17) → ¬ (s 121 (x3 - 1).toNatClampNeg) = 0 → jv_in (x3 - 1) 200 = true)
    (k11 : x4 < (s (x1 + 2) (x2 + 1).toNatClampNeg) → x4 < 200 → (s (x1 + 1) x4.toNatClampNeg) < (-8) → (s (x1 + 1) x4.toNatClampNeg) = (-11) → ¬ x3 < 1 → ¬ (s (x1 + 1) x4.toNatClampNeg) = (-17) → ¬ (s 121 (x3 - 1).toNatClampNeg) = 0 → ∀ s1 : jg_H, s1 = jg_up s 121 (x3 - 1).toNatClampNeg 0 → q_W G (d + 1) jm_Machine_run B 21 [some (.ref 119), some (.ref x1), some (.int x2), some (.int x3), some (.int (x4 + 1)), some (.int (s (x1 + 1) x4.toNatClampNeg))] [] s1)
    (k12 : x4 < (s (x1 + 2) (x2 + 1).toNatClampNeg) → x4 < 200 → (s (x1 + 1) x4.toNatClampNeg) < (-8) → (s (x1 + 1) x4.toNatClampNeg) = (-11) → ¬ x3 < 1 → ¬ (s (x1 + 1) x4.toNatClampNeg) = (-17) → (s 121 (x3 - 1).toNatClampNeg) = 0 → jv_in (x3 - 1) 200 = true)
    (k13 : x4 < (s (x1 + 2) (x2 + 1).toNatClampNeg) → x4 < 200 → (s (x1 + 1) x4.toNatClampNeg) < (-8) → (s (x1 + 1) x4.toNatClampNeg) = (-11) → ¬ x3 < 1 → ¬ (s (x1 + 1) x4.toNatClampNeg) = (-17) → (s 121 (x3 - 1).toNatClampNeg) = 0 → ∀ s2 : jg_H, s2 = jg_up s 121 (x3 - 1).toNatClampNeg 1 → q_W G (d + 1) jm_Machine_run B 21 [some (.ref 119), some (.ref x1), some (.int x2), some (.int x3), some (.int (x4 + 1)), some (.int (s (x1 + 1) x4.toNatClampNeg))] [] s2)
    (k14 : x4 < (s (x1 + 2) (x2 + 1).toNatClampNeg) → x4 < 200 → (s (x1 + 1) x4.toNatClampNeg) < (-8) → (s (x1 + 1) x4.toNatClampNeg) = (-11) → ¬ x3 < 1 → (s (x1 + 1) x4.toNatClampNeg) = (-17) → jv_in (x3 - 1) 200 = true)
    (k15 : x4 < (s (x1 + 2) (x2 + 1).toNatClampNeg) → x4 < 200 → (s (x1 + 1) x4.toNatClampNeg) < (-8) → (s (x1 + 1) x4.toNatClampNeg) = (-11) → ¬ x3 < 1 → (s (x1 + 1) x4.toNatClampNeg) = (-17) → jv_in (x3 - 1) 200 = true)
    (k16 : x4 < (s (x1 + 2) (x2 + 1).toNatClampNeg) → x4 < 200 → (s (x1 + 1) x4.toNatClampNeg) < (-8) → (s (x1 + 1) x4.toNatClampNeg) = (-11) → ¬ x3 < 1 → (s (x1 + 1) x4.toNatClampNeg) = (-17) → ∀ s3 : jg_H, s3 = jg_up s 121 (x3 - 1).toNatClampNeg (-(s 121 (x3 - 1).toNatClampNeg)) → q_W G (d + 1) jm_Machine_run B 21 [some (.ref 119), some (.ref x1), some (.int x2), some (.int x3), some (.int (x4 + 1)), some (.int (s (x1 + 1) x4.toNatClampNeg))] [] s3)
    (k17 : x4 < (s (x1 + 2) (x2 + 1).toNatClampNeg) → x4 < 200 → (s (x1 + 1) x4.toNatClampNeg) < (-8) → (s (x1 + 1) x4.toNatClampNeg) = (-11) → x3 < 1 → B (some (.int 0)) s)
    (k18 : x4 < (s (x1 + 2) (x2 + 1).toNatClampNeg) → x4 < 200 → (s (x1 + 1) x4.toNatClampNeg) < (-8) → ¬ (s (x1 + 1) x4.toNatClampNeg) = (-11) → ¬ (s (x1 + 1) x4.toNatClampNeg) = (-17) → ¬ x3 < 2 → jv_in ((x3 + (-1)) - 1) 200 = true)
    (k19 : x4 < (s (x1 + 2) (x2 + 1).toNatClampNeg) → x4 < 200 → (s (x1 + 1) x4.toNatClampNeg) < (-8) → ¬ (s (x1 + 1) x4.toNatClampNeg) = (-11) → ¬ (s (x1 + 1) x4.toNatClampNeg) = (-17) → ¬ x3 < 2 → jv_in (x3 + (-1)) 200 = true)
    (k20 : x4 < (s (x1 + 2) (x2 + 1).toNatClampNeg) → x4 < 200 → (s (x1 + 1) x4.toNatClampNeg) < (-8) → ¬ (s (x1 + 1) x4.toNatClampNeg) = (-11) → ¬ (s (x1 + 1) x4.toNatClampNeg) = (-17) → ¬ x3 < 2 → (s (x1 + 1) x4.toNatClampNeg) = -16 → jv_in ((x3 + (-1)) - 1) 200 = true)
    (k21 : x4 < (s (x1 + 2) (x2 + 1).toNatClampNeg) → x4 < 200 → (s (x1 + 1) x4.toNatClampNeg) < (-8) → ¬ (s (x1 + 1) x4.toNatClampNeg) = (-11) → ¬ (s (x1 + 1) x4.toNatClampNeg) = (-17) → ¬ x3 < 2 → (s (x1 + 1) x4.toNatClampNeg) = -16 → ∀ s4 : jg_H, s4 = jg_up s 121 ((x3 + (-1)) - 1).toNatClampNeg ((s 121 ((x3 + (-1)) - 1).toNatClampNeg) * (s 121 (x3 + (-1)).toNatClampNeg)) → q_W G (d + 1) jm_Machine_run B 21 [some (.ref 119), some (.ref x1), some (.int x2), some (.int (x3 + (-1))), some (.int (x4 + 1)), some (.int (s (x1 + 1) x4.toNatClampNeg))] [] s4)
    (k22 : x4 < (s (x1 + 2) (x2 + 1).toNatClampNeg) → x4 < 200 → (s (x1 + 1) x4.toNatClampNeg) < (-8) → ¬ (s (x1 + 1) x4.toNatClampNeg) = (-11) → ¬ (s (x1 + 1) x4.toNatClampNeg) = (-17) → ¬ x3 < 2 → ¬ (s (x1 + 1) x4.toNatClampNeg) = -16 → (s (x1 + 1) x4.toNatClampNeg) = -15 → jv_in ((x3 + (-1)) - 1) 200 = true)
    (k23 : x4 < (s (x1 + 2) (x2 + 1).toNatClampNeg) → x4 < 200 → (s (x1 + 1) x4.toNatClampNeg) < (-8) → ¬ (s (x1 + 1) x4.toNatClampNeg) = (-11) → ¬ (s (x1 + 1) x4.toNatClampNeg) = (-17) → ¬ x3 < 2 → ¬ (s (x1 + 1) x4.toNatClampNeg) = -16 → (s (x1 + 1) x4.toNatClampNeg) = -15 → ∀ s5 : jg_H, s5 = jg_up s 121 ((x3 + (-1)) - 1).toNatClampNeg ((s 121 ((x3 + (-1)) - 1).toNatClampNeg) - (s 121 (x3 + (-1)).toNatClampNeg)) → q_W G (d + 1) jm_Machine_run B 21 [some (.ref 119), some (.ref x1), some (.int x2), some (.int (x3 + (-1))), some (.int (x4 + 1)), some (.int (s (x1 + 1) x4.toNatClampNeg))] [] s5)
    (k24 : x4 < (s (x1 + 2) (x2 + 1).toNatClampNeg) → x4 < 200 → (s (x1 + 1) x4.toNatClampNeg) < (-8) → ¬ (s (x1 + 1) x4.toNatClampNeg) = (-11) → ¬ (s (x1 + 1) x4.toNatClampNeg) = (-17) → ¬ x3 < 2 → ¬ (s (x1 + 1) x4.toNatClampNeg) = -16 → ¬ (s (x1 + 1) x4.toNatClampNeg) = -15 → (s (x1 + 1) x4.toNatClampNeg) = -14 → jv_in ((x3 + (-1)) - 1) 200 = true)
    (k25 : x4 < (s (x1 + 2) (x2 + 1).toNatClampNeg) → x4 < 200 → (s (x1 + 1) x4.toNatClampNeg) < (-8) → ¬ (s (x1 + 1) x4.toNatClampNeg) = (-11) → ¬ (s (x1 + 1) x4.toNatClampNeg) = (-17) → ¬ x3 < 2 → ¬ (s (x1 + 1) x4.toNatClampNeg) = -16 → ¬ (s (x1 + 1) x4.toNatClampNeg) = -15 → (s (x1 + 1) x4.toNatClampNeg) = -14 → ∀ s6 : jg_H, s6 = jg_up s 121 ((x3 + (-1)) - 1).toNatClampNeg ((s 121 ((x3 + (-1)) - 1).toNatClampNeg) + (s 121 (x3 + (-1)).toNatClampNeg)) → q_W G (d + 1) jm_Machine_run B 21 [some (.ref 119), some (.ref x1), some (.int x2), some (.int (x3 + (-1))), some (.int (x4 + 1)), some (.int (s (x1 + 1) x4.toNatClampNeg))] [] s6)
    (k26 : x4 < (s (x1 + 2) (x2 + 1).toNatClampNeg) → x4 < 200 → (s (x1 + 1) x4.toNatClampNeg) < (-8) → ¬ (s (x1 + 1) x4.toNatClampNeg) = (-11) → ¬ (s (x1 + 1) x4.toNatClampNeg) = (-17) → ¬ x3 < 2 → ¬ (s (x1 + 1) x4.toNatClampNeg) = -16 → ¬ (s (x1 + 1) x4.toNatClampNeg) = -15 → ¬ (s (x1 + 1) x4.toNatClampNeg) = -14 → (s (x1 + 1) x4.toNatClampNeg) = -13 → ¬ (s 121 ((x3 + (-1)) - 1).toNatClampNeg) = (s 121 (x3 + (-1)).toNatClampNeg) → jv_in ((x3 + (-1)) - 1) 200 = true)
    (k27 : x4 < (s (x1 + 2) (x2 + 1).toNatClampNeg) → x4 < 200 → (s (x1 + 1) x4.toNatClampNeg) < (-8) → ¬ (s (x1 + 1) x4.toNatClampNeg) = (-11) → ¬ (s (x1 + 1) x4.toNatClampNeg) = (-17) → ¬ x3 < 2 → ¬ (s (x1 + 1) x4.toNatClampNeg) = -16 → ¬ (s (x1 + 1) x4.toNatClampNeg) = -15 → ¬ (s (x1 + 1) x4.toNatClampNeg) = -14 → (s (x1 + 1) x4.toNatClampNeg) = -13 → ¬ (s 121 ((x3 + (-1)) - 1).toNatClampNeg) = (s 121 (x3 + (-1)).toNatClampNeg) → ∀ s7 : jg_H, s7 = jg_up s 121 ((x3 + (-1)) - 1).toNatClampNeg 0 → q_W G (d + 1) jm_Machine_run B 21 [some (.ref 119), some (.ref x1), some (.int x2), some (.int (x3 + (-1))), some (.int (x4 + 1)), some (.int (s (x1 + 1) x4.toNatClampNeg))] [] s7)
    (k28 : x4 < (s (x1 + 2) (x2 + 1).toNatClampNeg) → x4 < 200 → (s (x1 + 1) x4.toNatClampNeg) < (-8) → ¬ (s (x1 + 1) x4.toNatClampNeg) = (-11) → ¬ (s (x1 + 1) x4.toNatClampNeg) = (-17) → ¬ x3 < 2 → ¬ (s (x1 + 1) x4.toNatClampNeg) = -16 → ¬ (s (x1 + 1) x4.toNatClampNeg) = -15 → ¬ (s (x1 + 1) x4.toNatClampNeg) = -14 → (s (x1 + 1) x4.toNatClampNeg) = -13 → (s 121 ((x3 + (-1)) - 1).toNatClampNeg) = (s 121 (x3 + (-1)).toNatClampNeg) → jv_in ((x3 + (-1)) - 1) 200 = true)
    (k29 : x4 < (s (x1 + 2) (x2 + 1).toNatClampNeg) → x4 < 200 → (s (x1 + 1) x4.toNatClampNeg) < (-8) → ¬ (s (x1 + 1) x4.toNatClampNeg) = (-11) → ¬ (s (x1 + 1) x4.toNatClampNeg) = (-17) → ¬ x3 < 2 → ¬ (s (x1 + 1) x4.toNatClampNeg) = -16 → ¬ (s (x1 + 1) x4.toNatClampNeg) = -15 → ¬ (s (x1 + 1) x4.toNatClampNeg) = -14 → (s (x1 + 1) x4.toNatClampNeg) = -13 → (s 121 ((x3 + (-1)) - 1).toNatClampNeg) = (s 121 (x3 + (-1)).toNatClampNeg) → ∀ s8 : jg_H, s8 = jg_up s 121 ((x3 + (-1)) - 1).toNatClampNeg 1 → q_W G (d + 1) jm_Machine_run B 21 [some (.ref 119), some (.ref x1), some (.int x2), some (.int (x3 + (-1))), some (.int (x4 + 1)), some (.int (s (x1 + 1) x4.toNatClampNeg))] [] s8)
    (k30 : x4 < (s (x1 + 2) (x2 + 1).toNatClampNeg) → x4 < 200 → (s (x1 + 1) x4.toNatClampNeg) < (-8) → ¬ (s (x1 + 1) x4.toNatClampNeg) = (-11) → ¬ (s (x1 + 1) x4.toNatClampNeg) = (-17) → ¬ x3 < 2 → ¬ (s (x1 + 1) x4.toNatClampNeg) = -16 → ¬ (s (x1 + 1) x4.toNatClampNeg) = -15 → ¬ (s (x1 + 1) x4.toNatClampNeg) = -14 → ¬ (s (x1 + 1) x4.toNatClampNeg) = -13 → (s (x1 + 1) x4.toNatClampNeg) = -12 → ¬ (s 121 ((x3 + (-1)) - 1).toNatClampNeg) < (s 121 (x3 + (-1)).toNatClampNeg) → jv_in ((x3 + (-1)) - 1) 200 = true)
    (k31 : x4 < (s (x1 + 2) (x2 + 1).toNatClampNeg) → x4 < 200 → (s (x1 + 1) x4.toNatClampNeg) < (-8) → ¬ (s (x1 + 1) x4.toNatClampNeg) = (-11) → ¬ (s (x1 + 1) x4.toNatClampNeg) = (-17) → ¬ x3 < 2 → ¬ (s (x1 + 1) x4.toNatClampNeg) = -16 → ¬ (s (x1 + 1) x4.toNatClampNeg) = -15 → ¬ (s (x1 + 1) x4.toNatClampNeg) = -14 → ¬ (s (x1 + 1) x4.toNatClampNeg) = -13 → (s (x1 + 1) x4.toNatClampNeg) = -12 → ¬ (s 121 ((x3 + (-1)) - 1).toNatClampNeg) < (s 121 (x3 + (-1)).toNatClampNeg) → ∀ s9 : jg_H, s9 = jg_up s 121 ((x3 + (-1)) - 1).toNatClampNeg 0 → q_W G (d + 1) jm_Machine_run B 21 [some (.ref 119), some (.ref x1), some (.int x2), some (.int (x3 + (-1))), some (.int (x4 + 1)), some (.int (s (x1 + 1) x4.toNatClampNeg))] [] s9)
    (k32 : x4 < (s (x1 + 2) (x2 + 1).toNatClampNeg) → x4 < 200 → (s (x1 + 1) x4.toNatClampNeg) < (-8) → ¬ (s (x1 + 1) x4.toNatClampNeg) = (-11) → ¬ (s (x1 + 1) x4.toNatClampNeg) = (-17) → ¬ x3 < 2 → ¬ (s (x1 + 1) x4.toNatClampNeg) = -16 → ¬ (s (x1 + 1) x4.toNatClampNeg) = -15 → ¬ (s (x1 + 1) x4.toNatClampNeg) = -14 → ¬ (s (x1 + 1) x4.toNatClampNeg) = -13 → (s (x1 + 1) x4.toNatClampNeg) = -12 → (s 121 ((x3 + (-1)) - 1).toNatClampNeg) < (s 121 (x3 + (-1)).toNatClampNeg) → jv_in ((x3 + (-1)) - 1) 200 = true)
    (k33 : x4 < (s (x1 + 2) (x2 + 1).toNatClampNeg) → x4 < 200 → (s (x1 + 1) x4.toNatClampNeg) < (-8) → ¬ (s (x1 + 1) x4.toNatClampNeg) = (-11) → ¬ (s (x1 + 1) x4.toNatClampNeg) = (-17) → ¬ x3 < 2 → ¬ (s (x1 + 1) x4.toNatClampNeg) = -16 → ¬ (s (x1 + 1) x4.toNatClampNeg) = -15 → ¬ (s (x1 + 1) x4.toNatClampNeg) = -14 → ¬ (s (x1 + 1) x4.toNatClampNeg) = -13 → (s (x1 + 1) x4.toNatClampNeg) = -12 → (s 121 ((x3 + (-1)) - 1).toNatClampNeg) < (s 121 (x3 + (-1)).toNatClampNeg) → ∀ s10 : jg_H, s10 = jg_up s 121 ((x3 + (-1)) - 1).toNatClampNeg 1 → q_W G (d + 1) jm_Machine_run B 21 [some (.ref 119), some (.ref x1), some (.int x2), some (.int (x3 + (-1))), some (.int (x4 + 1)), some (.int (s (x1 + 1) x4.toNatClampNeg))] [] s10)
    (k34 : x4 < (s (x1 + 2) (x2 + 1).toNatClampNeg) → x4 < 200 → (s (x1 + 1) x4.toNatClampNeg) < (-8) → ¬ (s (x1 + 1) x4.toNatClampNeg) = (-11) → ¬ (s (x1 + 1) x4.toNatClampNeg) = (-17) → ¬ x3 < 2 → ¬ (s (x1 + 1) x4.toNatClampNeg) = -16 → ¬ (s (x1 + 1) x4.toNatClampNeg) = -15 → ¬ (s (x1 + 1) x4.toNatClampNeg) = -14 → ¬ (s (x1 + 1) x4.toNatClampNeg) = -13 → ¬ (s (x1 + 1) x4.toNatClampNeg) = -12 → (s (x1 + 1) x4.toNatClampNeg) = -10 → (s 121 ((x3 + (-1)) - 1).toNatClampNeg) = 0 → jv_in ((x3 + (-1)) - 1) 200 = true)
    (k35 : x4 < (s (x1 + 2) (x2 + 1).toNatClampNeg) → x4 < 200 → (s (x1 + 1) x4.toNatClampNeg) < (-8) → ¬ (s (x1 + 1) x4.toNatClampNeg) = (-11) → ¬ (s (x1 + 1) x4.toNatClampNeg) = (-17) → ¬ x3 < 2 → ¬ (s (x1 + 1) x4.toNatClampNeg) = -16 → ¬ (s (x1 + 1) x4.toNatClampNeg) = -15 → ¬ (s (x1 + 1) x4.toNatClampNeg) = -14 → ¬ (s (x1 + 1) x4.toNatClampNeg) = -13 → ¬ (s (x1 + 1) x4.toNatClampNeg) = -12 → (s (x1 + 1) x4.toNatClampNeg) = -10 → (s 121 ((x3 + (-1)) - 1).toNatClampNeg) = 0 → ∀ s11 : jg_H, s11 = jg_up s 121 ((x3 + (-1)) - 1).toNatClampNeg 0 → q_W G (d + 1) jm_Machine_run B 21 [some (.ref 119), some (.ref x1), some (.int x2), some (.int (x3 + (-1))), some (.int (x4 + 1)), some (.int (s (x1 + 1) x4.toNatClampNeg))] [] s11)
    (k36 : x4 < (s (x1 + 2) (x2 + 1).toNatClampNeg) → x4 < 200 → (s (x1 + 1) x4.toNatClampNeg) < (-8) → ¬ (s (x1 + 1) x4.toNatClampNeg) = (-11) → ¬ (s (x1 + 1) x4.toNatClampNeg) = (-17) → ¬ x3 < 2 → ¬ (s (x1 + 1) x4.toNatClampNeg) = -16 → ¬ (s (x1 + 1) x4.toNatClampNeg) = -15 → ¬ (s (x1 + 1) x4.toNatClampNeg) = -14 → ¬ (s (x1 + 1) x4.toNatClampNeg) = -13 → ¬ (s (x1 + 1) x4.toNatClampNeg) = -12 → (s (x1 + 1) x4.toNatClampNeg) = -10 → ¬ (s 121 ((x3 + (-1)) - 1).toNatClampNeg) = 0 → (s 121 (x3 + (-1)).toNatClampNeg) = 0 → jv_in ((x3 + (-1)) - 1) 200 = true)
    (k37 : x4 < (s (x1 + 2) (x2 + 1).toNatClampNeg) → x4 < 200 → (s (x1 + 1) x4.toNatClampNeg) < (-8) → ¬ (s (x1 + 1) x4.toNatClampNeg) = (-11) → ¬ (s (x1 + 1) x4.toNatClampNeg) = (-17) → ¬ x3 < 2 → ¬ (s (x1 + 1) x4.toNatClampNeg) = -16 → ¬ (s (x1 + 1) x4.toNatClampNeg) = -15 → ¬ (s (x1 + 1) x4.toNatClampNeg) = -14 → ¬ (s (x1 + 1) x4.toNatClampNeg) = -13 → ¬ (s (x1 + 1) x4.toNatClampNeg) = -12 → (s (x1 + 1) x4.toNatClampNeg) = -10 → ¬ (s 121 ((x3 + (-1)) - 1).toNatClampNeg) = 0 → (s 121 (x3 + (-1)).toNatClampNeg) = 0 → ∀ s12 : jg_H, s12 = jg_up s 121 ((x3 + (-1)) - 1).toNatClampNeg 0 → q_W G (d + 1) jm_Machine_run B 21 [some (.ref 119), some (.ref x1), some (.int x2), some (.int (x3 + (-1))), some (.int (x4 + 1)), some (.int (s (x1 + 1) x4.toNatClampNeg))] [] s12)
    (k38 : x4 < (s (x1 + 2) (x2 + 1).toNatClampNeg) → x4 < 200 → (s (x1 + 1) x4.toNatClampNeg) < (-8) → ¬ (s (x1 + 1) x4.toNatClampNeg) = (-11) → ¬ (s (x1 + 1) x4.toNatClampNeg) = (-17) → ¬ x3 < 2 → ¬ (s (x1 + 1) x4.toNatClampNeg) = -16 → ¬ (s (x1 + 1) x4.toNatClampNeg) = -15 → ¬ (s (x1 + 1) x4.toNatClampNeg) = -14 → ¬ (s (x1 + 1) x4.toNatClampNeg) = -13 → ¬ (s (x1 + 1) x4.toNatClampNeg) = -12 → (s (x1 + 1) x4.toNatClampNeg) = -10 → ¬ (s 121 ((x3 + (-1)) - 1).toNatClampNeg) = 0 → ¬ (s 121 (x3 + (-1)).toNatClampNeg) = 0 → jv_in ((x3 + (-1)) - 1) 200 = true)
    (k39 : x4 < (s (x1 + 2) (x2 + 1).toNatClampNeg) → x4 < 200 → (s (x1 + 1) x4.toNatClampNeg) < (-8) → ¬ (s (x1 + 1) x4.toNatClampNeg) = (-11) → ¬ (s (x1 + 1) x4.toNatClampNeg) = (-17) → ¬ x3 < 2 → ¬ (s (x1 + 1) x4.toNatClampNeg) = -16 → ¬ (s (x1 + 1) x4.toNatClampNeg) = -15 → ¬ (s (x1 + 1) x4.toNatClampNeg) = -14 → ¬ (s (x1 + 1) x4.toNatClampNeg) = -13 → ¬ (s (x1 + 1) x4.toNatClampNeg) = -12 → (s (x1 + 1) x4.toNatClampNeg) = -10 → ¬ (s 121 ((x3 + (-1)) - 1).toNatClampNeg) = 0 → ¬ (s 121 (x3 + (-1)).toNatClampNeg) = 0 → ∀ s13 : jg_H, s13 = jg_up s 121 ((x3 + (-1)) - 1).toNatClampNeg 1 → q_W G (d + 1) jm_Machine_run B 21 [some (.ref 119), some (.ref x1), some (.int x2), some (.int (x3 + (-1))), some (.int (x4 + 1)), some (.int (s (x1 + 1) x4.toNatClampNeg))] [] s13)
    (k40 : x4 < (s (x1 + 2) (x2 + 1).toNatClampNeg) → x4 < 200 → (s (x1 + 1) x4.toNatClampNeg) < (-8) → ¬ (s (x1 + 1) x4.toNatClampNeg) = (-11) → ¬ (s (x1 + 1) x4.toNatClampNeg) = (-17) → ¬ x3 < 2 → ¬ (s (x1 + 1) x4.toNatClampNeg) = -16 → ¬ (s (x1 + 1) x4.toNatClampNeg) = -15 → ¬ (s (x1 + 1) x4.toNatClampNeg) = -14 → ¬ (s (x1 + 1) x4.toNatClampNeg) = -13 → ¬ (s (x1 + 1) x4.toNatClampNeg) = -12 → ¬ (s (x1 + 1) x4.toNatClampNeg) = -10 → (s (x1 + 1) x4.toNatClampNeg) = -9 → ¬ (s 121 ((x3 + (-1)) - 1).toNatClampNeg) = 0 → jv_in ((x3 + (-1)) - 1) 200 = true)
    (k41 : x4 < (s (x1 + 2) (x2 + 1).toNatClampNeg) → x4 < 200 → (s (x1 + 1) x4.toNatClampNeg) < (-8) → ¬ (s (x1 + 1) x4.toNatClampNeg) = (-11) → ¬ (s (x1 + 1) x4.toNatClampNeg) = (-17) → ¬ x3 < 2 → ¬ (s (x1 + 1) x4.toNatClampNeg) = -16 → ¬ (s (x1 + 1) x4.toNatClampNeg) = -15 → ¬ (s (x1 + 1) x4.toNatClampNeg) = -14 → ¬ (s (x1 + 1) x4.toNatClampNeg) = -13 → ¬ (s (x1 + 1) x4.toNatClampNeg) = -12 → ¬ (s (x1 + 1) x4.toNatClampNeg) = -10 → (s (x1 + 1) x4.toNatClampNeg) = -9 → ¬ (s 121 ((x3 + (-1)) - 1).toNatClampNeg) = 0 → ∀ s14 : jg_H, s14 = jg_up s 121 ((x3 + (-1)) - 1).toNatClampNeg 1 → q_W G (d + 1) jm_Machine_run B 21 [some (.ref 119), some (.ref x1), some (.int x2), some (.int (x3 + (-1))), some (.int (x4 + 1)), some (.int (s (x1 + 1) x4.toNatClampNeg))] [] s14)
    (k42 : x4 < (s (x1 + 2) (x2 + 1).toNatClampNeg) → x4 < 200 → (s (x1 + 1) x4.toNatClampNeg) < (-8) → ¬ (s (x1 + 1) x4.toNatClampNeg) = (-11) → ¬ (s (x1 + 1) x4.toNatClampNeg) = (-17) → ¬ x3 < 2 → ¬ (s (x1 + 1) x4.toNatClampNeg) = -16 → ¬ (s (x1 + 1) x4.toNatClampNeg) = -15 → ¬ (s (x1 + 1) x4.toNatClampNeg) = -14 → ¬ (s (x1 + 1) x4.toNatClampNeg) = -13 → ¬ (s (x1 + 1) x4.toNatClampNeg) = -12 → ¬ (s (x1 + 1) x4.toNatClampNeg) = -10 → (s (x1 + 1) x4.toNatClampNeg) = -9 → (s 121 ((x3 + (-1)) - 1).toNatClampNeg) = 0 → (s 121 (x3 + (-1)).toNatClampNeg) = 0 → jv_in ((x3 + (-1)) - 1) 200 = true)
    (k43 : x4 < (s (x1 + 2) (x2 + 1).toNatClampNeg) → x4 < 200 → (s (x1 + 1) x4.toNatClampNeg) < (-8) → ¬ (s (x1 + 1) x4.toNatClampNeg) = (-11) → ¬ (s (x1 + 1) x4.toNatClampNeg) = (-17) → ¬ x3 < 2 → ¬ (s (x1 + 1) x4.toNatClampNeg) = -16 → ¬ (s (x1 + 1) x4.toNatClampNeg) = -15 → ¬ (s (x1 + 1) x4.toNatClampNeg) = -14 → ¬ (s (x1 + 1) x4.toNatClampNeg) = -13 → ¬ (s (x1 + 1) x4.toNatClampNeg) = -12 → ¬ (s (x1 + 1) x4.toNatClampNeg) = -10 → (s (x1 + 1) x4.toNatClampNeg) = -9 → (s 121 ((x3 + (-1)) - 1).toNatClampNeg) = 0 → (s 121 (x3 + (-1)).toNatClampNeg) = 0 → ∀ s15 : jg_H, s15 = jg_up s 121 ((x3 + (-1)) - 1).toNatClampNeg 0 → q_W G (d + 1) jm_Machine_run B 21 [some (.ref 119), some (.ref x1), some (.int x2), some (.int (x3 + (-1))), some (.int (x4 + 1)), some (.int (s (x1 + 1) x4.toNatClampNeg))] [] s15)
    (k44 : x4 < (s (x1 + 2) (x2 + 1).toNatClampNeg) → x4 < 200 → (s (x1 + 1) x4.toNatClampNeg) < (-8) → ¬ (s (x1 + 1) x4.toNatClampNeg) = (-11) → ¬ (s (x1 + 1) x4.toNatClampNeg) = (-17) → ¬ x3 < 2 → ¬ (s (x1 + 1) x4.toNatClampNeg) = -16 → ¬ (s (x1 + 1) x4.toNatClampNeg) = -15 → ¬ (s (x1 + 1) x4.toNatClampNeg) = -14 → ¬ (s (x1 + 1) x4.toNatClampNeg) = -13 → ¬ (s (x1 + 1) x4.toNatClampNeg) = -12 → ¬ (s (x1 + 1) x4.toNatClampNeg) = -10 → (s (x1 + 1) x4.toNatClampNeg) = -9 → (s 121 ((x3 + (-1)) - 1).toNatClampNeg) = 0 → ¬ (s 121 (x3 + (-1)).toNatClampNeg) = 0 → jv_in ((x3 + (-1)) - 1) 200 = true)
    (k45 : x4 < (s (x1 + 2) (x2 + 1).toNatClampNeg) → x4 < 200 → (s (x1 + 1) x4.toNatClampNeg) < (-8) → ¬ (s (x1 + 1) x4.toNatClampNeg) = (-11) → ¬ (s (x1 + 1) x4.toNatClampNeg) = (-17) → ¬ x3 < 2 → ¬ (s (x1 + 1) x4.toNatClampNeg) = -16 → ¬ (s (x1 + 1) x4.toNatClampNeg) = -15 → ¬ (s (x1 + 1) x4.toNatClampNeg) = -14 → ¬ (s (x1 + 1) x4.toNatClampNeg) = -13 → ¬ (s (x1 + 1) x4.toNatClampNeg) = -12 → ¬ (s (x1 + 1) x4.toNatClampNeg) = -10 → (s (x1 + 1) x4.toNatClampNeg) = -9 → (s 121 ((x3 + (-1)) - 1).toNatClampNeg) = 0 → ¬ (s 121 (x3 + (-1)).toNatClampNeg) = 0 → ∀ s16 : jg_H, s16 = jg_up s 121 ((x3 + (-1)) - 1).toNatClampNeg 1 → q_W G (d + 1) jm_Machine_run B 21 [some (.ref 119), some (.ref x1), some (.int x2), some (.int (x3 + (-1))), some (.int (x4 + 1)), some (.int (s (x1 + 1) x4.toNatClampNeg))] [] s16)
    (k46 : x4 < (s (x1 + 2) (x2 + 1).toNatClampNeg) → x4 < 200 → (s (x1 + 1) x4.toNatClampNeg) < (-8) → ¬ (s (x1 + 1) x4.toNatClampNeg) = (-11) → ¬ (s (x1 + 1) x4.toNatClampNeg) = (-17) → ¬ x3 < 2 → ¬ (s (x1 + 1) x4.toNatClampNeg) = -16 → ¬ (s (x1 + 1) x4.toNatClampNeg) = -15 → ¬ (s (x1 + 1) x4.toNatClampNeg) = -14 → ¬ (s (x1 + 1) x4.toNatClampNeg) = -13 → ¬ (s (x1 + 1) x4.toNatClampNeg) = -12 → ¬ (s (x1 + 1) x4.toNatClampNeg) = -10 → ¬ (s (x1 + 1) x4.toNatClampNeg) = -9 → jv_in ((x3 + (-1)) - 1) 200 = true)
    (k47 : x4 < (s (x1 + 2) (x2 + 1).toNatClampNeg) → x4 < 200 → (s (x1 + 1) x4.toNatClampNeg) < (-8) → ¬ (s (x1 + 1) x4.toNatClampNeg) = (-11) → ¬ (s (x1 + 1) x4.toNatClampNeg) = (-17) → ¬ x3 < 2 → ¬ (s (x1 + 1) x4.toNatClampNeg) = -16 → ¬ (s (x1 + 1) x4.toNatClampNeg) = -15 → ¬ (s (x1 + 1) x4.toNatClampNeg) = -14 → ¬ (s (x1 + 1) x4.toNatClampNeg) = -13 → ¬ (s (x1 + 1) x4.toNatClampNeg) = -12 → ¬ (s (x1 + 1) x4.toNatClampNeg) = -10 → ¬ (s (x1 + 1) x4.toNatClampNeg) = -9 → ∀ s17 : jg_H, s17 = jg_up s 121 ((x3 + (-1)) - 1).toNatClampNeg 0 → q_W G (d + 1) jm_Machine_run B 21 [some (.ref 119), some (.ref x1), some (.int x2), some (.int (x3 + (-1))), some (.int (x4 + 1)), some (.int (s (x1 + 1) x4.toNatClampNeg))] [] s17)
    (k48 : x4 < (s (x1 + 2) (x2 + 1).toNatClampNeg) → x4 < 200 → (s (x1 + 1) x4.toNatClampNeg) < (-8) → ¬ (s (x1 + 1) x4.toNatClampNeg) = (-11) → ¬ (s (x1 + 1) x4.toNatClampNeg) = (-17) → x3 < 2 → B (some (.int 0)) s)
    (k49 : x4 < (s (x1 + 2) (x2 + 1).toNatClampNeg) → x4 < 200 → (s (x1 + 1) x4.toNatClampNeg) < (-8) → ¬ (s (x1 + 1) x4.toNatClampNeg) = (-11) → (s (x1 + 1) x4.toNatClampNeg) = (-17) → ¬ x3 < 1 → jv_in (x3 - 1) 200 = true)
    (k50 : x4 < (s (x1 + 2) (x2 + 1).toNatClampNeg) → x4 < 200 → (s (x1 + 1) x4.toNatClampNeg) < (-8) → ¬ (s (x1 + 1) x4.toNatClampNeg) = (-11) → (s (x1 + 1) x4.toNatClampNeg) = (-17) → ¬ x3 < 1 → jv_in (x3 - 1) 200 = true)
    (k51 : x4 < (s (x1 + 2) (x2 + 1).toNatClampNeg) → x4 < 200 → (s (x1 + 1) x4.toNatClampNeg) < (-8) → ¬ (s (x1 + 1) x4.toNatClampNeg) = (-11) → (s (x1 + 1) x4.toNatClampNeg) = (-17) → ¬ x3 < 1 → ∀ s18 : jg_H, s18 = jg_up s 121 (x3 - 1).toNatClampNeg (-(s 121 (x3 - 1).toNatClampNeg)) → q_W G (d + 1) jm_Machine_run B 21 [some (.ref 119), some (.ref x1), some (.int x2), some (.int x3), some (.int (x4 + 1)), some (.int (s (x1 + 1) x4.toNatClampNeg))] [] s18)
    (k52 : x4 < (s (x1 + 2) (x2 + 1).toNatClampNeg) → x4 < 200 → (s (x1 + 1) x4.toNatClampNeg) < (-8) → ¬ (s (x1 + 1) x4.toNatClampNeg) = (-11) → (s (x1 + 1) x4.toNatClampNeg) = (-17) → x3 < 1 → B (some (.int 0)) s)
    (k53 : x4 < (s (x1 + 2) (x2 + 1).toNatClampNeg) → x4 < 200 → ¬ (s (x1 + 1) x4.toNatClampNeg) < (-8) → x3 < 200 → (s (x1 + 1) x4.toNatClampNeg) < 0 → jv_in ((-1) - (s (x1 + 1) x4.toNatClampNeg)) 8 = true)
    (k54 : x4 < (s (x1 + 2) (x2 + 1).toNatClampNeg) → x4 < 200 → ¬ (s (x1 + 1) x4.toNatClampNeg) < (-8) → x3 < 200 → (s (x1 + 1) x4.toNatClampNeg) < 0 → jv_in x3 200 = true)
    (k55 : x4 < (s (x1 + 2) (x2 + 1).toNatClampNeg) → x4 < 200 → ¬ (s (x1 + 1) x4.toNatClampNeg) < (-8) → x3 < 200 → (s (x1 + 1) x4.toNatClampNeg) < 0 → ∀ s19 : jg_H, s19 = jg_up s 121 x3.toNatClampNeg (s 120 ((-1) - (s (x1 + 1) x4.toNatClampNeg)).toNatClampNeg) → q_W G (d + 1) jm_Machine_run B 21 [some (.ref 119), some (.ref x1), some (.int x2), some (.int (x3 + 1)), some (.int (x4 + 1)), some (.int (s (x1 + 1) x4.toNatClampNeg))] [] s19)
    (k56 : x4 < (s (x1 + 2) (x2 + 1).toNatClampNeg) → x4 < 200 → ¬ (s (x1 + 1) x4.toNatClampNeg) < (-8) → x3 < 200 → ¬ (s (x1 + 1) x4.toNatClampNeg) < 0 → jv_in x3 200 = true)
    (k57 : x4 < (s (x1 + 2) (x2 + 1).toNatClampNeg) → x4 < 200 → ¬ (s (x1 + 1) x4.toNatClampNeg) < (-8) → x3 < 200 → ¬ (s (x1 + 1) x4.toNatClampNeg) < 0 → ∀ s20 : jg_H, s20 = jg_up s 121 x3.toNatClampNeg (s (x1 + 1) x4.toNatClampNeg) → q_W G (d + 1) jm_Machine_run B 21 [some (.ref 119), some (.ref x1), some (.int x2), some (.int (x3 + 1)), some (.int (x4 + 1)), some (.int (s (x1 + 1) x4.toNatClampNeg))] [] s20)
    (k58 : x4 < (s (x1 + 2) (x2 + 1).toNatClampNeg) → x4 < 200 → ¬ (s (x1 + 1) x4.toNatClampNeg) < (-8) → ¬ x3 < 200 → B (some (.int 0)) s) :
    q_W G (d + 1) jm_Machine_run B 21 [some (.ref 119), some (.ref x1), some (.int x2), some (.int x3), some (.int x4), o5] [] s := by
  refine q_iload (pc' := 23) ja_Machine_run_21 rfl rfl ?_
  refine q_aload_n (pc' := 24) ja_Machine_run_23 rfl rfl ?_
  refine q_getf (pc' := 27) (v := .ref (x1 + 2)) ja_Machine_run_24 rfl (f_9_c hx1) ⟨by rw [f_9_k hx1], by decide⟩ (f_9_g2 hx1) ?_
  refine q_iload_n (pc' := 28) ja_Machine_run_27 rfl rfl ?_
  refine q_iconst (pc' := 29) ja_Machine_run_28 rfl 1 (by decide) ?_
  refine q_iadd (pc' := 30) ja_Machine_run_29 rfl ?_
  refine q_iald (pc' := 31) (v := .int (s (x1 + 2) (x2 + 1).toNatClampNeg)) ja_Machine_run_30 rfl (f_a_c (f_9_s2 hx1)) (l := 5) (f_a_k (f_9_s2 hx1)) k1 (f_i (f_a_k (f_9_s2 hx1)) rfl) ?_
  refine q_ic_ge (pc' := 34) ja_Machine_run_31 rfl ?_ ?_
  · intro h1
    refine q_iload_n (pc' := 217) ja_Machine_run_216 rfl rfl ?_
    refine q_iconst (pc' := 218) ja_Machine_run_217 rfl 1 (by decide) ?_
    refine q_ic_ge (pc' := 221) ja_Machine_run_218 rfl ?_ ?_
    · intro h2
      refine q_aload_n (pc' := 226) ja_Machine_run_225 rfl rfl ?_
      refine q_getf (pc' := 229) (v := .ref 121) ja_Machine_run_226 rfl (by decide) ⟨rfl, by decide⟩ rfl ?_
      refine q_iload_n (pc' := 230) ja_Machine_run_229 rfl rfl ?_
      refine q_iconst (pc' := 231) ja_Machine_run_230 rfl 1 (by decide) ?_
      refine q_isub (pc' := 232) ja_Machine_run_231 rfl ?_
      refine q_iald (pc' := 233) (v := .int (s 121 (x3 - 1).toNatClampNeg)) ja_Machine_run_232 rfl (by decide) (l := 200) rfl (k2 h1 h2) rfl ?_
      exact q_iret ja_Machine_run_233 rfl rfl (k3 h1 h2)
    · intro h3
      refine q_iconst (pc' := 222) ja_Machine_run_221 rfl 0 (by decide) ?_
      refine q_goto ja_Machine_run_222 ?_
      exact q_iret ja_Machine_run_233 rfl rfl (k4 h1 h3)
  · intro h4
    refine q_iload (pc' := 36) ja_Machine_run_34 rfl rfl ?_
    refine q_aload_n (pc' := 37) ja_Machine_run_36 rfl rfl ?_
    refine q_getf (pc' := 40) (v := .ref (x1 + 1)) ja_Machine_run_37 rfl (f_9_c hx1) ⟨by rw [f_9_k hx1], by decide⟩ (f_9_g0 hx1) ?_
    refine q_alen (pc' := 41) ja_Machine_run_40 rfl (f_a_c (f_9_s0 hx1)) (kd := 13) (l := 200) (f_a_k (f_9_s0 hx1)) (by decide) (v := 200) (by decide) ?_
    refine q_ic_ge (pc' := 44) ja_Machine_run_41 rfl ?_ ?_
    · intro h5
      refine q_iload_n (pc' := 217) ja_Machine_run_216 rfl rfl ?_
      refine q_iconst (pc' := 218) ja_Machine_run_217 rfl 1 (by decide) ?_
      refine q_ic_ge (pc' := 221) ja_Machine_run_218 rfl ?_ ?_
      · intro h6
        refine q_aload_n (pc' := 226) ja_Machine_run_225 rfl rfl ?_
        refine q_getf (pc' := 229) (v := .ref 121) ja_Machine_run_226 rfl (by decide) ⟨rfl, by decide⟩ rfl ?_
        refine q_iload_n (pc' := 230) ja_Machine_run_229 rfl rfl ?_
        refine q_iconst (pc' := 231) ja_Machine_run_230 rfl 1 (by decide) ?_
        refine q_isub (pc' := 232) ja_Machine_run_231 rfl ?_
        refine q_iald (pc' := 233) (v := .int (s 121 (x3 - 1).toNatClampNeg)) ja_Machine_run_232 rfl (by decide) (l := 200) rfl (k5 h4 h5 h6) rfl ?_
        exact q_iret ja_Machine_run_233 rfl rfl (k6 h4 h5 h6)
      · intro h7
        refine q_iconst (pc' := 222) ja_Machine_run_221 rfl 0 (by decide) ?_
        refine q_goto ja_Machine_run_222 ?_
        exact q_iret ja_Machine_run_233 rfl rfl (k7 h4 h5 h7)
    · intro h8
      refine q_aload_n (pc' := 45) ja_Machine_run_44 rfl rfl ?_
      refine q_getf (pc' := 48) (v := .ref (x1 + 1)) ja_Machine_run_45 rfl (f_9_c hx1) ⟨by rw [f_9_k hx1], by decide⟩ (f_9_g0 hx1) ?_
      refine q_iload (pc' := 50) ja_Machine_run_48 rfl rfl ?_
      refine q_iald (pc' := 51) (v := .int (s (x1 + 1) x4.toNatClampNeg)) ja_Machine_run_50 rfl (f_a_c (f_9_s0 hx1)) (l := 200) (f_a_k (f_9_s0 hx1)) (k8 h4 h8) (f_i (f_a_k (f_9_s0 hx1)) rfl) ?_
      refine q_istore (pc' := 53) (ls' := [some (.ref 119), some (.ref x1), some (.int x2), some (.int x3), some (.int x4), some (.int (s (x1 + 1) x4.toNatClampNeg))]) ja_Machine_run_51 rfl ⟨Nat.le_of_ble_eq_true rfl, rfl⟩ rfl ?_
      refine q_iload (pc' := 55) ja_Machine_run_53 rfl rfl ?_
      refine q_aload_n (pc' := 56) ja_Machine_run_55 rfl rfl ?_
      refine q_getf (pc' := 59) (v := .ref 120) ja_Machine_run_56 rfl (by decide) ⟨rfl, by decide⟩ rfl ?_
      refine q_alen (pc' := 60) ja_Machine_run_59 rfl (by decide) (kd := 13) (l := 8) rfl (by decide) (v := 8) (by decide) ?_
      refine q_ineg (pc' := 61) ja_Machine_run_60 rfl ?_
      refine q_ic_lt (pc' := 64) ja_Machine_run_61 rfl ?_ ?_
      · intro h9
        refine q_iload (pc' := 108) ja_Machine_run_106 rfl rfl ?_
        refine q_bipush (pc' := 110) ja_Machine_run_108 rfl (-11) (by decide) ?_
        refine q_ic_eq (pc' := 113) ja_Machine_run_110 rfl ?_ ?_
        · intro h10
          refine q_iload_n (pc' := 121) ja_Machine_run_120 rfl rfl ?_
          refine q_iconst (pc' := 122) ja_Machine_run_121 rfl 1 (by decide) ?_
          refine q_ic_ge (pc' := 125) ja_Machine_run_122 rfl ?_ ?_
          · intro h11
            refine q_aload_n (pc' := 128) ja_Machine_run_127 rfl rfl ?_
            refine q_getf (pc' := 131) (v := .ref 121) ja_Machine_run_128 rfl (by decide) ⟨rfl, by decide⟩ rfl ?_
            refine q_iload_n (pc' := 132) ja_Machine_run_131 rfl rfl ?_
            refine q_iconst (pc' := 133) ja_Machine_run_132 rfl 1 (by decide) ?_
            refine q_isub (pc' := 134) ja_Machine_run_133 rfl ?_
            refine q_iload (pc' := 136) ja_Machine_run_134 rfl rfl ?_
            refine q_bipush (pc' := 138) ja_Machine_run_136 rfl (-17) (by decide) ?_
            refine q_ic_ne (pc' := 141) ja_Machine_run_138 rfl ?_ ?_
            · intro h12
              refine q_aload_n (pc' := 154) ja_Machine_run_153 rfl rfl ?_
              refine q_getf (pc' := 157) (v := .ref 121) ja_Machine_run_154 rfl (by decide) ⟨rfl, by decide⟩ rfl ?_
              refine q_iload_n (pc' := 158) ja_Machine_run_157 rfl rfl ?_
              refine q_iconst (pc' := 159) ja_Machine_run_158 rfl 1 (by decide) ?_
              refine q_isub (pc' := 160) ja_Machine_run_159 rfl ?_
              refine q_iald (pc' := 161) (v := .int (s 121 (x3 - 1).toNatClampNeg)) ja_Machine_run_160 rfl (by decide) (l := 200) rfl (k9 h4 h8 h9 h10 h11 h12) rfl ?_
              refine q_if_ne (pc' := 164) ja_Machine_run_161 rfl ?_ ?_
              · intro h13
                refine q_iconst (pc' := 169) ja_Machine_run_168 rfl 0 (by decide) ?_
                refine q_iast (pc' := 170) ja_Machine_run_169 rfl (by decide) (l := 200) rfl (k10 h4 h8 h9 h10 h11 h12 h13) ?_
                intro s1 e1
                refine q_goto ja_Machine_run_170 ?_
                refine q_iinc (pc' := 213) (ls' := [some (.ref 119), some (.ref x1), some (.int x2), some (.int x3), some (.int (x4 + 1)), some (.int (s (x1 + 1) x4.toNatClampNeg))]) ja_Machine_run_210 rfl rfl (x4 + 1) rfl ⟨Nat.le_of_ble_eq_true rfl, rfl⟩ rfl ?_
                refine q_goto ja_Machine_run_213 ?_
                exact (k11 h4 h8 h9 h10 h11 h12 h13 s1 e1)
              · intro h14
                refine q_iconst (pc' := 165) ja_Machine_run_164 rfl 1 (by decide) ?_
                refine q_goto ja_Machine_run_165 ?_
                refine q_iast (pc' := 170) ja_Machine_run_169 rfl (by decide) (l := 200) rfl (k12 h4 h8 h9 h10 h11 h12 h14) ?_
                intro s2 e2
                refine q_goto ja_Machine_run_170 ?_
                refine q_iinc (pc' := 213) (ls' := [some (.ref 119), some (.ref x1), some (.int x2), some (.int x3), some (.int (x4 + 1)), some (.int (s (x1 + 1) x4.toNatClampNeg))]) ja_Machine_run_210 rfl rfl (x4 + 1) rfl ⟨Nat.le_of_ble_eq_true rfl, rfl⟩ rfl ?_
                refine q_goto ja_Machine_run_213 ?_
                exact (k13 h4 h8 h9 h10 h11 h12 h14 s2 e2)
            · intro h15
              refine q_aload_n (pc' := 142) ja_Machine_run_141 rfl rfl ?_
              refine q_getf (pc' := 145) (v := .ref 121) ja_Machine_run_142 rfl (by decide) ⟨rfl, by decide⟩ rfl ?_
              refine q_iload_n (pc' := 146) ja_Machine_run_145 rfl rfl ?_
              refine q_iconst (pc' := 147) ja_Machine_run_146 rfl 1 (by decide) ?_
              refine q_isub (pc' := 148) ja_Machine_run_147 rfl ?_
              refine q_iald (pc' := 149) (v := .int (s 121 (x3 - 1).toNatClampNeg)) ja_Machine_run_148 rfl (by decide) (l := 200) rfl (k14 h4 h8 h9 h10 h11 h15) rfl ?_
              refine q_ineg (pc' := 150) ja_Machine_run_149 rfl ?_
              refine q_goto ja_Machine_run_150 ?_
              refine q_iast (pc' := 170) ja_Machine_run_169 rfl (by decide) (l := 200) rfl (k15 h4 h8 h9 h10 h11 h15) ?_
              intro s3 e3
              refine q_goto ja_Machine_run_170 ?_
              refine q_iinc (pc' := 213) (ls' := [some (.ref 119), some (.ref x1), some (.int x2), some (.int x3), some (.int (x4 + 1)), some (.int (s (x1 + 1) x4.toNatClampNeg))]) ja_Machine_run_210 rfl rfl (x4 + 1) rfl ⟨Nat.le_of_ble_eq_true rfl, rfl⟩ rfl ?_
              refine q_goto ja_Machine_run_213 ?_
              exact (k16 h4 h8 h9 h10 h11 h15 s3 e3)
          · intro h16
            refine q_iconst (pc' := 126) ja_Machine_run_125 rfl 0 (by decide) ?_
            exact q_iret ja_Machine_run_126 rfl rfl (k17 h4 h8 h9 h10 h16)
        · intro h17
          refine q_iload (pc' := 115) ja_Machine_run_113 rfl rfl ?_
          refine q_bipush (pc' := 117) ja_Machine_run_115 rfl (-17) (by decide) ?_
          refine q_ic_ne (pc' := 120) ja_Machine_run_117 rfl ?_ ?_
          · intro h18
            refine q_iload_n (pc' := 174) ja_Machine_run_173 rfl rfl ?_
            refine q_iconst (pc' := 175) ja_Machine_run_174 rfl 2 (by decide) ?_
            refine q_ic_ge (pc' := 178) ja_Machine_run_175 rfl ?_ ?_
            · intro h19
              refine q_iinc (pc' := 183) (ls' := [some (.ref 119), some (.ref x1), some (.int x2), some (.int (x3 + (-1))), some (.int x4), some (.int (s (x1 + 1) x4.toNatClampNeg))]) ja_Machine_run_180 rfl rfl (x3 + (-1)) rfl ⟨Nat.le_of_ble_eq_true rfl, rfl⟩ rfl ?_
              refine q_aload_n (pc' := 184) ja_Machine_run_183 rfl rfl ?_
              refine q_getf (pc' := 187) (v := .ref 121) ja_Machine_run_184 rfl (by decide) ⟨rfl, by decide⟩ rfl ?_
              refine q_iload_n (pc' := 188) ja_Machine_run_187 rfl rfl ?_
              refine q_iconst (pc' := 189) ja_Machine_run_188 rfl 1 (by decide) ?_
              refine q_isub (pc' := 190) ja_Machine_run_189 rfl ?_
              refine q_iload (pc' := 192) ja_Machine_run_190 rfl rfl ?_
              refine q_aload_n (pc' := 193) ja_Machine_run_192 rfl rfl ?_
              refine q_getf (pc' := 196) (v := .ref 121) ja_Machine_run_193 rfl (by decide) ⟨rfl, by decide⟩ rfl ?_
              refine q_iload_n (pc' := 197) ja_Machine_run_196 rfl rfl ?_
              refine q_iconst (pc' := 198) ja_Machine_run_197 rfl 1 (by decide) ?_
              refine q_isub (pc' := 199) ja_Machine_run_198 rfl ?_
              refine q_iald (pc' := 200) (v := .int (s 121 ((x3 + (-1)) - 1).toNatClampNeg)) ja_Machine_run_199 rfl (by decide) (l := 200) rfl (k18 h4 h8 h9 h17 h18 h19) rfl ?_
              refine q_aload_n (pc' := 201) ja_Machine_run_200 rfl rfl ?_
              refine q_getf (pc' := 204) (v := .ref 121) ja_Machine_run_201 rfl (by decide) ⟨rfl, by decide⟩ rfl ?_
              refine q_iload_n (pc' := 205) ja_Machine_run_204 rfl rfl ?_
              refine q_iald (pc' := 206) (v := .int (s 121 (x3 + (-1)).toNatClampNeg)) ja_Machine_run_205 rfl (by decide) (l := 200) rfl (k19 h4 h8 h9 h17 h18 h19) rfl ?_
              refine q_stat (pc' := 209) (as := [.int (s (x1 + 1) x4.toNatClampNeg), .int (s 121 ((x3 + (-1)) - 1).toNatClampNeg), .int (s 121 (x3 + (-1)).toNatClampNeg)]) (r := [.int ((x3 + (-1)) - 1), .ref 121]) ja_Machine_run_206 rfl (by decide) rfl rfl ?_
              refine q_in (M := jm_Machine_joined) rfl (Nat.le_of_ble_eq_true rfl) (ls := [some (.int (s (x1 + 1) x4.toNatClampNeg)), some (.int (s 121 ((x3 + (-1)) - 1).toNatClampNeg)), some (.int (s 121 (x3 + (-1)).toNatClampNeg))]) rfl ?_
              refine q_iload_n (pc' := 1) ja_Machine_joined_0 rfl rfl ?_
              by_cases h20 : (s (x1 + 1) x4.toNatClampNeg) = -16
              · refine q_swE (pc' := 106) ja_Machine_joined_1 (by rw [h20]; decide) (by rw [h20]; exact ⟨_, rfl, rfl⟩) ?_
                refine q_iload_n (pc' := 107) ja_Machine_joined_106 rfl rfl ?_
                refine q_iload_n (pc' := 108) ja_Machine_joined_107 rfl rfl ?_
                refine q_imul (pc' := 109) ja_Machine_joined_108 rfl ?_
                refine q_iret ja_Machine_joined_109 rfl rfl ?_
                show q_W _ _ _ _ 209 [some (.ref 119), some (.ref x1), some (.int x2), some (.int (x3 + (-1))), some (.int x4), some (.int (s (x1 + 1) x4.toNatClampNeg))] [.int ((s 121 ((x3 + (-1)) - 1).toNatClampNeg) * (s 121 (x3 + (-1)).toNatClampNeg)), .int ((x3 + (-1)) - 1), .ref 121] s
                refine q_iast (pc' := 210) ja_Machine_run_209 rfl (by decide) (l := 200) rfl (k20 h4 h8 h9 h17 h18 h19 h20) ?_
                intro s4 e4
                refine q_iinc (pc' := 213) (ls' := [some (.ref 119), some (.ref x1), some (.int x2), some (.int (x3 + (-1))), some (.int (x4 + 1)), some (.int (s (x1 + 1) x4.toNatClampNeg))]) ja_Machine_run_210 rfl rfl (x4 + 1) rfl ⟨Nat.le_of_ble_eq_true rfl, rfl⟩ rfl ?_
                refine q_goto ja_Machine_run_213 ?_
                exact (k21 h4 h8 h9 h17 h18 h19 h20 s4 e4)
              by_cases h21 : (s (x1 + 1) x4.toNatClampNeg) = -15
              · refine q_swE (pc' := 102) ja_Machine_joined_1 (by rw [h21]; decide) (by rw [h21]; exact ⟨_, rfl, rfl⟩) ?_
                refine q_iload_n (pc' := 103) ja_Machine_joined_102 rfl rfl ?_
                refine q_iload_n (pc' := 104) ja_Machine_joined_103 rfl rfl ?_
                refine q_isub (pc' := 105) ja_Machine_joined_104 rfl ?_
                refine q_iret ja_Machine_joined_105 rfl rfl ?_
                show q_W _ _ _ _ 209 [some (.ref 119), some (.ref x1), some (.int x2), some (.int (x3 + (-1))), some (.int x4), some (.int (s (x1 + 1) x4.toNatClampNeg))] [.int ((s 121 ((x3 + (-1)) - 1).toNatClampNeg) - (s 121 (x3 + (-1)).toNatClampNeg)), .int ((x3 + (-1)) - 1), .ref 121] s
                refine q_iast (pc' := 210) ja_Machine_run_209 rfl (by decide) (l := 200) rfl (k22 h4 h8 h9 h17 h18 h19 h20 h21) ?_
                intro s5 e5
                refine q_iinc (pc' := 213) (ls' := [some (.ref 119), some (.ref x1), some (.int x2), some (.int (x3 + (-1))), some (.int (x4 + 1)), some (.int (s (x1 + 1) x4.toNatClampNeg))]) ja_Machine_run_210 rfl rfl (x4 + 1) rfl ⟨Nat.le_of_ble_eq_true rfl, rfl⟩ rfl ?_
                refine q_goto ja_Machine_run_213 ?_
                exact (k23 h4 h8 h9 h17 h18 h19 h20 h21 s5 e5)
              by_cases h22 : (s (x1 + 1) x4.toNatClampNeg) = -14
              · refine q_swE (pc' := 98) ja_Machine_joined_1 (by rw [h22]; decide) (by rw [h22]; exact ⟨_, rfl, rfl⟩) ?_
                refine q_iload_n (pc' := 99) ja_Machine_joined_98 rfl rfl ?_
                refine q_iload_n (pc' := 100) ja_Machine_joined_99 rfl rfl ?_
                refine q_iadd (pc' := 101) ja_Machine_joined_100 rfl ?_
                refine q_iret ja_Machine_joined_101 rfl rfl ?_
                show q_W _ _ _ _ 209 [some (.ref 119), some (.ref x1), some (.int x2), some (.int (x3 + (-1))), some (.int x4), some (.int (s (x1 + 1) x4.toNatClampNeg))] [.int ((s 121 ((x3 + (-1)) - 1).toNatClampNeg) + (s 121 (x3 + (-1)).toNatClampNeg)), .int ((x3 + (-1)) - 1), .ref 121] s
                refine q_iast (pc' := 210) ja_Machine_run_209 rfl (by decide) (l := 200) rfl (k24 h4 h8 h9 h17 h18 h19 h20 h21 h22) ?_
                intro s6 e6
                refine q_iinc (pc' := 213) (ls' := [some (.ref 119), some (.ref x1), some (.int x2), some (.int (x3 + (-1))), some (.int (x4 + 1)), some (.int (s (x1 + 1) x4.toNatClampNeg))]) ja_Machine_run_210 rfl rfl (x4 + 1) rfl ⟨Nat.le_of_ble_eq_true rfl, rfl⟩ rfl ?_
                refine q_goto ja_Machine_run_213 ?_
                exact (k25 h4 h8 h9 h17 h18 h19 h20 h21 h22 s6 e6)
              by_cases h23 : (s (x1 + 1) x4.toNatClampNeg) = -13
              · refine q_swE (pc' := 87) ja_Machine_joined_1 (by rw [h23]; decide) (by rw [h23]; exact ⟨_, rfl, rfl⟩) ?_
                refine q_iload_n (pc' := 88) ja_Machine_joined_87 rfl rfl ?_
                refine q_iload_n (pc' := 89) ja_Machine_joined_88 rfl rfl ?_
                refine q_ic_ne (pc' := 92) ja_Machine_joined_89 rfl ?_ ?_
                · intro h24
                  refine q_iconst (pc' := 97) ja_Machine_joined_96 rfl 0 (by decide) ?_
                  refine q_iret ja_Machine_joined_97 rfl rfl ?_
                  show q_W _ _ _ _ 209 [some (.ref 119), some (.ref x1), some (.int x2), some (.int (x3 + (-1))), some (.int x4), some (.int (s (x1 + 1) x4.toNatClampNeg))] [.int 0, .int ((x3 + (-1)) - 1), .ref 121] s
                  refine q_iast (pc' := 210) ja_Machine_run_209 rfl (by decide) (l := 200) rfl (k26 h4 h8 h9 h17 h18 h19 h20 h21 h22 h23 h24) ?_
                  intro s7 e7
                  refine q_iinc (pc' := 213) (ls' := [some (.ref 119), some (.ref x1), some (.int x2), some (.int (x3 + (-1))), some (.int (x4 + 1)), some (.int (s (x1 + 1) x4.toNatClampNeg))]) ja_Machine_run_210 rfl rfl (x4 + 1) rfl ⟨Nat.le_of_ble_eq_true rfl, rfl⟩ rfl ?_
                  refine q_goto ja_Machine_run_213 ?_
                  exact (k27 h4 h8 h9 h17 h18 h19 h20 h21 h22 h23 h24 s7 e7)
                · intro h25
                  refine q_iconst (pc' := 93) ja_Machine_joined_92 rfl 1 (by decide) ?_
                  refine q_goto ja_Machine_joined_93 ?_
                  refine q_iret ja_Machine_joined_97 rfl rfl ?_
                  show q_W _ _ _ _ 209 [some (.ref 119), some (.ref x1), some (.int x2), some (.int (x3 + (-1))), some (.int x4), some (.int (s (x1 + 1) x4.toNatClampNeg))] [.int 1, .int ((x3 + (-1)) - 1), .ref 121] s
                  refine q_iast (pc' := 210) ja_Machine_run_209 rfl (by decide) (l := 200) rfl (k28 h4 h8 h9 h17 h18 h19 h20 h21 h22 h23 h25) ?_
                  intro s8 e8
                  refine q_iinc (pc' := 213) (ls' := [some (.ref 119), some (.ref x1), some (.int x2), some (.int (x3 + (-1))), some (.int (x4 + 1)), some (.int (s (x1 + 1) x4.toNatClampNeg))]) ja_Machine_run_210 rfl rfl (x4 + 1) rfl ⟨Nat.le_of_ble_eq_true rfl, rfl⟩ rfl ?_
                  refine q_goto ja_Machine_run_213 ?_
                  exact (k29 h4 h8 h9 h17 h18 h19 h20 h21 h22 h23 h25 s8 e8)
              by_cases h26 : (s (x1 + 1) x4.toNatClampNeg) = -12
              · refine q_swE (pc' := 76) ja_Machine_joined_1 (by rw [h26]; decide) (by rw [h26]; exact ⟨_, rfl, rfl⟩) ?_
                refine q_iload_n (pc' := 77) ja_Machine_joined_76 rfl rfl ?_
                refine q_iload_n (pc' := 78) ja_Machine_joined_77 rfl rfl ?_
                refine q_ic_ge (pc' := 81) ja_Machine_joined_78 rfl ?_ ?_
                · intro h27
                  refine q_iconst (pc' := 86) ja_Machine_joined_85 rfl 0 (by decide) ?_
                  refine q_iret ja_Machine_joined_86 rfl rfl ?_
                  show q_W _ _ _ _ 209 [some (.ref 119), some (.ref x1), some (.int x2), some (.int (x3 + (-1))), some (.int x4), some (.int (s (x1 + 1) x4.toNatClampNeg))] [.int 0, .int ((x3 + (-1)) - 1), .ref 121] s
                  refine q_iast (pc' := 210) ja_Machine_run_209 rfl (by decide) (l := 200) rfl (k30 h4 h8 h9 h17 h18 h19 h20 h21 h22 h23 h26 h27) ?_
                  intro s9 e9
                  refine q_iinc (pc' := 213) (ls' := [some (.ref 119), some (.ref x1), some (.int x2), some (.int (x3 + (-1))), some (.int (x4 + 1)), some (.int (s (x1 + 1) x4.toNatClampNeg))]) ja_Machine_run_210 rfl rfl (x4 + 1) rfl ⟨Nat.le_of_ble_eq_true rfl, rfl⟩ rfl ?_
                  refine q_goto ja_Machine_run_213 ?_
                  exact (k31 h4 h8 h9 h17 h18 h19 h20 h21 h22 h23 h26 h27 s9 e9)
                · intro h28
                  refine q_iconst (pc' := 82) ja_Machine_joined_81 rfl 1 (by decide) ?_
                  refine q_goto ja_Machine_joined_82 ?_
                  refine q_iret ja_Machine_joined_86 rfl rfl ?_
                  show q_W _ _ _ _ 209 [some (.ref 119), some (.ref x1), some (.int x2), some (.int (x3 + (-1))), some (.int x4), some (.int (s (x1 + 1) x4.toNatClampNeg))] [.int 1, .int ((x3 + (-1)) - 1), .ref 121] s
                  refine q_iast (pc' := 210) ja_Machine_run_209 rfl (by decide) (l := 200) rfl (k32 h4 h8 h9 h17 h18 h19 h20 h21 h22 h23 h26 h28) ?_
                  intro s10 e10
                  refine q_iinc (pc' := 213) (ls' := [some (.ref 119), some (.ref x1), some (.int x2), some (.int (x3 + (-1))), some (.int (x4 + 1)), some (.int (s (x1 + 1) x4.toNatClampNeg))]) ja_Machine_run_210 rfl rfl (x4 + 1) rfl ⟨Nat.le_of_ble_eq_true rfl, rfl⟩ rfl ?_
                  refine q_goto ja_Machine_run_213 ?_
                  exact (k33 h4 h8 h9 h17 h18 h19 h20 h21 h22 h23 h26 h28 s10 e10)
              by_cases h29 : (s (x1 + 1) x4.toNatClampNeg) = -10
              · refine q_swE (pc' := 62) ja_Machine_joined_1 (by rw [h29]; decide) (by rw [h29]; exact ⟨_, rfl, rfl⟩) ?_
                refine q_iload_n (pc' := 63) ja_Machine_joined_62 rfl rfl ?_
                refine q_if_eq (pc' := 66) ja_Machine_joined_63 rfl ?_ ?_
                · intro h30
                  refine q_iconst (pc' := 75) ja_Machine_joined_74 rfl 0 (by decide) ?_
                  refine q_iret ja_Machine_joined_75 rfl rfl ?_
                  show q_W _ _ _ _ 209 [some (.ref 119), some (.ref x1), some (.int x2), some (.int (x3 + (-1))), some (.int x4), some (.int (s (x1 + 1) x4.toNatClampNeg))] [.int 0, .int ((x3 + (-1)) - 1), .ref 121] s
                  refine q_iast (pc' := 210) ja_Machine_run_209 rfl (by decide) (l := 200) rfl (k34 h4 h8 h9 h17 h18 h19 h20 h21 h22 h23 h26 h29 h30) ?_
                  intro s11 e11
                  refine q_iinc (pc' := 213) (ls' := [some (.ref 119), some (.ref x1), some (.int x2), some (.int (x3 + (-1))), some (.int (x4 + 1)), some (.int (s (x1 + 1) x4.toNatClampNeg))]) ja_Machine_run_210 rfl rfl (x4 + 1) rfl ⟨Nat.le_of_ble_eq_true rfl, rfl⟩ rfl ?_
                  refine q_goto ja_Machine_run_213 ?_
                  exact (k35 h4 h8 h9 h17 h18 h19 h20 h21 h22 h23 h26 h29 h30 s11 e11)
                · intro h31
                  refine q_iload_n (pc' := 67) ja_Machine_joined_66 rfl rfl ?_
                  refine q_if_eq (pc' := 70) ja_Machine_joined_67 rfl ?_ ?_
                  · intro h32
                    refine q_iconst (pc' := 75) ja_Machine_joined_74 rfl 0 (by decide) ?_
                    refine q_iret ja_Machine_joined_75 rfl rfl ?_
                    show q_W _ _ _ _ 209 [some (.ref 119), some (.ref x1), some (.int x2), some (.int (x3 + (-1))), some (.int x4), some (.int (s (x1 + 1) x4.toNatClampNeg))] [.int 0, .int ((x3 + (-1)) - 1), .ref 121] s
                    refine q_iast (pc' := 210) ja_Machine_run_209 rfl (by decide) (l := 200) rfl (k36 h4 h8 h9 h17 h18 h19 h20 h21 h22 h23 h26 h29 h31 h32) ?_
                    intro s12 e12
                    refine q_iinc (pc' := 213) (ls' := [some (.ref 119), some (.ref x1), some (.int x2), some (.int (x3 + (-1))), some (.int (x4 + 1)), some (.int (s (x1 + 1) x4.toNatClampNeg))]) ja_Machine_run_210 rfl rfl (x4 + 1) rfl ⟨Nat.le_of_ble_eq_true rfl, rfl⟩ rfl ?_
                    refine q_goto ja_Machine_run_213 ?_
                    exact (k37 h4 h8 h9 h17 h18 h19 h20 h21 h22 h23 h26 h29 h31 h32 s12 e12)
                  · intro h33
                    refine q_iconst (pc' := 71) ja_Machine_joined_70 rfl 1 (by decide) ?_
                    refine q_goto ja_Machine_joined_71 ?_
                    refine q_iret ja_Machine_joined_75 rfl rfl ?_
                    show q_W _ _ _ _ 209 [some (.ref 119), some (.ref x1), some (.int x2), some (.int (x3 + (-1))), some (.int x4), some (.int (s (x1 + 1) x4.toNatClampNeg))] [.int 1, .int ((x3 + (-1)) - 1), .ref 121] s
                    refine q_iast (pc' := 210) ja_Machine_run_209 rfl (by decide) (l := 200) rfl (k38 h4 h8 h9 h17 h18 h19 h20 h21 h22 h23 h26 h29 h31 h33) ?_
                    intro s13 e13
                    refine q_iinc (pc' := 213) (ls' := [some (.ref 119), some (.ref x1), some (.int x2), some (.int (x3 + (-1))), some (.int (x4 + 1)), some (.int (s (x1 + 1) x4.toNatClampNeg))]) ja_Machine_run_210 rfl rfl (x4 + 1) rfl ⟨Nat.le_of_ble_eq_true rfl, rfl⟩ rfl ?_
                    refine q_goto ja_Machine_run_213 ?_
                    exact (k39 h4 h8 h9 h17 h18 h19 h20 h21 h22 h23 h26 h29 h31 h33 s13 e13)
              by_cases h34 : (s (x1 + 1) x4.toNatClampNeg) = -9
              · refine q_swE (pc' := 48) ja_Machine_joined_1 (by rw [h34]; decide) (by rw [h34]; exact ⟨_, rfl, rfl⟩) ?_
                refine q_iload_n (pc' := 49) ja_Machine_joined_48 rfl rfl ?_
                refine q_if_ne (pc' := 52) ja_Machine_joined_49 rfl ?_ ?_
                · intro h35
                  refine q_iconst (pc' := 57) ja_Machine_joined_56 rfl 1 (by decide) ?_
                  refine q_goto ja_Machine_joined_57 ?_
                  refine q_iret ja_Machine_joined_61 rfl rfl ?_
                  show q_W _ _ _ _ 209 [some (.ref 119), some (.ref x1), some (.int x2), some (.int (x3 + (-1))), some (.int x4), some (.int (s (x1 + 1) x4.toNatClampNeg))] [.int 1, .int ((x3 + (-1)) - 1), .ref 121] s
                  refine q_iast (pc' := 210) ja_Machine_run_209 rfl (by decide) (l := 200) rfl (k40 h4 h8 h9 h17 h18 h19 h20 h21 h22 h23 h26 h29 h34 h35) ?_
                  intro s14 e14
                  refine q_iinc (pc' := 213) (ls' := [some (.ref 119), some (.ref x1), some (.int x2), some (.int (x3 + (-1))), some (.int (x4 + 1)), some (.int (s (x1 + 1) x4.toNatClampNeg))]) ja_Machine_run_210 rfl rfl (x4 + 1) rfl ⟨Nat.le_of_ble_eq_true rfl, rfl⟩ rfl ?_
                  refine q_goto ja_Machine_run_213 ?_
                  exact (k41 h4 h8 h9 h17 h18 h19 h20 h21 h22 h23 h26 h29 h34 h35 s14 e14)
                · intro h36
                  refine q_iload_n (pc' := 53) ja_Machine_joined_52 rfl rfl ?_
                  refine q_if_eq (pc' := 56) ja_Machine_joined_53 rfl ?_ ?_
                  · intro h37
                    refine q_iconst (pc' := 61) ja_Machine_joined_60 rfl 0 (by decide) ?_
                    refine q_iret ja_Machine_joined_61 rfl rfl ?_
                    show q_W _ _ _ _ 209 [some (.ref 119), some (.ref x1), some (.int x2), some (.int (x3 + (-1))), some (.int x4), some (.int (s (x1 + 1) x4.toNatClampNeg))] [.int 0, .int ((x3 + (-1)) - 1), .ref 121] s
                    refine q_iast (pc' := 210) ja_Machine_run_209 rfl (by decide) (l := 200) rfl (k42 h4 h8 h9 h17 h18 h19 h20 h21 h22 h23 h26 h29 h34 h36 h37) ?_
                    intro s15 e15
                    refine q_iinc (pc' := 213) (ls' := [some (.ref 119), some (.ref x1), some (.int x2), some (.int (x3 + (-1))), some (.int (x4 + 1)), some (.int (s (x1 + 1) x4.toNatClampNeg))]) ja_Machine_run_210 rfl rfl (x4 + 1) rfl ⟨Nat.le_of_ble_eq_true rfl, rfl⟩ rfl ?_
                    refine q_goto ja_Machine_run_213 ?_
                    exact (k43 h4 h8 h9 h17 h18 h19 h20 h21 h22 h23 h26 h29 h34 h36 h37 s15 e15)
                  · intro h38
                    refine q_iconst (pc' := 57) ja_Machine_joined_56 rfl 1 (by decide) ?_
                    refine q_goto ja_Machine_joined_57 ?_
                    refine q_iret ja_Machine_joined_61 rfl rfl ?_
                    show q_W _ _ _ _ 209 [some (.ref 119), some (.ref x1), some (.int x2), some (.int (x3 + (-1))), some (.int x4), some (.int (s (x1 + 1) x4.toNatClampNeg))] [.int 1, .int ((x3 + (-1)) - 1), .ref 121] s
                    refine q_iast (pc' := 210) ja_Machine_run_209 rfl (by decide) (l := 200) rfl (k44 h4 h8 h9 h17 h18 h19 h20 h21 h22 h23 h26 h29 h34 h36 h38) ?_
                    intro s16 e16
                    refine q_iinc (pc' := 213) (ls' := [some (.ref 119), some (.ref x1), some (.int x2), some (.int (x3 + (-1))), some (.int (x4 + 1)), some (.int (s (x1 + 1) x4.toNatClampNeg))]) ja_Machine_run_210 rfl rfl (x4 + 1) rfl ⟨Nat.le_of_ble_eq_true rfl, rfl⟩ rfl ?_
                    refine q_goto ja_Machine_run_213 ?_
                    exact (k45 h4 h8 h9 h17 h18 h19 h20 h21 h22 h23 h26 h29 h34 h36 h38 s16 e16)
              refine q_swD (pc' := 110) ja_Machine_joined_1 [-16, -15, -14, -13, -12, -10, -9] (List.forall_mem_cons.mpr ⟨fun e => h20 (by rw [e]; decide), (List.forall_mem_cons.mpr ⟨fun e => h21 (by rw [e]; decide), (List.forall_mem_cons.mpr ⟨fun e => h22 (by rw [e]; decide), (List.forall_mem_cons.mpr ⟨fun e => h23 (by rw [e]; decide), (List.forall_mem_cons.mpr ⟨fun e => h26 (by rw [e]; decide), (List.forall_mem_cons.mpr ⟨fun e => h29 (by rw [e]; decide), (List.forall_mem_cons.mpr ⟨fun e => h34 (by rw [e]; decide), (List.forall_mem_nil _)⟩)⟩)⟩)⟩)⟩)⟩)⟩) (by decide) rfl ?_
              refine q_iconst (pc' := 111) ja_Machine_joined_110 rfl 0 (by decide) ?_
              refine q_iret ja_Machine_joined_111 rfl rfl ?_
              show q_W _ _ _ _ 209 [some (.ref 119), some (.ref x1), some (.int x2), some (.int (x3 + (-1))), some (.int x4), some (.int (s (x1 + 1) x4.toNatClampNeg))] [.int 0, .int ((x3 + (-1)) - 1), .ref 121] s
              refine q_iast (pc' := 210) ja_Machine_run_209 rfl (by decide) (l := 200) rfl (k46 h4 h8 h9 h17 h18 h19 h20 h21 h22 h23 h26 h29 h34) ?_
              intro s17 e17
              refine q_iinc (pc' := 213) (ls' := [some (.ref 119), some (.ref x1), some (.int x2), some (.int (x3 + (-1))), some (.int (x4 + 1)), some (.int (s (x1 + 1) x4.toNatClampNeg))]) ja_Machine_run_210 rfl rfl (x4 + 1) rfl ⟨Nat.le_of_ble_eq_true rfl, rfl⟩ rfl ?_
              refine q_goto ja_Machine_run_213 ?_
              exact (k47 h4 h8 h9 h17 h18 h19 h20 h21 h22 h23 h26 h29 h34 s17 e17)
            · intro h39
              refine q_iconst (pc' := 179) ja_Machine_run_178 rfl 0 (by decide) ?_
              exact q_iret ja_Machine_run_179 rfl rfl (k48 h4 h8 h9 h17 h18 h39)
          · intro h40
            refine q_iload_n (pc' := 121) ja_Machine_run_120 rfl rfl ?_
            refine q_iconst (pc' := 122) ja_Machine_run_121 rfl 1 (by decide) ?_
            refine q_ic_ge (pc' := 125) ja_Machine_run_122 rfl ?_ ?_
            · intro h41
              refine q_aload_n (pc' := 128) ja_Machine_run_127 rfl rfl ?_
              refine q_getf (pc' := 131) (v := .ref 121) ja_Machine_run_128 rfl (by decide) ⟨rfl, by decide⟩ rfl ?_
              refine q_iload_n (pc' := 132) ja_Machine_run_131 rfl rfl ?_
              refine q_iconst (pc' := 133) ja_Machine_run_132 rfl 1 (by decide) ?_
              refine q_isub (pc' := 134) ja_Machine_run_133 rfl ?_
              refine q_iload (pc' := 136) ja_Machine_run_134 rfl rfl ?_
              refine q_bipush (pc' := 138) ja_Machine_run_136 rfl (-17) (by decide) ?_
              refine q_ic_ne (pc' := 141) ja_Machine_run_138 rfl (fun h => absurd (h40) h) (fun _ => ?_)
              refine q_aload_n (pc' := 142) ja_Machine_run_141 rfl rfl ?_
              refine q_getf (pc' := 145) (v := .ref 121) ja_Machine_run_142 rfl (by decide) ⟨rfl, by decide⟩ rfl ?_
              refine q_iload_n (pc' := 146) ja_Machine_run_145 rfl rfl ?_
              refine q_iconst (pc' := 147) ja_Machine_run_146 rfl 1 (by decide) ?_
              refine q_isub (pc' := 148) ja_Machine_run_147 rfl ?_
              refine q_iald (pc' := 149) (v := .int (s 121 (x3 - 1).toNatClampNeg)) ja_Machine_run_148 rfl (by decide) (l := 200) rfl (k49 h4 h8 h9 h17 h40 h41) rfl ?_
              refine q_ineg (pc' := 150) ja_Machine_run_149 rfl ?_
              refine q_goto ja_Machine_run_150 ?_
              refine q_iast (pc' := 170) ja_Machine_run_169 rfl (by decide) (l := 200) rfl (k50 h4 h8 h9 h17 h40 h41) ?_
              intro s18 e18
              refine q_goto ja_Machine_run_170 ?_
              refine q_iinc (pc' := 213) (ls' := [some (.ref 119), some (.ref x1), some (.int x2), some (.int x3), some (.int (x4 + 1)), some (.int (s (x1 + 1) x4.toNatClampNeg))]) ja_Machine_run_210 rfl rfl (x4 + 1) rfl ⟨Nat.le_of_ble_eq_true rfl, rfl⟩ rfl ?_
              refine q_goto ja_Machine_run_213 ?_
              exact (k51 h4 h8 h9 h17 h40 h41 s18 e18)
            · intro h42
              refine q_iconst (pc' := 126) ja_Machine_run_125 rfl 0 (by decide) ?_
              exact q_iret ja_Machine_run_126 rfl rfl (k52 h4 h8 h9 h17 h40 h42)
      · intro h43
        refine q_iload_n (pc' := 65) ja_Machine_run_64 rfl rfl ?_
        refine q_aload_n (pc' := 66) ja_Machine_run_65 rfl rfl ?_
        refine q_getf (pc' := 69) (v := .ref 121) ja_Machine_run_66 rfl (by decide) ⟨rfl, by decide⟩ rfl ?_
        refine q_alen (pc' := 70) ja_Machine_run_69 rfl (by decide) (kd := 13) (l := 200) rfl (by decide) (v := 200) (by decide) ?_
        refine q_ic_lt (pc' := 73) ja_Machine_run_70 rfl ?_ ?_
        · intro h44
          refine q_aload_n (pc' := 76) ja_Machine_run_75 rfl rfl ?_
          refine q_getf (pc' := 79) (v := .ref 121) ja_Machine_run_76 rfl (by decide) ⟨rfl, by decide⟩ rfl ?_
          refine q_iload_n (pc' := 80) ja_Machine_run_79 rfl rfl ?_
          refine q_iload (pc' := 82) ja_Machine_run_80 rfl rfl ?_
          refine q_if_lt (pc' := 85) ja_Machine_run_82 rfl ?_ ?_
          · intro h45
            refine q_aload_n (pc' := 91) ja_Machine_run_90 rfl rfl ?_
            refine q_getf (pc' := 94) (v := .ref 120) ja_Machine_run_91 rfl (by decide) ⟨rfl, by decide⟩ rfl ?_
            refine q_iconst (pc' := 95) ja_Machine_run_94 rfl (-1) (by decide) ?_
            refine q_iload (pc' := 97) ja_Machine_run_95 rfl rfl ?_
            refine q_isub (pc' := 98) ja_Machine_run_97 rfl ?_
            refine q_iald (pc' := 99) (v := .int (s 120 ((-1) - (s (x1 + 1) x4.toNatClampNeg)).toNatClampNeg)) ja_Machine_run_98 rfl (by decide) (l := 8) rfl (k53 h4 h8 h43 h44 h45) rfl ?_
            refine q_iast (pc' := 100) ja_Machine_run_99 rfl (by decide) (l := 200) rfl (k54 h4 h8 h43 h44 h45) ?_
            intro s19 e19
            refine q_iinc (pc' := 103) (ls' := [some (.ref 119), some (.ref x1), some (.int x2), some (.int (x3 + 1)), some (.int x4), some (.int (s (x1 + 1) x4.toNatClampNeg))]) ja_Machine_run_100 rfl rfl (x3 + 1) rfl ⟨Nat.le_of_ble_eq_true rfl, rfl⟩ rfl ?_
            refine q_goto ja_Machine_run_103 ?_
            refine q_iinc (pc' := 213) (ls' := [some (.ref 119), some (.ref x1), some (.int x2), some (.int (x3 + 1)), some (.int (x4 + 1)), some (.int (s (x1 + 1) x4.toNatClampNeg))]) ja_Machine_run_210 rfl rfl (x4 + 1) rfl ⟨Nat.le_of_ble_eq_true rfl, rfl⟩ rfl ?_
            refine q_goto ja_Machine_run_213 ?_
            exact (k55 h4 h8 h43 h44 h45 s19 e19)
          · intro h46
            refine q_iload (pc' := 87) ja_Machine_run_85 rfl rfl ?_
            refine q_goto ja_Machine_run_87 ?_
            refine q_iast (pc' := 100) ja_Machine_run_99 rfl (by decide) (l := 200) rfl (k56 h4 h8 h43 h44 h46) ?_
            intro s20 e20
            refine q_iinc (pc' := 103) (ls' := [some (.ref 119), some (.ref x1), some (.int x2), some (.int (x3 + 1)), some (.int x4), some (.int (s (x1 + 1) x4.toNatClampNeg))]) ja_Machine_run_100 rfl rfl (x3 + 1) rfl ⟨Nat.le_of_ble_eq_true rfl, rfl⟩ rfl ?_
            refine q_goto ja_Machine_run_103 ?_
            refine q_iinc (pc' := 213) (ls' := [some (.ref 119), some (.ref x1), some (.int x2), some (.int (x3 + 1)), some (.int (x4 + 1)), some (.int (s (x1 + 1) x4.toNatClampNeg))]) ja_Machine_run_210 rfl rfl (x4 + 1) rfl ⟨Nat.le_of_ble_eq_true rfl, rfl⟩ rfl ?_
            refine q_goto ja_Machine_run_213 ?_
            exact (k57 h4 h8 h43 h44 h46 s20 e20)
        · intro h47
          refine q_iconst (pc' := 74) ja_Machine_run_73 rfl 0 (by decide) ?_
          exact q_iret ja_Machine_run_74 rfl rfl (k58 h4 h8 h43 h47)
set_option maxRecDepth 20000 in
theorem t_Machine_sets {G : jv_X} {d : Nat} {B : Option Value → jg_H → Prop} {s : jg_H} (a1 : Int32) (a2 : Int32) (a3 : Int32) (a4 : Int32) (a5 : Int32)
    (k1 : ∀ s1 : jg_H, s1 = jg_up s 120 0 a1 → ∀ s2 : jg_H, s2 = jg_up s1 120 1 a3 → ∀ s3 : jg_H, s3 = jg_up s2 120 3 a2 → ∀ s4 : jg_H, s4 = jg_up s3 120 6 a4 → ∀ s5 : jg_H, s5 = jg_up s4 120 7 a5 → B none s5) :
    q_P G (d + 1) 74 [.ref 119, .int a1, .int a2, .int a3, .int a4, .int a5] s B := by
  refine q_in (M := jm_Machine_sets) rfl (Nat.le_of_ble_eq_true rfl) (ls := [some (.ref 119), some (.int a1), some (.int a2), some (.int a3), some (.int a4), some (.int a5)]) rfl ?_
  refine q_aload_n (pc' := 1) ja_Machine_sets_0 rfl rfl ?_
  refine q_getf (pc' := 4) (v := .ref 120) ja_Machine_sets_1 rfl (by decide) ⟨rfl, by decide⟩ rfl ?_
  refine q_iconst (pc' := 5) ja_Machine_sets_4 rfl 0 (by decide) ?_
  refine q_iload_n (pc' := 6) ja_Machine_sets_5 rfl rfl ?_
  refine q_iast (pc' := 7) ja_Machine_sets_6 rfl (by decide) (l := 8) rfl (by decide) ?_
  intro s1 e1
  refine q_aload_n (pc' := 8) ja_Machine_sets_7 rfl rfl ?_
  refine q_getf (pc' := 11) (v := .ref 120) ja_Machine_sets_8 rfl (by decide) ⟨rfl, by decide⟩ rfl ?_
  refine q_iconst (pc' := 12) ja_Machine_sets_11 rfl 1 (by decide) ?_
  refine q_iload_n (pc' := 13) ja_Machine_sets_12 rfl rfl ?_
  refine q_iast (pc' := 14) ja_Machine_sets_13 rfl (by decide) (l := 8) rfl (by decide) ?_
  intro s2 e2
  refine q_aload_n (pc' := 15) ja_Machine_sets_14 rfl rfl ?_
  refine q_getf (pc' := 18) (v := .ref 120) ja_Machine_sets_15 rfl (by decide) ⟨rfl, by decide⟩ rfl ?_
  refine q_iconst (pc' := 19) ja_Machine_sets_18 rfl 3 (by decide) ?_
  refine q_iload_n (pc' := 20) ja_Machine_sets_19 rfl rfl ?_
  refine q_iast (pc' := 21) ja_Machine_sets_20 rfl (by decide) (l := 8) rfl (by decide) ?_
  intro s3 e3
  refine q_aload_n (pc' := 22) ja_Machine_sets_21 rfl rfl ?_
  refine q_getf (pc' := 25) (v := .ref 120) ja_Machine_sets_22 rfl (by decide) ⟨rfl, by decide⟩ rfl ?_
  refine q_bipush (pc' := 27) ja_Machine_sets_25 rfl 6 (by decide) ?_
  refine q_iload (pc' := 29) ja_Machine_sets_27 rfl rfl ?_
  refine q_iast (pc' := 30) ja_Machine_sets_29 rfl (by decide) (l := 8) rfl (by decide) ?_
  intro s4 e4
  refine q_aload_n (pc' := 31) ja_Machine_sets_30 rfl rfl ?_
  refine q_getf (pc' := 34) (v := .ref 120) ja_Machine_sets_31 rfl (by decide) ⟨rfl, by decide⟩ rfl ?_
  refine q_bipush (pc' := 36) ja_Machine_sets_34 rfl 7 (by decide) ?_
  refine q_iload (pc' := 38) ja_Machine_sets_36 rfl rfl ?_
  refine q_iast (pc' := 39) ja_Machine_sets_38 rfl (by decide) (l := 8) rfl (by decide) ?_
  intro s5 e5
  exact q_vret ja_Machine_sets_39 rfl (k1 s1 e1 s2 e2 s3 e3 s4 e4 s5 e5)
set_option maxRecDepth 20000 in
theorem t_Machine_setsHouse {G : jv_X} {d : Nat} {B : Option Value → jg_H → Prop} {s : jg_H} (a1 : Int32) (a2 : Int32) (a3 : Int32)
    (k1 : ∀ s1 : jg_H, s1 = jg_up s 120 2 a1 → ∀ s2 : jg_H, s2 = jg_up s1 120 4 a2 → ∀ s3 : jg_H, s3 = jg_up s2 120 5 a3 → B none s3) :
    q_P G (d + 1) 77 [.ref 119, .int a1, .int a2, .int a3] s B := by
  refine q_in (M := jm_Machine_setsHouse) rfl (Nat.le_of_ble_eq_true rfl) (ls := [some (.ref 119), some (.int a1), some (.int a2), some (.int a3)]) rfl ?_
  refine q_aload_n (pc' := 1) ja_Machine_setsHouse_0 rfl rfl ?_
  refine q_getf (pc' := 4) (v := .ref 120) ja_Machine_setsHouse_1 rfl (by decide) ⟨rfl, by decide⟩ rfl ?_
  refine q_iconst (pc' := 5) ja_Machine_setsHouse_4 rfl 2 (by decide) ?_
  refine q_iload_n (pc' := 6) ja_Machine_setsHouse_5 rfl rfl ?_
  refine q_iast (pc' := 7) ja_Machine_setsHouse_6 rfl (by decide) (l := 8) rfl (by decide) ?_
  intro s1 e1
  refine q_aload_n (pc' := 8) ja_Machine_setsHouse_7 rfl rfl ?_
  refine q_getf (pc' := 11) (v := .ref 120) ja_Machine_setsHouse_8 rfl (by decide) ⟨rfl, by decide⟩ rfl ?_
  refine q_iconst (pc' := 12) ja_Machine_setsHouse_11 rfl 4 (by decide) ?_
  refine q_iload_n (pc' := 13) ja_Machine_setsHouse_12 rfl rfl ?_
  refine q_iast (pc' := 14) ja_Machine_setsHouse_13 rfl (by decide) (l := 8) rfl (by decide) ?_
  intro s2 e2
  refine q_aload_n (pc' := 15) ja_Machine_setsHouse_14 rfl rfl ?_
  refine q_getf (pc' := 18) (v := .ref 120) ja_Machine_setsHouse_15 rfl (by decide) ⟨rfl, by decide⟩ rfl ?_
  refine q_iconst (pc' := 19) ja_Machine_setsHouse_18 rfl 5 (by decide) ?_
  refine q_iload_n (pc' := 20) ja_Machine_setsHouse_19 rfl rfl ?_
  refine q_iast (pc' := 21) ja_Machine_setsHouse_20 rfl (by decide) (l := 8) rfl (by decide) ?_
  intro s3 e3
  exact q_vret ja_Machine_setsHouse_21 rfl (k1 s1 e1 s2 e2 s3 e3)
set_option maxRecDepth 20000 in
theorem t_Member_liking {G : jv_X} {d : Nat} {B : Option Value → jg_H → Prop} {s : jg_H} {c0 : Nat} (hc0 : f_5 c0) (a1 : Int32)
    (k1 : a1 < 0 → B (some (.int 0)) s)
    (k2 : ¬ a1 < 0 → ¬ a1 < 61 → B (some (.int 0)) s)
    (k3 : ¬ a1 < 0 → a1 < 61 → B (some (.int (s (c0 + 1) a1.toNatClampNeg))) s) :
    q_P G (d + 1) 44 [.ref c0, .int a1] s B := by
  refine q_in (M := jm_Member_liking) rfl (Nat.le_of_ble_eq_true rfl) (ls := [some (.ref c0), some (.int a1)]) rfl ?_
  refine q_iload_n (pc' := 1) ja_Member_liking_0 rfl rfl ?_
  refine q_if_lt (pc' := 4) ja_Member_liking_1 rfl ?_ ?_
  · intro h1
    refine q_iconst (pc' := 23) ja_Member_liking_22 rfl 0 (by decide) ?_
    exact q_iret ja_Member_liking_23 rfl rfl (k1 h1)
  · intro h2
    refine q_iload_n (pc' := 5) ja_Member_liking_4 rfl rfl ?_
    refine q_aload_n (pc' := 6) ja_Member_liking_5 rfl rfl ?_
    refine q_getf (pc' := 9) (v := .ref (c0 + 1)) ja_Member_liking_6 rfl (f_5_c hc0) ⟨by rw [f_5_k hc0], by decide⟩ (f_5_g4 hc0) ?_
    refine q_alen (pc' := 10) ja_Member_liking_9 rfl (f_a_c (f_5_s4 hc0)) (kd := 13) (l := 61) (f_a_k (f_5_s4 hc0)) (by decide) (v := 61) (by decide) ?_
    refine q_ic_ge (pc' := 13) ja_Member_liking_10 rfl ?_ ?_
    · intro h3
      refine q_iconst (pc' := 23) ja_Member_liking_22 rfl 0 (by decide) ?_
      exact q_iret ja_Member_liking_23 rfl rfl (k2 h2 h3)
    · intro h4
      refine q_aload_n (pc' := 14) ja_Member_liking_13 rfl rfl ?_
      refine q_getf (pc' := 17) (v := .ref (c0 + 1)) ja_Member_liking_14 rfl (f_5_c hc0) ⟨by rw [f_5_k hc0], by decide⟩ (f_5_g4 hc0) ?_
      refine q_iload_n (pc' := 18) ja_Member_liking_17 rfl rfl ?_
      refine q_iald (pc' := 19) (v := .int (s (c0 + 1) a1.toNatClampNeg)) ja_Member_liking_18 rfl (f_a_c (f_5_s4 hc0)) (l := 61) (f_a_k (f_5_s4 hc0)) (q_inr (l := 61) (by decide) h2 h4) (f_i (f_a_k (f_5_s4 hc0)) rfl) ?_
      refine q_goto ja_Member_liking_19 ?_
      exact q_iret ja_Member_liking_23 rfl rfl (k3 h2 h4)
set_option maxRecDepth 20000 in
theorem t_Member_setLiking {G : jv_X} {d : Nat} {B : Option Value → jg_H → Prop} {s : jg_H} {c0 : Nat} (hc0 : f_5 c0) (a1 : Int32) (a2 : Int32)
    (k1 : a1 < 0 → B (some (.int 0)) s)
    (k2 : ¬ a1 < 0 → ¬ a1 < 61 → B (some (.int 0)) s)
    (k3 : ¬ a1 < 0 → a1 < 61 → ∀ s1 : jg_H, s1 = jg_up s (c0 + 1) a1.toNatClampNeg a2 → B (some (.int (s (c0 + 1) a1.toNatClampNeg))) s1) :
    q_P G (d + 2) 43 [.ref c0, .int a1, .int a2] s B := by
  refine q_in (M := jm_Member_setLiking) rfl (Nat.le_of_ble_eq_true rfl) (ls := [some (.ref c0), some (.int a1), some (.int a2), none]) rfl ?_
  refine q_aload_n (pc' := 1) ja_Member_setLiking_0 rfl rfl ?_
  refine q_iload_n (pc' := 2) ja_Member_setLiking_1 rfl rfl ?_
  refine q_virt (pc' := 5) (c := c0) (as := [.int a1]) (r := []) ja_Member_setLiking_2 rfl rfl rfl (f_5_c hc0) ⟨by rw [f_5_k hc0], by decide⟩ ?_
  refine q_in (M := jm_Member_liking) rfl (Nat.le_of_ble_eq_true rfl) (ls := [some (.ref c0), some (.int a1)]) rfl ?_
  refine q_iload_n (pc' := 1) ja_Member_liking_0 rfl rfl ?_
  refine q_if_lt (pc' := 4) ja_Member_liking_1 rfl ?_ ?_
  · intro h1
    refine q_iconst (pc' := 23) ja_Member_liking_22 rfl 0 (by decide) ?_
    refine q_iret ja_Member_liking_23 rfl rfl ?_
    show q_W _ _ _ _ 5 [some (.ref c0), some (.int a1), some (.int a2), none] [.int 0] s
    refine q_istore_n (pc' := 6) (ls' := [some (.ref c0), some (.int a1), some (.int a2), some (.int 0)]) ja_Member_setLiking_5 rfl ⟨Nat.le_of_ble_eq_true rfl, rfl⟩ rfl ?_
    refine q_iload_n (pc' := 7) ja_Member_setLiking_6 rfl rfl ?_
    refine q_if_lt (pc' := 10) ja_Member_setLiking_7 rfl (fun _ => ?_) (fun h => absurd (h1) h)
    refine q_iload_n (pc' := 27) ja_Member_setLiking_26 rfl rfl ?_
    exact q_iret ja_Member_setLiking_27 rfl rfl (k1 h1)
  · intro h2
    refine q_iload_n (pc' := 5) ja_Member_liking_4 rfl rfl ?_
    refine q_aload_n (pc' := 6) ja_Member_liking_5 rfl rfl ?_
    refine q_getf (pc' := 9) (v := .ref (c0 + 1)) ja_Member_liking_6 rfl (f_5_c hc0) ⟨by rw [f_5_k hc0], by decide⟩ (f_5_g4 hc0) ?_
    refine q_alen (pc' := 10) ja_Member_liking_9 rfl (f_a_c (f_5_s4 hc0)) (kd := 13) (l := 61) (f_a_k (f_5_s4 hc0)) (by decide) (v := 61) (by decide) ?_
    refine q_ic_ge (pc' := 13) ja_Member_liking_10 rfl ?_ ?_
    · intro h3
      refine q_iconst (pc' := 23) ja_Member_liking_22 rfl 0 (by decide) ?_
      refine q_iret ja_Member_liking_23 rfl rfl ?_
      show q_W _ _ _ _ 5 [some (.ref c0), some (.int a1), some (.int a2), none] [.int 0] s
      refine q_istore_n (pc' := 6) (ls' := [some (.ref c0), some (.int a1), some (.int a2), some (.int 0)]) ja_Member_setLiking_5 rfl ⟨Nat.le_of_ble_eq_true rfl, rfl⟩ rfl ?_
      refine q_iload_n (pc' := 7) ja_Member_setLiking_6 rfl rfl ?_
      refine q_if_lt (pc' := 10) ja_Member_setLiking_7 rfl (fun h => absurd h (h2)) (fun _ => ?_)
      refine q_iload_n (pc' := 11) ja_Member_setLiking_10 rfl rfl ?_
      refine q_aload_n (pc' := 12) ja_Member_setLiking_11 rfl rfl ?_
      refine q_getf (pc' := 15) (v := .ref (c0 + 1)) ja_Member_setLiking_12 rfl (f_5_c hc0) ⟨by rw [f_5_k hc0], by decide⟩ (f_5_g4 hc0) ?_
      refine q_alen (pc' := 16) ja_Member_setLiking_15 rfl (f_a_c (f_5_s4 hc0)) (kd := 13) (l := 61) (f_a_k (f_5_s4 hc0)) (by decide) (v := 61) (by decide) ?_
      refine q_ic_ge (pc' := 19) ja_Member_setLiking_16 rfl (fun _ => ?_) (fun h => absurd h (h3))
      refine q_iload_n (pc' := 27) ja_Member_setLiking_26 rfl rfl ?_
      exact q_iret ja_Member_setLiking_27 rfl rfl (k2 h2 h3)
    · intro h4
      refine q_aload_n (pc' := 14) ja_Member_liking_13 rfl rfl ?_
      refine q_getf (pc' := 17) (v := .ref (c0 + 1)) ja_Member_liking_14 rfl (f_5_c hc0) ⟨by rw [f_5_k hc0], by decide⟩ (f_5_g4 hc0) ?_
      refine q_iload_n (pc' := 18) ja_Member_liking_17 rfl rfl ?_
      refine q_iald (pc' := 19) (v := .int (s (c0 + 1) a1.toNatClampNeg)) ja_Member_liking_18 rfl (f_a_c (f_5_s4 hc0)) (l := 61) (f_a_k (f_5_s4 hc0)) (q_inr (l := 61) (by decide) h2 h4) (f_i (f_a_k (f_5_s4 hc0)) rfl) ?_
      refine q_goto ja_Member_liking_19 ?_
      refine q_iret ja_Member_liking_23 rfl rfl ?_
      show q_W _ _ _ _ 5 [some (.ref c0), some (.int a1), some (.int a2), none] [.int (s (c0 + 1) a1.toNatClampNeg)] s
      refine q_istore_n (pc' := 6) (ls' := [some (.ref c0), some (.int a1), some (.int a2), some (.int (s (c0 + 1) a1.toNatClampNeg))]) ja_Member_setLiking_5 rfl ⟨Nat.le_of_ble_eq_true rfl, rfl⟩ rfl ?_
      refine q_iload_n (pc' := 7) ja_Member_setLiking_6 rfl rfl ?_
      refine q_if_lt (pc' := 10) ja_Member_setLiking_7 rfl (fun h => absurd h (h2)) (fun _ => ?_)
      refine q_iload_n (pc' := 11) ja_Member_setLiking_10 rfl rfl ?_
      refine q_aload_n (pc' := 12) ja_Member_setLiking_11 rfl rfl ?_
      refine q_getf (pc' := 15) (v := .ref (c0 + 1)) ja_Member_setLiking_12 rfl (f_5_c hc0) ⟨by rw [f_5_k hc0], by decide⟩ (f_5_g4 hc0) ?_
      refine q_alen (pc' := 16) ja_Member_setLiking_15 rfl (f_a_c (f_5_s4 hc0)) (kd := 13) (l := 61) (f_a_k (f_5_s4 hc0)) (by decide) (v := 61) (by decide) ?_
      refine q_ic_ge (pc' := 19) ja_Member_setLiking_16 rfl (fun h => absurd (h4) h) (fun _ => ?_)
      refine q_aload_n (pc' := 20) ja_Member_setLiking_19 rfl rfl ?_
      refine q_getf (pc' := 23) (v := .ref (c0 + 1)) ja_Member_setLiking_20 rfl (f_5_c hc0) ⟨by rw [f_5_k hc0], by decide⟩ (f_5_g4 hc0) ?_
      refine q_iload_n (pc' := 24) ja_Member_setLiking_23 rfl rfl ?_
      refine q_iload_n (pc' := 25) ja_Member_setLiking_24 rfl rfl ?_
      refine q_iast (pc' := 26) ja_Member_setLiking_25 rfl (f_a_c (f_5_s4 hc0)) (l := 61) (f_a_k (f_5_s4 hc0)) (q_inr (l := 61) (by decide) h2 h4) ?_
      intro s1 e1
      refine q_iload_n (pc' := 27) ja_Member_setLiking_26 rfl rfl ?_
      exact q_iret ja_Member_setLiking_27 rfl rfl (k3 h2 h4 s1 e1)
set_option maxRecDepth 20000 in
theorem t_Motions_has {G : jv_X} {d : Nat} {B : Option Value → jg_H → Prop} {s : jg_H} {c0 Lc0 : Nat} (hc0 : f_6 c0 Lc0) (a1 : Int32)
    (k1 : a1 < 0 → B (some (.int 0)) s)
    (k2 : ¬ a1 < 0 → ¬ a1 < (s c0 0) → B (some (.int 0)) s)
    (k3 : ¬ a1 < 0 → a1 < (s c0 0) → ¬ a1 < (s c0 1) → B (some (.int 0)) s)
    (k4 : ¬ a1 < 0 → a1 < (s c0 0) → a1 < (s c0 1) → B (some (.int 1)) s) :
    q_P G (d + 1) 86 [.ref c0, .int a1] s B := by
  refine q_in (M := jm_Motions_has) rfl (Nat.le_of_ble_eq_true rfl) (ls := [some (.ref c0), some (.int a1)]) rfl ?_
  refine q_iload_n (pc' := 1) ja_Motions_has_0 rfl rfl ?_
  refine q_if_lt (pc' := 4) ja_Motions_has_1 rfl ?_ ?_
  · intro h1
    refine q_iconst (pc' := 25) ja_Motions_has_24 rfl 0 (by decide) ?_
    exact q_iret ja_Motions_has_25 rfl (by decide) (k1 h1)
  · intro h2
    refine q_iload_n (pc' := 5) ja_Motions_has_4 rfl rfl ?_
    refine q_aload_n (pc' := 6) ja_Motions_has_5 rfl rfl ?_
    refine q_getf (pc' := 9) (v := .int (s c0 0)) ja_Motions_has_6 rfl (f_6_c hc0) ⟨by rw [f_6_k hc0], by decide⟩ (f_i (f_6_k hc0) rfl) ?_
    refine q_ic_ge (pc' := 12) ja_Motions_has_9 rfl ?_ ?_
    · intro h3
      refine q_iconst (pc' := 25) ja_Motions_has_24 rfl 0 (by decide) ?_
      exact q_iret ja_Motions_has_25 rfl (by decide) (k2 h2 h3)
    · intro h4
      refine q_iload_n (pc' := 13) ja_Motions_has_12 rfl rfl ?_
      refine q_aload_n (pc' := 14) ja_Motions_has_13 rfl rfl ?_
      refine q_getf (pc' := 17) (v := .int (s c0 1)) ja_Motions_has_14 rfl (f_6_c hc0) ⟨by rw [f_6_k hc0], by decide⟩ (f_i (f_6_k hc0) rfl) ?_
      refine q_ic_ge (pc' := 20) ja_Motions_has_17 rfl ?_ ?_
      · intro h5
        refine q_iconst (pc' := 25) ja_Motions_has_24 rfl 0 (by decide) ?_
        exact q_iret ja_Motions_has_25 rfl (by decide) (k3 h2 h4 h5)
      · intro h6
        refine q_iconst (pc' := 21) ja_Motions_has_20 rfl 1 (by decide) ?_
        refine q_goto ja_Motions_has_21 ?_
        exact q_iret ja_Motions_has_25 rfl (by decide) (k4 h2 h4 h6)
set_option maxRecDepth 20000 in
theorem t_Motions_isFull {G : jv_X} {d : Nat} {B : Option Value → jg_H → Prop} {s : jg_H} {c0 Lc0 : Nat} (hc0 : f_6 c0 Lc0)
    (k1 : (s c0 0) < (s c0 1) → B (some (.int 0)) s)
    (k2 : ¬ (s c0 0) < (s c0 1) → B (some (.int 1)) s) :
    q_P G (d + 1) 89 [.ref c0] s B := by
  refine q_in (M := jm_Motions_isFull) rfl (Nat.le_of_ble_eq_true rfl) (ls := [some (.ref c0)]) rfl ?_
  refine q_aload_n (pc' := 1) ja_Motions_isFull_0 rfl rfl ?_
  refine q_getf (pc' := 4) (v := .int (s c0 0)) ja_Motions_isFull_1 rfl (f_6_c hc0) ⟨by rw [f_6_k hc0], by decide⟩ (f_i (f_6_k hc0) rfl) ?_
  refine q_aload_n (pc' := 5) ja_Motions_isFull_4 rfl rfl ?_
  refine q_getf (pc' := 8) (v := .int (s c0 1)) ja_Motions_isFull_5 rfl (f_6_c hc0) ⟨by rw [f_6_k hc0], by decide⟩ (f_i (f_6_k hc0) rfl) ?_
  refine q_ic_lt (pc' := 11) ja_Motions_isFull_8 rfl ?_ ?_
  · intro h1
    refine q_iconst (pc' := 16) ja_Motions_isFull_15 rfl 0 (by decide) ?_
    exact q_iret ja_Motions_isFull_16 rfl (by decide) (k1 h1)
  · intro h2
    refine q_iconst (pc' := 12) ja_Motions_isFull_11 rfl 1 (by decide) ?_
    refine q_goto ja_Motions_isFull_12 ?_
    exact q_iret ja_Motions_isFull_16 rfl (by decide) (k2 h2)
set_option maxRecDepth 20000 in
theorem t_Motions_push {G : jv_X} {d : Nat} {B : Option Value → jg_H → Prop} {s : jg_H} {c0 Lc0 : Nat} (hc0 : f_6 c0 Lc0) (a1 : Int32) (a2 : Int32) (a3 : Int32) (a4 : Int32)
    (k1 : (s c0 0) < 0 → B none s)
    (k2 : ¬ (s c0 0) < 0 → (s c0 0) < (s c0 1) → jv_in (s c0 0) Lc0 = true)
    (k3 : ¬ (s c0 0) < 0 → (s c0 0) < (s c0 1) → ∀ s1 : jg_H, s1 = jg_up s (c0 + 1) (s c0 0).toNatClampNeg a1 → jv_in (s1 c0 0) Lc0 = true)
    (k4 : ¬ (s c0 0) < 0 → (s c0 0) < (s c0 1) → ∀ s1 : jg_H, s1 = jg_up s (c0 + 1) (s c0 0).toNatClampNeg a1 → ∀ s2 : jg_H, s2 = jg_up s1 (c0 + 2) (s1 c0 0).toNatClampNeg a2 → jv_in (s2 c0 0) Lc0 = true)
    (k5 : ¬ (s c0 0) < 0 → (s c0 0) < (s c0 1) → ∀ s1 : jg_H, s1 = jg_up s (c0 + 1) (s c0 0).toNatClampNeg a1 → ∀ s2 : jg_H, s2 = jg_up s1 (c0 + 2) (s1 c0 0).toNatClampNeg a2 → ∀ s3 : jg_H, s3 = jg_up s2 (c0 + 3) (s2 c0 0).toNatClampNeg a3 → jv_in (s3 c0 0) Lc0 = true)
    (k6 : ¬ (s c0 0) < 0 → (s c0 0) < (s c0 1) → ∀ s1 : jg_H, s1 = jg_up s (c0 + 1) (s c0 0).toNatClampNeg a1 → ∀ s2 : jg_H, s2 = jg_up s1 (c0 + 2) (s1 c0 0).toNatClampNeg a2 → ∀ s3 : jg_H, s3 = jg_up s2 (c0 + 3) (s2 c0 0).toNatClampNeg a3 → ∀ s4 : jg_H, s4 = jg_up s3 (c0 + 4) (s3 c0 0).toNatClampNeg a4 → ∀ s5 : jg_H, s5 = jg_up s4 c0 0 ((s4 c0 0) + 1) → B none s5)
    (k7 : ¬ (s c0 0) < 0 → ¬ (s c0 0) < (s c0 1) → B none s) :
    q_P G (d + 2) 90 [.ref c0, .int a1, .int a2, .int a3, .int a4] s B := by
  refine q_in (M := jm_Motions_push) rfl (Nat.le_of_ble_eq_true rfl) (ls := [some (.ref c0), some (.int a1), some (.int a2), some (.int a3), some (.int a4)]) rfl ?_
  refine q_aload_n (pc' := 1) ja_Motions_push_0 rfl rfl ?_
  refine q_getf (pc' := 4) (v := .int (s c0 0)) ja_Motions_push_1 rfl (f_6_c hc0) ⟨by rw [f_6_k hc0], by decide⟩ (f_i (f_6_k hc0) rfl) ?_
  refine q_if_lt (pc' := 7) ja_Motions_push_4 rfl ?_ ?_
  · intro h1
    exact q_vret ja_Motions_push_14 rfl (k1 h1)
  · intro h2
    refine q_aload_n (pc' := 8) ja_Motions_push_7 rfl rfl ?_
    refine q_virt (pc' := 11) (c := c0) (as := []) (r := []) ja_Motions_push_8 rfl rfl rfl (f_6_c hc0) ⟨by rw [f_6_k hc0], by decide⟩ ?_
    refine q_in (M := jm_Motions_isFull) rfl (Nat.le_of_ble_eq_true rfl) (ls := [some (.ref c0)]) rfl ?_
    refine q_aload_n (pc' := 1) ja_Motions_isFull_0 rfl rfl ?_
    refine q_getf (pc' := 4) (v := .int (s c0 0)) ja_Motions_isFull_1 rfl (f_6_c hc0) ⟨by rw [f_6_k hc0], by decide⟩ (f_i (f_6_k hc0) rfl) ?_
    refine q_aload_n (pc' := 5) ja_Motions_isFull_4 rfl rfl ?_
    refine q_getf (pc' := 8) (v := .int (s c0 1)) ja_Motions_isFull_5 rfl (f_6_c hc0) ⟨by rw [f_6_k hc0], by decide⟩ (f_i (f_6_k hc0) rfl) ?_
    refine q_ic_lt (pc' := 11) ja_Motions_isFull_8 rfl ?_ ?_
    · intro h3
      refine q_iconst (pc' := 16) ja_Motions_isFull_15 rfl 0 (by decide) ?_
      refine q_iret ja_Motions_isFull_16 rfl (by decide) ?_
      show q_W _ _ _ _ 11 [some (.ref c0), some (.int a1), some (.int a2), some (.int a3), some (.int a4)] [.int 0] s
      refine q_if_eq (pc' := 14) ja_Motions_push_11 rfl (fun _ => ?_) (fun h => absurd ((by decide : (0 : Int32) = 0)) h)
      refine q_aload_n (pc' := 16) ja_Motions_push_15 rfl rfl ?_
      refine q_getf (pc' := 19) (v := .ref (c0 + 1)) ja_Motions_push_16 rfl (f_6_c hc0) ⟨by rw [f_6_k hc0], by decide⟩ (f_6_g2 hc0) ?_
      refine q_aload_n (pc' := 20) ja_Motions_push_19 rfl rfl ?_
      refine q_getf (pc' := 23) (v := .int (s c0 0)) ja_Motions_push_20 rfl (f_6_c hc0) ⟨by rw [f_6_k hc0], by decide⟩ (f_i (f_6_k hc0) rfl) ?_
      refine q_iload_n (pc' := 24) ja_Motions_push_23 rfl rfl ?_
      refine q_iast (pc' := 25) ja_Motions_push_24 rfl (f_a_c (f_6_s2 hc0)) (l := Lc0) (f_a_k (f_6_s2 hc0)) (k2 h2 h3) ?_
      intro s1 e1
      refine q_aload_n (pc' := 26) ja_Motions_push_25 rfl rfl ?_
      refine q_getf (pc' := 29) (v := .ref (c0 + 2)) ja_Motions_push_26 rfl (f_6_c hc0) ⟨by rw [f_6_k hc0], by decide⟩ (f_6_g3 hc0) ?_
      refine q_aload_n (pc' := 30) ja_Motions_push_29 rfl rfl ?_
      refine q_getf (pc' := 33) (v := .int (s1 c0 0)) ja_Motions_push_30 rfl (f_6_c hc0) ⟨by rw [f_6_k hc0], by decide⟩ (f_i (f_6_k hc0) rfl) ?_
      refine q_iload_n (pc' := 34) ja_Motions_push_33 rfl rfl ?_
      refine q_iast (pc' := 35) ja_Motions_push_34 rfl (f_a_c (f_6_s3 hc0)) (l := Lc0) (f_a_k (f_6_s3 hc0)) (k3 h2 h3 s1 e1) ?_
      intro s2 e2
      refine q_aload_n (pc' := 36) ja_Motions_push_35 rfl rfl ?_
      refine q_getf (pc' := 39) (v := .ref (c0 + 3)) ja_Motions_push_36 rfl (f_6_c hc0) ⟨by rw [f_6_k hc0], by decide⟩ (f_6_g4 hc0) ?_
      refine q_aload_n (pc' := 40) ja_Motions_push_39 rfl rfl ?_
      refine q_getf (pc' := 43) (v := .int (s2 c0 0)) ja_Motions_push_40 rfl (f_6_c hc0) ⟨by rw [f_6_k hc0], by decide⟩ (f_i (f_6_k hc0) rfl) ?_
      refine q_iload_n (pc' := 44) ja_Motions_push_43 rfl rfl ?_
      refine q_iast (pc' := 45) ja_Motions_push_44 rfl (f_a_c (f_6_s4 hc0)) (l := Lc0) (f_a_k (f_6_s4 hc0)) (k4 h2 h3 s1 e1 s2 e2) ?_
      intro s3 e3
      refine q_aload_n (pc' := 46) ja_Motions_push_45 rfl rfl ?_
      refine q_getf (pc' := 49) (v := .ref (c0 + 4)) ja_Motions_push_46 rfl (f_6_c hc0) ⟨by rw [f_6_k hc0], by decide⟩ (f_6_g5 hc0) ?_
      refine q_aload_n (pc' := 50) ja_Motions_push_49 rfl rfl ?_
      refine q_getf (pc' := 53) (v := .int (s3 c0 0)) ja_Motions_push_50 rfl (f_6_c hc0) ⟨by rw [f_6_k hc0], by decide⟩ (f_i (f_6_k hc0) rfl) ?_
      refine q_iload (pc' := 55) ja_Motions_push_53 rfl rfl ?_
      refine q_iast (pc' := 56) ja_Motions_push_55 rfl (f_a_c (f_6_s5 hc0)) (l := Lc0) (f_a_k (f_6_s5 hc0)) (k5 h2 h3 s1 e1 s2 e2 s3 e3) ?_
      intro s4 e4
      refine q_aload_n (pc' := 57) ja_Motions_push_56 rfl rfl ?_
      refine q_dup (pc' := 58) ja_Motions_push_57 rfl rfl ?_
      refine q_getf (pc' := 61) (v := .int (s4 c0 0)) ja_Motions_push_58 rfl (f_6_c hc0) ⟨by rw [f_6_k hc0], by decide⟩ (f_i (f_6_k hc0) rfl) ?_
      refine q_iconst (pc' := 62) ja_Motions_push_61 rfl 1 (by decide) ?_
      refine q_iadd (pc' := 63) ja_Motions_push_62 rfl ?_
      refine q_putf (pc' := 66) ja_Motions_push_63 rfl (f_6_c hc0) (by rw [f_6_k hc0]) rfl (by rw [f_6_k hc0]; rfl) ?_
      intro s5 e5
      exact q_vret ja_Motions_push_66 rfl (k6 h2 h3 s1 e1 s2 e2 s3 e3 s4 e4 s5 e5)
    · intro h4
      refine q_iconst (pc' := 12) ja_Motions_isFull_11 rfl 1 (by decide) ?_
      refine q_goto ja_Motions_isFull_12 ?_
      refine q_iret ja_Motions_isFull_16 rfl (by decide) ?_
      show q_W _ _ _ _ 11 [some (.ref c0), some (.int a1), some (.int a2), some (.int a3), some (.int a4)] [.int 1] s
      refine q_if_eq (pc' := 14) ja_Motions_push_11 rfl (fun h => absurd h ((by decide : ¬ (1 : Int32) = 0))) (fun _ => ?_)
      exact q_vret ja_Motions_push_14 rfl (k7 h2 h4)
set_option maxRecDepth 20000 in
theorem t_Reader_add {G : jv_X} {d : Nat} {B : Option Value → jg_H → Prop} {s : jg_H} (a1 : Int32)
    (k1 : (s 117 1) < 0 → B none s)
    (k2 : ¬ (s 117 1) < 0 → (s 117 1) < 200 → ∀ s1 : jg_H, s1 = jg_up s 118 (s 117 1).toNatClampNeg a1 → ∀ s2 : jg_H, s2 = jg_up s1 117 1 ((s1 117 1) + 1) → B none s2)
    (k3 : ¬ (s 117 1) < 0 → ¬ (s 117 1) < 200 → B none s) :
    q_P G (d + 1) 19 [.ref 117, .int a1] s B := by
  refine q_in (M := jm_Reader_add) rfl (Nat.le_of_ble_eq_true rfl) (ls := [some (.ref 117), some (.int a1)]) rfl ?_
  refine q_aload_n (pc' := 1) ja_Reader_add_0 rfl rfl ?_
  refine q_getf (pc' := 4) (v := .int (s 117 1)) ja_Reader_add_1 rfl (by decide) ⟨rfl, by decide⟩ rfl ?_
  refine q_if_lt (pc' := 7) ja_Reader_add_4 rfl ?_ ?_
  · intro h1
    exact q_vret ja_Reader_add_19 rfl (k1 h1)
  · intro h2
    refine q_aload_n (pc' := 8) ja_Reader_add_7 rfl rfl ?_
    refine q_getf (pc' := 11) (v := .int (s 117 1)) ja_Reader_add_8 rfl (by decide) ⟨rfl, by decide⟩ rfl ?_
    refine q_aload_n (pc' := 12) ja_Reader_add_11 rfl rfl ?_
    refine q_getf (pc' := 15) (v := .ref 118) ja_Reader_add_12 rfl (by decide) ⟨rfl, by decide⟩ rfl ?_
    refine q_alen (pc' := 16) ja_Reader_add_15 rfl (by decide) (kd := 13) (l := 200) rfl (by decide) (v := 200) (by decide) ?_
    refine q_ic_lt (pc' := 19) ja_Reader_add_16 rfl ?_ ?_
    · intro h3
      refine q_aload_n (pc' := 21) ja_Reader_add_20 rfl rfl ?_
      refine q_getf (pc' := 24) (v := .ref 118) ja_Reader_add_21 rfl (by decide) ⟨rfl, by decide⟩ rfl ?_
      refine q_aload_n (pc' := 25) ja_Reader_add_24 rfl rfl ?_
      refine q_getf (pc' := 28) (v := .int (s 117 1)) ja_Reader_add_25 rfl (by decide) ⟨rfl, by decide⟩ rfl ?_
      refine q_iload_n (pc' := 29) ja_Reader_add_28 rfl rfl ?_
      refine q_iast (pc' := 30) ja_Reader_add_29 rfl (by decide) (l := 200) rfl (q_inr (l := 200) (by decide) h2 h3) ?_
      intro s1 e1
      refine q_aload_n (pc' := 31) ja_Reader_add_30 rfl rfl ?_
      refine q_dup (pc' := 32) ja_Reader_add_31 rfl rfl ?_
      refine q_getf (pc' := 35) (v := .int (s1 117 1)) ja_Reader_add_32 rfl (by decide) ⟨rfl, by decide⟩ rfl ?_
      refine q_iconst (pc' := 36) ja_Reader_add_35 rfl 1 (by decide) ?_
      refine q_iadd (pc' := 37) ja_Reader_add_36 rfl ?_
      refine q_putf (pc' := 40) ja_Reader_add_37 rfl (by decide) rfl rfl rfl ?_
      intro s2 e2
      exact q_vret ja_Reader_add_40 rfl (k2 h2 h3 s1 e1 s2 e2)
    · intro h4
      exact q_vret ja_Reader_add_19 rfl (k3 h2 h4)
set_option maxRecDepth 20000 in
theorem t_Reader_byteAt {G : jv_X} {d : Nat} {B : Option Value → jg_H → Prop} {s : jg_H} (a1 : Int32)
    (k1 : a1 < 0 → B (some (.int 0)) s)
    (k2 : ¬ a1 < 0 → ¬ a1 < (s 117 1) → B (some (.int 0)) s)
    (k3 : ¬ a1 < 0 → a1 < (s 117 1) → ¬ a1 < 200 → B (some (.int 0)) s)
    (k4 : ¬ a1 < 0 → a1 < (s 117 1) → a1 < 200 → B (some (.int (s 118 a1.toNatClampNeg))) s) :
    q_P G (d + 1) 22 [.ref 117, .int a1] s B := by
  refine q_in (M := jm_Reader_byteAt) rfl (Nat.le_of_ble_eq_true rfl) (ls := [some (.ref 117), some (.int a1)]) rfl ?_
  refine q_iload_n (pc' := 1) ja_Reader_byteAt_0 rfl rfl ?_
  refine q_if_lt (pc' := 4) ja_Reader_byteAt_1 rfl ?_ ?_
  · intro h1
    refine q_iconst (pc' := 31) ja_Reader_byteAt_30 rfl 0 (by decide) ?_
    exact q_iret ja_Reader_byteAt_31 rfl rfl (k1 h1)
  · intro h2
    refine q_iload_n (pc' := 5) ja_Reader_byteAt_4 rfl rfl ?_
    refine q_aload_n (pc' := 6) ja_Reader_byteAt_5 rfl rfl ?_
    refine q_getf (pc' := 9) (v := .int (s 117 1)) ja_Reader_byteAt_6 rfl (by decide) ⟨rfl, by decide⟩ rfl ?_
    refine q_ic_ge (pc' := 12) ja_Reader_byteAt_9 rfl ?_ ?_
    · intro h3
      refine q_iconst (pc' := 31) ja_Reader_byteAt_30 rfl 0 (by decide) ?_
      exact q_iret ja_Reader_byteAt_31 rfl rfl (k2 h2 h3)
    · intro h4
      refine q_iload_n (pc' := 13) ja_Reader_byteAt_12 rfl rfl ?_
      refine q_aload_n (pc' := 14) ja_Reader_byteAt_13 rfl rfl ?_
      refine q_getf (pc' := 17) (v := .ref 118) ja_Reader_byteAt_14 rfl (by decide) ⟨rfl, by decide⟩ rfl ?_
      refine q_alen (pc' := 18) ja_Reader_byteAt_17 rfl (by decide) (kd := 13) (l := 200) rfl (by decide) (v := 200) (by decide) ?_
      refine q_ic_ge (pc' := 21) ja_Reader_byteAt_18 rfl ?_ ?_
      · intro h5
        refine q_iconst (pc' := 31) ja_Reader_byteAt_30 rfl 0 (by decide) ?_
        exact q_iret ja_Reader_byteAt_31 rfl rfl (k3 h2 h4 h5)
      · intro h6
        refine q_aload_n (pc' := 22) ja_Reader_byteAt_21 rfl rfl ?_
        refine q_getf (pc' := 25) (v := .ref 118) ja_Reader_byteAt_22 rfl (by decide) ⟨rfl, by decide⟩ rfl ?_
        refine q_iload_n (pc' := 26) ja_Reader_byteAt_25 rfl rfl ?_
        refine q_iald (pc' := 27) (v := .int (s 118 a1.toNatClampNeg)) ja_Reader_byteAt_26 rfl (by decide) (l := 200) rfl (q_inr (l := 200) (by decide) h2 h6) rfl ?_
        refine q_goto ja_Reader_byteAt_27 ?_
        exact q_iret ja_Reader_byteAt_31 rfl rfl (k4 h2 h4 h6)
