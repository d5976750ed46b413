theorem jc_M1_n : jc_run .null 600 jc_M1 = some jc_M2 := jc_eqC_e (by decide +kernel)
theorem jc_M1_r : jc_run (.ref 1000005) 600 jc_M1 = some jc_M2 := jc_eqC_e (by decide +kernel)
