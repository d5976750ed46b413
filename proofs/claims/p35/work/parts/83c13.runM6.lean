theorem jc_M6_n : jc_run .null 3000 jc_M6 = some jc_M7 := jc_eqC_e (by decide +kernel)
theorem jc_M6_r : jc_run (.ref 1000005) 3000 jc_M6 = some jc_M7 := jc_eqC_e (by decide +kernel)
