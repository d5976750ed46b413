theorem jc_C3_n : jc_run .null 4504 jc_C3 = some jc_C4 := jc_eqC_e (by decide +kernel)
theorem jc_C3_r : jc_run (.ref 1000005) 4504 jc_C3 = some jc_C4 := jc_eqC_e (by decide +kernel)
