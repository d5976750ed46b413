theorem jc_C6_n : jc_run .null 3982 jc_C6 = some jc_C7 := jc_eqC_e (by decide +kernel)
theorem jc_C6_r : jc_run (.ref 1000005) 3982 jc_C6 = some jc_C7 := jc_eqC_e (by decide +kernel)
