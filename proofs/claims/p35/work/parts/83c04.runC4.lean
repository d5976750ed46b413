theorem jc_C4_n : jc_run .null 4515 jc_C4 = some jc_C5 := jc_eqC_e (by decide +kernel)
theorem jc_C4_r : jc_run (.ref 1000005) 4515 jc_C4 = some jc_C5 := jc_eqC_e (by decide +kernel)
