theorem jc_C5_n : jc_run .null 4500 jc_C5 = some jc_C6 := jc_eqC_e (by decide +kernel)
theorem jc_C5_r : jc_run (.ref 1000005) 4500 jc_C5 = some jc_C6 := jc_eqC_e (by decide +kernel)
