theorem jc_C2_n : jc_run .null 4500 jc_C2 = some jc_C3 := jc_eqC_e (by decide +kernel)
theorem jc_C2_r : jc_run (.ref 1000005) 4500 jc_C2 = some jc_C3 := jc_eqC_e (by decide +kernel)
