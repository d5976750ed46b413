theorem jc_C1_n : jc_run .null 4500 jc_C1 = some jc_C2 := jc_eqC_e (by decide +kernel)
theorem jc_C1_r : jc_run (.ref 1000005) 4500 jc_C1 = some jc_C2 := jc_eqC_e (by decide +kernel)
