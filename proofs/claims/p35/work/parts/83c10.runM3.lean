theorem jc_M3_n : jc_run .null 1500 jc_M3 = some jc_M4 := jc_eqC_e (by decide +kernel)
theorem jc_M3_r : jc_run (.ref 1000005) 1500 jc_M3 = some jc_M4 := jc_eqC_e (by decide +kernel)
