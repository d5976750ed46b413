theorem jc_M5_n : jc_run .null 1500 jc_M5 = some jc_M6 := jc_eqC_e (by decide +kernel)
theorem jc_M5_r : jc_run (.ref 1000005) 1500 jc_M5 = some jc_M6 := jc_eqC_e (by decide +kernel)
