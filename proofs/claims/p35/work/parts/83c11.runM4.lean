theorem jc_M4_n : jc_run .null 1500 jc_M4 = some jc_M5 := jc_eqC_e (by decide +kernel)
theorem jc_M4_r : jc_run (.ref 1000005) 1500 jc_M4 = some jc_M5 := jc_eqC_e (by decide +kernel)
