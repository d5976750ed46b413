theorem jc_M8_n : jc_run .null 3000 jc_M8 = some jc_M9 := jc_eqC_e (by decide +kernel)
theorem jc_M8_r : jc_run (.ref 1000005) 3000 jc_M8 = some jc_M9 := jc_eqC_e (by decide +kernel)
