theorem jc_M2_n : jc_run .null 600 jc_M2 = some jc_M3 := jc_eqC_e (by decide +kernel)
theorem jc_M2_r : jc_run (.ref 1000005) 600 jc_M2 = some jc_M3 := jc_eqC_e (by decide +kernel)
