theorem jc_M7_n : jc_run .null 3000 jc_M7 = some jc_M8 := jc_eqC_e (by decide +kernel)
theorem jc_M7_r : jc_run (.ref 1000005) 3000 jc_M7 = some jc_M8 := jc_eqC_e (by decide +kernel)
