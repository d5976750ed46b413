theorem jc_M9_n : jc_run .null 3000 jc_M9 = some jc_M10 := jc_eqC_e (by decide +kernel)
theorem jc_M9_r : jc_run (.ref 1000005) 3000 jc_M9 = some jc_M10 := jc_eqC_e (by decide +kernel)
