theorem jc_M10_n : jc_run .null 3000 jc_M10 = some jc_M11 := jc_eqC_e (by decide +kernel)
theorem jc_M10_r : jc_run (.ref 1000005) 3000 jc_M10 = some jc_M11 := jc_eqC_e (by decide +kernel)
