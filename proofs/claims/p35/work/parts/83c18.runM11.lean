theorem jc_M11_n : jc_run .null 3000 jc_M11 = some jc_M12 := jc_eqC_e (by decide +kernel)
theorem jc_M11_r : jc_run (.ref 1000005) 3000 jc_M11 = some jc_M12 := jc_eqC_e (by decide +kernel)
