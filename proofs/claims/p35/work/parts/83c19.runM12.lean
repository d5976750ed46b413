theorem jc_M12_n : jc_run .null 233 jc_M12 = some jc_M13 := jc_eqC_e (by decide +kernel)
theorem jc_M12_r : jc_run (.ref 1000005) 233 jc_M12 = some jc_M13 := jc_eqC_e (by decide +kernel)
