theorem jc_M0_n : jc_run .null 600 jc_M0 = some jc_M1 := jc_eqC_e (by decide +kernel)
theorem jc_M0_r : jc_run (.ref 1000005) 600 jc_M0 = some jc_M1 := jc_eqC_e (by decide +kernel)
