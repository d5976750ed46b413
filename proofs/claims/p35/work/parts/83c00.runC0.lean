theorem jc_C0_n : jc_run .null 4509 jc_C0 = some jc_C1 := jc_eqC_e (by decide +kernel)
theorem jc_C0_r : jc_run (.ref 1000005) 4509 jc_C0 = some jc_C1 := jc_eqC_e (by decide +kernel)
