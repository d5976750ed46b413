theorem jw_M_init_1 : jm_M_init_c1.all (jv_eok jm_M_init) = true := by decide +kernel
