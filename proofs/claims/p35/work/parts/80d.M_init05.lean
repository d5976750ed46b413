theorem jw_M_init_5 : jm_M_init_c5.all (jv_eok jm_M_init) = true := by decide +kernel
