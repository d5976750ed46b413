theorem jw_M_init_6 : jm_M_init_c6.all (jv_eok jm_M_init) = true := by decide +kernel
