theorem jw_M_init_3 : jm_M_init_c3.all (jv_eok jm_M_init) = true := by decide +kernel
