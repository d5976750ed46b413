theorem jw_M_init_4 : jm_M_init_c4.all (jv_eok jm_M_init) = true := by decide +kernel
