theorem jw_M_init_2 : jm_M_init_c2.all (jv_eok jm_M_init) = true := by decide +kernel
