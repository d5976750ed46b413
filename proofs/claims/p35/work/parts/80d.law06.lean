theorem jw_law_6 : jm_law_c6.all (jv_eok jm_law) = true := by decide +kernel
