theorem jw_law_8 : jm_law_c8.all (jv_eok jm_law) = true := by decide +kernel
