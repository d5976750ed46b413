theorem jw_law_7 : jm_law_c7.all (jv_eok jm_law) = true := by decide +kernel
