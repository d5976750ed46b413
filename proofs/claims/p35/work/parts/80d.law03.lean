theorem jw_law_3 : jm_law_c3.all (jv_eok jm_law) = true := by decide +kernel
