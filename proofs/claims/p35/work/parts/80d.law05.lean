theorem jw_law_5 : jm_law_c5.all (jv_eok jm_law) = true := by decide +kernel
