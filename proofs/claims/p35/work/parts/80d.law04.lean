theorem jw_law_4 : jm_law_c4.all (jv_eok jm_law) = true := by decide +kernel
