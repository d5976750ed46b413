theorem jw_law_1 : jm_law_c1.all (jv_eok jm_law) = true := by decide +kernel
