theorem jw_law_2 : jm_law_c2.all (jv_eok jm_law) = true := by decide +kernel
