theorem jw_law_9 : jm_law_c9.all (jv_eok jm_law) = true := by decide +kernel
