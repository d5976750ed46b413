theorem jw_M_init : jv_ok jm_M_init = true := by
  show (jm_M_init_c1 ++ (jm_M_init_c2 ++ (jm_M_init_c3 ++ (jm_M_init_c4 ++ (jm_M_init_c5 ++ (jm_M_init_c6)))))).all _ = true
  simp only [List.all_append, Bool.and_eq_true]
  exact ⟨jw_M_init_1, jw_M_init_2, jw_M_init_3, jw_M_init_4, jw_M_init_5, jw_M_init_6⟩
theorem jw_law : jv_ok jm_law = true := by
  show (jm_law_c1 ++ (jm_law_c2 ++ (jm_law_c3 ++ (jm_law_c4 ++ (jm_law_c5 ++ (jm_law_c6 ++ (jm_law_c7 ++ (jm_law_c8)))))))).all _ = true
  simp only [List.all_append, Bool.and_eq_true]
  exact ⟨jw_law_1, jw_law_2, jw_law_3, jw_law_4, jw_law_5, jw_law_6, jw_law_7, jw_law_8⟩
