set_option maxRecDepth 100000 in
theorem jx_M_init : jv_mk jm_M_init 940 939 99 0 = true := by
  unfold jv_mk
  rw [show jv_tw 940 (.code jm_M_init.2.1 jm_M_init.2.2.1 jm_M_init.2.2.2.1 jm_M_init.2.2.2.2.1) = true from (Bool.and_eq_true _ _).mpr ⟨decide_eq_true rfl, rfl⟩]
  decide +kernel
