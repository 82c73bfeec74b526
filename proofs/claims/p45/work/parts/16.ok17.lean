/-! The rows are right -/
set_option maxRecDepth 100000 in
theorem zm_ok283 : zm_mok zm_P zm_W zm_S zm_St zm_N zm_m283 := ⟨by decide +kernel, by decide +kernel, List.all_eq_true.mp (by decide +kernel : zm_m283.2.all (zm_rok zm_P zm_W zm_S zm_St zm_N zm_m283.1) = true), Or.inr (zm_cw 10 32 rfl rfl)⟩
set_option maxRecDepth 100000 in
theorem zm_ok284 : zm_mok zm_P zm_W zm_S zm_St zm_N zm_m284 := ⟨by decide +kernel, by decide +kernel, List.all_eq_true.mp (by decide +kernel : zm_m284.2.all (zm_rok zm_P zm_W zm_S zm_St zm_N zm_m284.1) = true), Or.inr (zm_cw 10 36 rfl rfl)⟩
