/-! The rows are right -/
set_option maxRecDepth 100000 in
theorem zm_ok283 : zm_mok zm_P zm_W zm_S zm_St zm_N zm_m283 := ⟨by decide +kernel, by decide +kernel, zd_all 0 (by decide +kernel), Or.inr (zm_cw 10 32 rfl rfl)⟩
set_option maxRecDepth 100000 in
theorem zm_ok284 : zm_mok zm_P zm_W zm_S zm_St zm_N zm_m284 := ⟨by decide +kernel, by decide +kernel, zd_all 0 (by decide +kernel), Or.inr (zm_cw 10 36 rfl rfl)⟩
