/-! The rows are right -/
set_option maxRecDepth 100000 in
theorem zm_ok275 : zm_mok zm_P zm_W zm_S zm_St zm_N zm_m275 := ⟨by decide +kernel, by decide +kernel, zd_all 0 (by decide +kernel), Or.inr (zm_cw 9 237 rfl rfl)⟩
set_option maxRecDepth 100000 in
theorem zm_ok276 : zm_mok zm_P zm_W zm_S zm_St zm_N zm_m276 := ⟨by decide +kernel, by decide +kernel, zd_all 0 (by decide +kernel), Or.inr (zm_cw 10 1 rfl rfl)⟩
set_option maxRecDepth 100000 in
theorem zm_ok277 : zm_mok zm_P zm_W zm_S zm_St zm_N zm_m277 := ⟨by decide +kernel, by decide +kernel, zd_all 0 (by decide +kernel), Or.inr (zm_cw 10 5 rfl rfl)⟩
set_option maxRecDepth 100000 in
theorem zm_ok278 : zm_mok zm_P zm_W zm_S zm_St zm_N zm_m278 := ⟨by decide +kernel, by decide +kernel, zd_all 0 (by decide +kernel), Or.inr (zm_cw 10 10 rfl rfl)⟩
set_option maxRecDepth 100000 in
theorem zm_ok279 : zm_mok zm_P zm_W zm_S zm_St zm_N zm_m279 := ⟨by decide +kernel, by decide +kernel, zd_all 0 (by decide +kernel), Or.inr (zm_cw 10 14 rfl rfl)⟩
set_option maxRecDepth 100000 in
theorem zm_ok280 : zm_mok zm_P zm_W zm_S zm_St zm_N zm_m280 := ⟨by decide +kernel, by decide +kernel, zd_all 0 (by decide +kernel), Or.inr (zm_cw 10 20 rfl rfl)⟩
set_option maxRecDepth 100000 in
theorem zm_ok281 : zm_mok zm_P zm_W zm_S zm_St zm_N zm_m281 := ⟨by decide +kernel, by decide +kernel, zd_all 0 (by decide +kernel), Or.inr (zm_cw 10 24 rfl rfl)⟩
set_option maxRecDepth 100000 in
theorem zm_ok282 : zm_mok zm_P zm_W zm_S zm_St zm_N zm_m282 := ⟨by decide +kernel, by decide +kernel, zd_all 0 (by decide +kernel), Or.inr (zm_cw 10 28 rfl rfl)⟩
