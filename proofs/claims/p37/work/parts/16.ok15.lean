/-! The rows are right -/
set_option maxRecDepth 100000 in
theorem zm_ok269 : zm_mok zm_P zm_W zm_S zm_St zm_N zm_m269 := ⟨by decide +kernel, by decide +kernel, zd_all 0 (by decide +kernel), Or.inr (zm_cw 9 207 rfl rfl)⟩
set_option maxRecDepth 100000 in
theorem zm_ok270 : zm_mok zm_P zm_W zm_S zm_St zm_N zm_m270 := ⟨by decide +kernel, by decide +kernel, zd_all 0 (by decide +kernel), Or.inr (zm_cw 9 211 rfl rfl)⟩
set_option maxRecDepth 100000 in
theorem zm_ok271 : zm_mok zm_P zm_W zm_S zm_St zm_N zm_m271 := ⟨by decide +kernel, by decide +kernel, zd_all 0 (by decide +kernel), Or.inr (zm_cw 9 215 rfl rfl)⟩
set_option maxRecDepth 100000 in
theorem zm_ok272 : zm_mok zm_P zm_W zm_S zm_St zm_N zm_m272 := ⟨by decide +kernel, by decide +kernel, zd_all 0 (by decide +kernel), Or.inr (zm_cw 9 219 rfl rfl)⟩
set_option maxRecDepth 100000 in
theorem zm_ok273 : zm_mok zm_P zm_W zm_S zm_St zm_N zm_m273 := ⟨by decide +kernel, by decide +kernel, zd_all 0 (by decide +kernel), Or.inr (zm_cw 9 223 rfl rfl)⟩
set_option maxRecDepth 100000 in
theorem zm_ok274 : zm_mok zm_P zm_W zm_S zm_St zm_N zm_m274 := ⟨by decide +kernel, by decide +kernel, zd_all 0 (by decide +kernel), Or.inr (zm_cw 9 233 rfl rfl)⟩
