/-! The rows are right -/
set_option maxRecDepth 100000 in
theorem zm_ok269 : zm_mok zm_P zm_W zm_S zm_St zm_N zm_m269 := ⟨by decide +kernel, by decide +kernel, List.all_eq_true.mp (by decide +kernel : zm_m269.2.all (zm_rok zm_P zm_W zm_S zm_St zm_N zm_m269.1) = true), Or.inr (zm_cw 9 207 rfl rfl)⟩
set_option maxRecDepth 100000 in
theorem zm_ok270 : zm_mok zm_P zm_W zm_S zm_St zm_N zm_m270 := ⟨by decide +kernel, by decide +kernel, List.all_eq_true.mp (by decide +kernel : zm_m270.2.all (zm_rok zm_P zm_W zm_S zm_St zm_N zm_m270.1) = true), Or.inr (zm_cw 9 211 rfl rfl)⟩
set_option maxRecDepth 100000 in
theorem zm_ok271 : zm_mok zm_P zm_W zm_S zm_St zm_N zm_m271 := ⟨by decide +kernel, by decide +kernel, List.all_eq_true.mp (by decide +kernel : zm_m271.2.all (zm_rok zm_P zm_W zm_S zm_St zm_N zm_m271.1) = true), Or.inr (zm_cw 9 215 rfl rfl)⟩
set_option maxRecDepth 100000 in
theorem zm_ok272 : zm_mok zm_P zm_W zm_S zm_St zm_N zm_m272 := ⟨by decide +kernel, by decide +kernel, List.all_eq_true.mp (by decide +kernel : zm_m272.2.all (zm_rok zm_P zm_W zm_S zm_St zm_N zm_m272.1) = true), Or.inr (zm_cw 9 219 rfl rfl)⟩
set_option maxRecDepth 100000 in
theorem zm_ok273 : zm_mok zm_P zm_W zm_S zm_St zm_N zm_m273 := ⟨by decide +kernel, by decide +kernel, List.all_eq_true.mp (by decide +kernel : zm_m273.2.all (zm_rok zm_P zm_W zm_S zm_St zm_N zm_m273.1) = true), Or.inr (zm_cw 9 223 rfl rfl)⟩
set_option maxRecDepth 100000 in
theorem zm_ok274 : zm_mok zm_P zm_W zm_S zm_St zm_N zm_m274 := ⟨by decide +kernel, by decide +kernel, List.all_eq_true.mp (by decide +kernel : zm_m274.2.all (zm_rok zm_P zm_W zm_S zm_St zm_N zm_m274.1) = true), Or.inr (zm_cw 9 233 rfl rfl)⟩
