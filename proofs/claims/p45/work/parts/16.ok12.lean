/-! The rows are right -/
set_option maxRecDepth 100000 in
theorem zm_ok230 : zm_mok zm_P zm_W zm_S zm_St zm_N zm_m230 := ⟨by decide +kernel, by decide +kernel, List.all_eq_true.mp (by decide +kernel : zm_m230.2.all (zm_rok zm_P zm_W zm_S zm_St zm_N zm_m230.1) = true), Or.inr (zm_cw 9 44 rfl rfl)⟩
set_option maxRecDepth 100000 in
theorem zm_ok231 : zm_mok zm_P zm_W zm_S zm_St zm_N zm_m231 := ⟨by decide +kernel, by decide +kernel, List.all_eq_true.mp (by decide +kernel : zm_m231.2.all (zm_rok zm_P zm_W zm_S zm_St zm_N zm_m231.1) = true), Or.inr (zm_cw 9 48 rfl rfl)⟩
set_option maxRecDepth 100000 in
theorem zm_ok232 : zm_mok zm_P zm_W zm_S zm_St zm_N zm_m232 := ⟨by decide +kernel, by decide +kernel, List.all_eq_true.mp (by decide +kernel : zm_m232.2.all (zm_rok zm_P zm_W zm_S zm_St zm_N zm_m232.1) = true), Or.inr (zm_cw 9 52 rfl rfl)⟩
set_option maxRecDepth 100000 in
theorem zm_ok233 : zm_mok zm_P zm_W zm_S zm_St zm_N zm_m233 := ⟨by decide +kernel, by decide +kernel, List.all_eq_true.mp (by decide +kernel : zm_m233.2.all (zm_rok zm_P zm_W zm_S zm_St zm_N zm_m233.1) = true), Or.inr (zm_cw 9 56 rfl rfl)⟩
set_option maxRecDepth 100000 in
theorem zm_ok234 : zm_mok zm_P zm_W zm_S zm_St zm_N zm_m234 := ⟨by decide +kernel, by decide +kernel, List.all_eq_true.mp (by decide +kernel : zm_m234.2.all (zm_rok zm_P zm_W zm_S zm_St zm_N zm_m234.1) = true), Or.inr (zm_cw 9 60 rfl rfl)⟩
set_option maxRecDepth 100000 in
theorem zm_ok235 : zm_mok zm_P zm_W zm_S zm_St zm_N zm_m235 := ⟨by decide +kernel, by decide +kernel, List.all_eq_true.mp (by decide +kernel : zm_m235.2.all (zm_rok zm_P zm_W zm_S zm_St zm_N zm_m235.1) = true), Or.inr (zm_cw 9 64 rfl rfl)⟩
set_option maxRecDepth 100000 in
theorem zm_ok236 : zm_mok zm_P zm_W zm_S zm_St zm_N zm_m236 := ⟨by decide +kernel, by decide +kernel, List.all_eq_true.mp (by decide +kernel : zm_m236.2.all (zm_rok zm_P zm_W zm_S zm_St zm_N zm_m236.1) = true), Or.inr (zm_cw 9 68 rfl rfl)⟩
set_option maxRecDepth 100000 in
theorem zm_ok237 : zm_mok zm_P zm_W zm_S zm_St zm_N zm_m237 := ⟨by decide +kernel, by decide +kernel, List.all_eq_true.mp (by decide +kernel : zm_m237.2.all (zm_rok zm_P zm_W zm_S zm_St zm_N zm_m237.1) = true), Or.inr (zm_cw 9 72 rfl rfl)⟩
set_option maxRecDepth 100000 in
theorem zm_ok238 : zm_mok zm_P zm_W zm_S zm_St zm_N zm_m238 := ⟨by decide +kernel, by decide +kernel, List.all_eq_true.mp (by decide +kernel : zm_m238.2.all (zm_rok zm_P zm_W zm_S zm_St zm_N zm_m238.1) = true), Or.inr (zm_cw 9 76 rfl rfl)⟩
set_option maxRecDepth 100000 in
theorem zm_ok239 : zm_mok zm_P zm_W zm_S zm_St zm_N zm_m239 := ⟨by decide +kernel, by decide +kernel, List.all_eq_true.mp (by decide +kernel : zm_m239.2.all (zm_rok zm_P zm_W zm_S zm_St zm_N zm_m239.1) = true), Or.inr (zm_cw 9 80 rfl rfl)⟩
set_option maxRecDepth 100000 in
theorem zm_ok240 : zm_mok zm_P zm_W zm_S zm_St zm_N zm_m240 := ⟨by decide +kernel, by decide +kernel, List.all_eq_true.mp (by decide +kernel : zm_m240.2.all (zm_rok zm_P zm_W zm_S zm_St zm_N zm_m240.1) = true), Or.inr (zm_cw 9 86 rfl rfl)⟩
set_option maxRecDepth 100000 in
theorem zm_ok241 : zm_mok zm_P zm_W zm_S zm_St zm_N zm_m241 := ⟨by decide +kernel, by decide +kernel, List.all_eq_true.mp (by decide +kernel : zm_m241.2.all (zm_rok zm_P zm_W zm_S zm_St zm_N zm_m241.1) = true), Or.inr (zm_cw 9 90 rfl rfl)⟩
set_option maxRecDepth 100000 in
theorem zm_ok242 : zm_mok zm_P zm_W zm_S zm_St zm_N zm_m242 := ⟨by decide +kernel, by decide +kernel, List.all_eq_true.mp (by decide +kernel : zm_m242.2.all (zm_rok zm_P zm_W zm_S zm_St zm_N zm_m242.1) = true), Or.inr (zm_cw 9 94 rfl rfl)⟩
set_option maxRecDepth 100000 in
theorem zm_ok243 : zm_mok zm_P zm_W zm_S zm_St zm_N zm_m243 := ⟨by decide +kernel, by decide +kernel, List.all_eq_true.mp (by decide +kernel : zm_m243.2.all (zm_rok zm_P zm_W zm_S zm_St zm_N zm_m243.1) = true), Or.inr (zm_cw 9 98 rfl rfl)⟩
set_option maxRecDepth 100000 in
theorem zm_ok244 : zm_mok zm_P zm_W zm_S zm_St zm_N zm_m244 := ⟨by decide +kernel, by decide +kernel, List.all_eq_true.mp (by decide +kernel : zm_m244.2.all (zm_rok zm_P zm_W zm_S zm_St zm_N zm_m244.1) = true), Or.inr (zm_cw 9 104 rfl rfl)⟩
set_option maxRecDepth 100000 in
theorem zm_ok245 : zm_mok zm_P zm_W zm_S zm_St zm_N zm_m245 := ⟨by decide +kernel, by decide +kernel, List.all_eq_true.mp (by decide +kernel : zm_m245.2.all (zm_rok zm_P zm_W zm_S zm_St zm_N zm_m245.1) = true), Or.inr (zm_cw 9 108 rfl rfl)⟩
