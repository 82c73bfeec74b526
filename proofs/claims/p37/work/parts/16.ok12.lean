/-! The rows are right -/
set_option maxRecDepth 100000 in
theorem zm_ok230 : zm_mok zm_P zm_W zm_S zm_St zm_N zm_m230 := ⟨by decide +kernel, by decide +kernel, zd_all 0 (by decide +kernel), Or.inr (zm_cw 9 44 rfl rfl)⟩
set_option maxRecDepth 100000 in
theorem zm_ok231 : zm_mok zm_P zm_W zm_S zm_St zm_N zm_m231 := ⟨by decide +kernel, by decide +kernel, zd_all 0 (by decide +kernel), Or.inr (zm_cw 9 48 rfl rfl)⟩
set_option maxRecDepth 100000 in
theorem zm_ok232 : zm_mok zm_P zm_W zm_S zm_St zm_N zm_m232 := ⟨by decide +kernel, by decide +kernel, zd_all 0 (by decide +kernel), Or.inr (zm_cw 9 52 rfl rfl)⟩
set_option maxRecDepth 100000 in
theorem zm_ok233 : zm_mok zm_P zm_W zm_S zm_St zm_N zm_m233 := ⟨by decide +kernel, by decide +kernel, zd_all 0 (by decide +kernel), Or.inr (zm_cw 9 56 rfl rfl)⟩
set_option maxRecDepth 100000 in
theorem zm_ok234 : zm_mok zm_P zm_W zm_S zm_St zm_N zm_m234 := ⟨by decide +kernel, by decide +kernel, zd_all 0 (by decide +kernel), Or.inr (zm_cw 9 60 rfl rfl)⟩
set_option maxRecDepth 100000 in
theorem zm_ok235 : zm_mok zm_P zm_W zm_S zm_St zm_N zm_m235 := ⟨by decide +kernel, by decide +kernel, zd_all 0 (by decide +kernel), Or.inr (zm_cw 9 64 rfl rfl)⟩
set_option maxRecDepth 100000 in
theorem zm_ok236 : zm_mok zm_P zm_W zm_S zm_St zm_N zm_m236 := ⟨by decide +kernel, by decide +kernel, zd_all 0 (by decide +kernel), Or.inr (zm_cw 9 68 rfl rfl)⟩
set_option maxRecDepth 100000 in
theorem zm_ok237 : zm_mok zm_P zm_W zm_S zm_St zm_N zm_m237 := ⟨by decide +kernel, by decide +kernel, zd_all 0 (by decide +kernel), Or.inr (zm_cw 9 72 rfl rfl)⟩
set_option maxRecDepth 100000 in
theorem zm_ok238 : zm_mok zm_P zm_W zm_S zm_St zm_N zm_m238 := ⟨by decide +kernel, by decide +kernel, zd_all 0 (by decide +kernel), Or.inr (zm_cw 9 76 rfl rfl)⟩
set_option maxRecDepth 100000 in
theorem zm_ok239 : zm_mok zm_P zm_W zm_S zm_St zm_N zm_m239 := ⟨by decide +kernel, by decide +kernel, zd_all 0 (by decide +kernel), Or.inr (zm_cw 9 80 rfl rfl)⟩
set_option maxRecDepth 100000 in
theorem zm_ok240 : zm_mok zm_P zm_W zm_S zm_St zm_N zm_m240 := ⟨by decide +kernel, by decide +kernel, zd_all 0 (by decide +kernel), Or.inr (zm_cw 9 86 rfl rfl)⟩
set_option maxRecDepth 100000 in
theorem zm_ok241 : zm_mok zm_P zm_W zm_S zm_St zm_N zm_m241 := ⟨by decide +kernel, by decide +kernel, zd_all 0 (by decide +kernel), Or.inr (zm_cw 9 90 rfl rfl)⟩
set_option maxRecDepth 100000 in
theorem zm_ok242 : zm_mok zm_P zm_W zm_S zm_St zm_N zm_m242 := ⟨by decide +kernel, by decide +kernel, zd_all 0 (by decide +kernel), Or.inr (zm_cw 9 94 rfl rfl)⟩
set_option maxRecDepth 100000 in
theorem zm_ok243 : zm_mok zm_P zm_W zm_S zm_St zm_N zm_m243 := ⟨by decide +kernel, by decide +kernel, zd_all 0 (by decide +kernel), Or.inr (zm_cw 9 98 rfl rfl)⟩
set_option maxRecDepth 100000 in
theorem zm_ok244 : zm_mok zm_P zm_W zm_S zm_St zm_N zm_m244 := ⟨by decide +kernel, by decide +kernel, zd_all 0 (by decide +kernel), Or.inr (zm_cw 9 104 rfl rfl)⟩
set_option maxRecDepth 100000 in
theorem zm_ok245 : zm_mok zm_P zm_W zm_S zm_St zm_N zm_m245 := ⟨by decide +kernel, by decide +kernel, zd_all 0 (by decide +kernel), Or.inr (zm_cw 9 108 rfl rfl)⟩
