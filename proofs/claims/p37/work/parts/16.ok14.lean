/-! The rows are right -/
set_option maxRecDepth 100000 in
theorem zm_ok260 : zm_mok zm_P zm_W zm_S zm_St zm_N zm_m260 := ⟨by decide +kernel, by decide +kernel, zd_all 0 (by decide +kernel), Or.inr (zm_cw 9 167 rfl rfl)⟩
set_option maxRecDepth 100000 in
theorem zm_ok261 : zm_mok zm_P zm_W zm_S zm_St zm_N zm_m261 := ⟨by decide +kernel, by decide +kernel, zd_all 0 (by decide +kernel), Or.inr (zm_cw 9 171 rfl rfl)⟩
set_option maxRecDepth 100000 in
theorem zm_ok262 : zm_mok zm_P zm_W zm_S zm_St zm_N zm_m262 := ⟨by decide +kernel, by decide +kernel, zd_all 0 (by decide +kernel), Or.inr (zm_cw 9 175 rfl rfl)⟩
set_option maxRecDepth 100000 in
theorem zm_ok263 : zm_mok zm_P zm_W zm_S zm_St zm_N zm_m263 := ⟨by decide +kernel, by decide +kernel, zd_all 0 (by decide +kernel), Or.inr (zm_cw 9 179 rfl rfl)⟩
set_option maxRecDepth 100000 in
theorem zm_ok264 : zm_mok zm_P zm_W zm_S zm_St zm_N zm_m264 := ⟨by decide +kernel, by decide +kernel, zd_all 0 (by decide +kernel), Or.inr (zm_cw 9 185 rfl rfl)⟩
set_option maxRecDepth 100000 in
theorem zm_ok265 : zm_mok zm_P zm_W zm_S zm_St zm_N zm_m265 := ⟨by decide +kernel, by decide +kernel, zd_all 0 (by decide +kernel), Or.inr (zm_cw 9 189 rfl rfl)⟩
set_option maxRecDepth 100000 in
theorem zm_ok266 : zm_mok zm_P zm_W zm_S zm_St zm_N zm_m266 := ⟨by decide +kernel, by decide +kernel, zd_all 0 (by decide +kernel), Or.inr (zm_cw 9 194 rfl rfl)⟩
set_option maxRecDepth 100000 in
theorem zm_ok267 : zm_mok zm_P zm_W zm_S zm_St zm_N zm_m267 := ⟨by decide +kernel, by decide +kernel, zd_all 0 (by decide +kernel), Or.inr (zm_cw 9 198 rfl rfl)⟩
set_option maxRecDepth 100000 in
theorem zm_ok268 : zm_mok zm_P zm_W zm_S zm_St zm_N zm_m268 := ⟨by decide +kernel, by decide +kernel, zd_all 0 (by decide +kernel), Or.inr (zm_cw 9 203 rfl rfl)⟩
