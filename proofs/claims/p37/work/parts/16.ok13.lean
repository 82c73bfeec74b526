/-! The rows are right -/
set_option maxRecDepth 100000 in
theorem zm_ok246 : zm_mok zm_P zm_W zm_S zm_St zm_N zm_m246 := ⟨by decide +kernel, by decide +kernel, zd_all 0 (by decide +kernel), Or.inr (zm_cw 9 113 rfl rfl)⟩
set_option maxRecDepth 100000 in
theorem zm_ok247 : zm_mok zm_P zm_W zm_S zm_St zm_N zm_m247 := ⟨by decide +kernel, by decide +kernel, zd_all 0 (by decide +kernel), Or.inr (zm_cw 9 117 rfl rfl)⟩
set_option maxRecDepth 100000 in
theorem zm_ok248 : zm_mok zm_P zm_W zm_S zm_St zm_N zm_m248 := ⟨by decide +kernel, by decide +kernel, zd_all 0 (by decide +kernel), Or.inr (zm_cw 9 121 rfl rfl)⟩
set_option maxRecDepth 100000 in
theorem zm_ok249 : zm_mok zm_P zm_W zm_S zm_St zm_N zm_m249 := ⟨by decide +kernel, by decide +kernel, zd_all 0 (by decide +kernel), Or.inr (zm_cw 9 125 rfl rfl)⟩
set_option maxRecDepth 100000 in
theorem zm_ok250 : zm_mok zm_P zm_W zm_S zm_St zm_N zm_m250 := ⟨by decide +kernel, by decide +kernel, zd_all 0 (by decide +kernel), Or.inr (zm_cw 9 128 rfl rfl)⟩
set_option maxRecDepth 100000 in
theorem zm_ok251 : zm_mok zm_P zm_W zm_S zm_St zm_N zm_m251 := ⟨by decide +kernel, by decide +kernel, zd_all 0 (by decide +kernel), Or.inr (zm_cw 9 132 rfl rfl)⟩
set_option maxRecDepth 100000 in
theorem zm_ok252 : zm_mok zm_P zm_W zm_S zm_St zm_N zm_m252 := ⟨by decide +kernel, by decide +kernel, zd_all 0 (by decide +kernel), Or.inr (zm_cw 9 136 rfl rfl)⟩
set_option maxRecDepth 100000 in
theorem zm_ok253 : zm_mok zm_P zm_W zm_S zm_St zm_N zm_m253 := ⟨by decide +kernel, by decide +kernel, zd_all 0 (by decide +kernel), Or.inr (zm_cw 9 140 rfl rfl)⟩
set_option maxRecDepth 100000 in
theorem zm_ok254 : zm_mok zm_P zm_W zm_S zm_St zm_N zm_m254 := ⟨by decide +kernel, by decide +kernel, zd_all 0 (by decide +kernel), Or.inr (zm_cw 9 144 rfl rfl)⟩
set_option maxRecDepth 100000 in
theorem zm_ok255 : zm_mok zm_P zm_W zm_S zm_St zm_N zm_m255 := ⟨by decide +kernel, by decide +kernel, zd_all 0 (by decide +kernel), Or.inr (zm_cw 9 148 rfl rfl)⟩
set_option maxRecDepth 100000 in
theorem zm_ok256 : zm_mok zm_P zm_W zm_S zm_St zm_N zm_m256 := ⟨by decide +kernel, by decide +kernel, zd_all 0 (by decide +kernel), Or.inr (zm_cw 9 152 rfl rfl)⟩
set_option maxRecDepth 100000 in
theorem zm_ok257 : zm_mok zm_P zm_W zm_S zm_St zm_N zm_m257 := ⟨by decide +kernel, by decide +kernel, zd_all 0 (by decide +kernel), Or.inr (zm_cw 9 155 rfl rfl)⟩
set_option maxRecDepth 100000 in
theorem zm_ok258 : zm_mok zm_P zm_W zm_S zm_St zm_N zm_m258 := ⟨by decide +kernel, by decide +kernel, zd_all 0 (by decide +kernel), Or.inr (zm_cw 9 159 rfl rfl)⟩
set_option maxRecDepth 100000 in
theorem zm_ok259 : zm_mok zm_P zm_W zm_S zm_St zm_N zm_m259 := ⟨by decide +kernel, by decide +kernel, zd_all 0 (by decide +kernel), Or.inr (zm_cw 9 163 rfl rfl)⟩
