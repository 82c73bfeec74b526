/-! The rows are right -/
set_option maxRecDepth 100000 in
theorem zm_ok195 : zm_mok zm_P zm_W zm_S zm_St zm_N zm_m195 := ⟨by decide +kernel, by decide +kernel, zd_all 0 (by decide +kernel), Or.inr (zm_cw 8 74 rfl rfl)⟩
set_option maxRecDepth 100000 in
theorem zm_ok196 : zm_mok zm_P zm_W zm_S zm_St zm_N zm_m196 := ⟨by decide +kernel, by decide +kernel, zd_all 0 (by decide +kernel), Or.inr (zm_cw 8 79 rfl rfl)⟩
set_option maxRecDepth 100000 in
theorem zm_ok197 : zm_mok zm_P zm_W zm_S zm_St zm_N zm_m197 := ⟨by decide +kernel, by decide +kernel, zd_all 0 (by decide +kernel), Or.inr (zm_cw 8 83 rfl rfl)⟩
set_option maxRecDepth 100000 in
theorem zm_ok198 : zm_mok zm_P zm_W zm_S zm_St zm_N zm_m198 := ⟨by decide +kernel, by decide +kernel, zd_all 0 (by decide +kernel), Or.inr (zm_cw 8 87 rfl rfl)⟩
set_option maxRecDepth 100000 in
theorem zm_ok199 : zm_mok zm_P zm_W zm_S zm_St zm_N zm_m199 := ⟨by decide +kernel, by decide +kernel, zd_all 0 (by decide +kernel), Or.inr (zm_cw 8 91 rfl rfl)⟩
set_option maxRecDepth 100000 in
theorem zm_ok200 : zm_mok zm_P zm_W zm_S zm_St zm_N zm_m200 := ⟨by decide +kernel, by decide +kernel, zd_all 0 (by decide +kernel), Or.inr (zm_cw 8 95 rfl rfl)⟩
set_option maxRecDepth 100000 in
theorem zm_ok201 : zm_mok zm_P zm_W zm_S zm_St zm_N zm_m201 := ⟨by decide +kernel, by decide +kernel, zd_all 0 (by decide +kernel), Or.inr (zm_cw 8 99 rfl rfl)⟩
set_option maxRecDepth 100000 in
theorem zm_ok202 : zm_mok zm_P zm_W zm_S zm_St zm_N zm_m202 := ⟨by decide +kernel, by decide +kernel, zd_all 0 (by decide +kernel), Or.inr (zm_cw 8 102 rfl rfl)⟩
set_option maxRecDepth 100000 in
theorem zm_ok203 : zm_mok zm_P zm_W zm_S zm_St zm_N zm_m203 := ⟨by decide +kernel, by decide +kernel, zd_all 0 (by decide +kernel), Or.inr (zm_cw 8 107 rfl rfl)⟩
set_option maxRecDepth 100000 in
theorem zm_ok204 : zm_mok zm_P zm_W zm_S zm_St zm_N zm_m204 := ⟨by decide +kernel, by decide +kernel, zd_all 0 (by decide +kernel), Or.inr (zm_cw 8 111 rfl rfl)⟩
set_option maxRecDepth 100000 in
theorem zm_ok205 : zm_mok zm_P zm_W zm_S zm_St zm_N zm_m205 := ⟨by decide +kernel, by decide +kernel, zd_all 0 (by decide +kernel), Or.inr (zm_cw 8 116 rfl rfl)⟩
set_option maxRecDepth 100000 in
theorem zm_ok206 : zm_mok zm_P zm_W zm_S zm_St zm_N zm_m206 := ⟨by decide +kernel, by decide +kernel, zd_all 0 (by decide +kernel), Or.inr (zm_cw 8 120 rfl rfl)⟩
set_option maxRecDepth 100000 in
theorem zm_ok207 : zm_mok zm_P zm_W zm_S zm_St zm_N zm_m207 := ⟨by decide +kernel, by decide +kernel, zd_all 0 (by decide +kernel), Or.inr (zm_cw 8 124 rfl rfl)⟩
set_option maxRecDepth 100000 in
theorem zm_ok208 : zm_mok zm_P zm_W zm_S zm_St zm_N zm_m208 := ⟨by decide +kernel, by decide +kernel, zd_all 0 (by decide +kernel), Or.inr (zm_cw 8 127 rfl rfl)⟩
set_option maxRecDepth 100000 in
theorem zm_ok209 : zm_mok zm_P zm_W zm_S zm_St zm_N zm_m209 := ⟨by decide +kernel, by decide +kernel, zd_all 0 (by decide +kernel), Or.inr (zm_cw 8 130 rfl rfl)⟩
set_option maxRecDepth 100000 in
theorem zm_ok210 : zm_mok zm_P zm_W zm_S zm_St zm_N zm_m210 := ⟨by decide +kernel, by decide +kernel, zd_all 0 (by decide +kernel), Or.inr (zm_cw 8 133 rfl rfl)⟩
set_option maxRecDepth 100000 in
theorem zm_ok211 : zm_mok zm_P zm_W zm_S zm_St zm_N zm_m211 := ⟨by decide +kernel, by decide +kernel, zd_all 0 (by decide +kernel), Or.inr (zm_cw 8 137 rfl rfl)⟩
