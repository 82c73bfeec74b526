/-! The rows are right -/
set_option maxRecDepth 100000 in
theorem zm_ok125 : zm_mok zm_P zm_W zm_S zm_St zm_N zm_m125 := ⟨by decide +kernel, by decide +kernel, zd_all 0 (by decide +kernel), Or.inr (zm_cw 5 121 rfl rfl)⟩
set_option maxRecDepth 100000 in
theorem zm_ok126 : zm_mok zm_P zm_W zm_S zm_St zm_N zm_m126 := ⟨by decide +kernel, by decide +kernel, zd_all 0 (by decide +kernel), Or.inr (zm_cw 5 125 rfl rfl)⟩
set_option maxRecDepth 100000 in
theorem zm_ok127 : zm_mok zm_P zm_W zm_S zm_St zm_N zm_m127 := ⟨by decide +kernel, by decide +kernel, zd_all 0 (by decide +kernel), Or.inr (zm_cw 5 131 rfl rfl)⟩
set_option maxRecDepth 100000 in
theorem zm_ok128 : zm_mok zm_P zm_W zm_S zm_St zm_N zm_m128 := ⟨by decide +kernel, by decide +kernel, zd_all 0 (by decide +kernel), Or.inr (zm_cw 5 135 rfl rfl)⟩
set_option maxRecDepth 100000 in
theorem zm_ok129 : zm_mok zm_P zm_W zm_S zm_St zm_N zm_m129 := ⟨by decide +kernel, by decide +kernel, zd_all 0 (by decide +kernel), Or.inr (zm_cw 5 140 rfl rfl)⟩
set_option maxRecDepth 100000 in
theorem zm_ok130 : zm_mok zm_P zm_W zm_S zm_St zm_N zm_m130 := ⟨by decide +kernel, by decide +kernel, zd_all 0 (by decide +kernel), Or.inr (zm_cw 5 144 rfl rfl)⟩
set_option maxRecDepth 100000 in
theorem zm_ok131 : zm_mok zm_P zm_W zm_S zm_St zm_N zm_m131 := ⟨by decide +kernel, by decide +kernel, zd_all 0 (by decide +kernel), Or.inr (zm_cw 5 149 rfl rfl)⟩
set_option maxRecDepth 100000 in
theorem zm_ok132 : zm_mok zm_P zm_W zm_S zm_St zm_N zm_m132 := ⟨by decide +kernel, by decide +kernel, zd_all 0 (by decide +kernel), Or.inr (zm_cw 5 153 rfl rfl)⟩
set_option maxRecDepth 100000 in
theorem zm_ok133 : zm_mok zm_P zm_W zm_S zm_St zm_N zm_m133 := ⟨by decide +kernel, by decide +kernel, zd_all 0 (by decide +kernel), Or.inr (zm_cw 5 158 rfl rfl)⟩
set_option maxRecDepth 100000 in
theorem zm_ok134 : zm_mok zm_P zm_W zm_S zm_St zm_N zm_m134 := ⟨by decide +kernel, by decide +kernel, zd_all 0 (by decide +kernel), Or.inr (zm_cw 5 163 rfl rfl)⟩
set_option maxRecDepth 100000 in
theorem zm_ok135 : zm_mok zm_P zm_W zm_S zm_St zm_N zm_m135 := ⟨by decide +kernel, by decide +kernel, zd_all 0 (by decide +kernel), Or.inr (zm_cw 5 167 rfl rfl)⟩
set_option maxRecDepth 100000 in
theorem zm_ok136 : zm_mok zm_P zm_W zm_S zm_St zm_N zm_m136 := ⟨by decide +kernel, by decide +kernel, zd_all 0 (by decide +kernel), Or.inr (zm_cw 5 171 rfl rfl)⟩
set_option maxRecDepth 100000 in
theorem zm_ok137 : zm_mok zm_P zm_W zm_S zm_St zm_N zm_m137 := ⟨by decide +kernel, by decide +kernel, zd_all 0 (by decide +kernel), Or.inr (zm_cw 5 175 rfl rfl)⟩
set_option maxRecDepth 100000 in
theorem zm_ok138 : zm_mok zm_P zm_W zm_S zm_St zm_N zm_m138 := ⟨by decide +kernel, by decide +kernel, zd_all 0 (by decide +kernel), Or.inr (zm_cw 5 179 rfl rfl)⟩
set_option maxRecDepth 100000 in
theorem zm_ok139 : zm_mok zm_P zm_W zm_S zm_St zm_N zm_m139 := ⟨by decide +kernel, by decide +kernel, zd_all 0 (by decide +kernel), Or.inr (zm_cw 5 183 rfl rfl)⟩
set_option maxRecDepth 100000 in
theorem zm_ok140 : zm_mok zm_P zm_W zm_S zm_St zm_N zm_m140 := ⟨by decide +kernel, by decide +kernel, zd_all 0 (by decide +kernel), Or.inr (zm_cw 5 187 rfl rfl)⟩
set_option maxRecDepth 100000 in
theorem zm_ok141 : zm_mok zm_P zm_W zm_S zm_St zm_N zm_m141 := ⟨by decide +kernel, by decide +kernel, zd_all 0 (by decide +kernel), Or.inr (zm_cw 5 194 rfl rfl)⟩
set_option maxRecDepth 100000 in
theorem zm_ok142 : zm_mok zm_P zm_W zm_S zm_St zm_N zm_m142 := ⟨by decide +kernel, by decide +kernel, zd_all 0 (by decide +kernel), Or.inr (zm_cw 5 198 rfl rfl)⟩
