/-! The rows are right -/
set_option maxRecDepth 100000 in
theorem zm_ok143 : zm_mok zm_P zm_W zm_S zm_St zm_N zm_m143 := ⟨by decide +kernel, by decide +kernel, zd_all 0 (by decide +kernel), Or.inr (zm_cw 5 202 rfl rfl)⟩
set_option maxRecDepth 100000 in
theorem zm_ok144 : zm_mok zm_P zm_W zm_S zm_St zm_N zm_m144 := ⟨by decide +kernel, by decide +kernel, zd_all 0 (by decide +kernel), Or.inr (zm_cw 5 206 rfl rfl)⟩
set_option maxRecDepth 100000 in
theorem zm_ok145 : zm_mok zm_P zm_W zm_S zm_St zm_N zm_m145 := ⟨by decide +kernel, by decide +kernel, zd_all 0 (by decide +kernel), Or.inr (zm_cw 5 210 rfl rfl)⟩
set_option maxRecDepth 100000 in
theorem zm_ok146 : zm_mok zm_P zm_W zm_S zm_St zm_N zm_m146 := ⟨by decide +kernel, by decide +kernel, zd_all 0 (by decide +kernel), Or.inr (zm_cw 5 226 rfl rfl)⟩
set_option maxRecDepth 100000 in
theorem zm_ok147 : zm_mok zm_P zm_W zm_S zm_St zm_N zm_m147 := ⟨by decide +kernel, by decide +kernel, zd_all 0 (by decide +kernel), Or.inr (zm_cw 5 231 rfl rfl)⟩
set_option maxRecDepth 100000 in
theorem zm_ok148 : zm_mok zm_P zm_W zm_S zm_St zm_N zm_m148 := ⟨by decide +kernel, by decide +kernel, zd_all 0 (by decide +kernel), Or.inr (zm_cw 5 235 rfl rfl)⟩
set_option maxRecDepth 100000 in
theorem zm_ok149 : zm_mok zm_P zm_W zm_S zm_St zm_N zm_m149 := ⟨by decide +kernel, by decide +kernel, zd_all 0 (by decide +kernel), Or.inr (zm_cw 6 10 rfl rfl)⟩
set_option maxRecDepth 100000 in
theorem zm_ok150 : zm_mok zm_P zm_W zm_S zm_St zm_N zm_m150 := ⟨by decide +kernel, by decide +kernel, zd_all 0 (by decide +kernel), Or.inr (zm_cw 6 15 rfl rfl)⟩
set_option maxRecDepth 100000 in
theorem zm_ok151 : zm_mok zm_P zm_W zm_S zm_St zm_N zm_m151 := ⟨by decide +kernel, by decide +kernel, zd_all 0 (by decide +kernel), Or.inr (zm_cw 6 19 rfl rfl)⟩
set_option maxRecDepth 100000 in
theorem zm_ok152 : zm_mok zm_P zm_W zm_S zm_St zm_N zm_m152 := ⟨by decide +kernel, by decide +kernel, zd_all 0 (by decide +kernel), Or.inr (zm_cw 6 25 rfl rfl)⟩
set_option maxRecDepth 100000 in
theorem zm_ok153 : zm_mok zm_P zm_W zm_S zm_St zm_N zm_m153 := ⟨by decide +kernel, by decide +kernel, zd_all 0 (by decide +kernel), Or.inr (zm_cw 6 29 rfl rfl)⟩
set_option maxRecDepth 100000 in
theorem zm_ok154 : zm_mok zm_P zm_W zm_S zm_St zm_N zm_m154 := ⟨by decide +kernel, by decide +kernel, zd_all 0 (by decide +kernel), Or.inr (zm_cw 6 33 rfl rfl)⟩
set_option maxRecDepth 100000 in
theorem zm_ok155 : zm_mok zm_P zm_W zm_S zm_St zm_N zm_m155 := ⟨by decide +kernel, by decide +kernel, zd_all 0 (by decide +kernel), Or.inr (zm_cw 6 39 rfl rfl)⟩
set_option maxRecDepth 100000 in
theorem zm_ok156 : zm_mok zm_P zm_W zm_S zm_St zm_N zm_m156 := ⟨by decide +kernel, by decide +kernel, zd_all 0 (by decide +kernel), Or.inr (zm_cw 6 43 rfl rfl)⟩
set_option maxRecDepth 100000 in
theorem zm_ok157 : zm_mok zm_P zm_W zm_S zm_St zm_N zm_m157 := ⟨by decide +kernel, by decide +kernel, zd_all 0 (by decide +kernel), Or.inr (zm_cw 6 48 rfl rfl)⟩
set_option maxRecDepth 100000 in
theorem zm_ok158 : zm_mok zm_P zm_W zm_S zm_St zm_N zm_m158 := ⟨by decide +kernel, by decide +kernel, zd_all 0 (by decide +kernel), Or.inr (zm_cw 6 53 rfl rfl)⟩
