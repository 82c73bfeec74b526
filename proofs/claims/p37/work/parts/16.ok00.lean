/-! The rows are right -/
set_option maxRecDepth 100000 in
theorem zm_ok0 : zm_mok zm_P zm_W zm_S zm_St zm_N zm_m0 := ⟨by decide +kernel, by decide +kernel, zd_all 0 (by decide +kernel), Or.inr (zm_cw 1 28 rfl rfl)⟩
set_option maxRecDepth 100000 in
theorem zm_ok1 : zm_mok zm_P zm_W zm_S zm_St zm_N zm_m1 := ⟨by decide +kernel, by decide +kernel, zd_all 0 (by decide +kernel), Or.inr (zm_cw 1 38 rfl rfl)⟩
set_option maxRecDepth 100000 in
theorem zm_ok2 : zm_mok zm_P zm_W zm_S zm_St zm_N zm_m2 := ⟨by decide +kernel, by decide +kernel, zd_all 0 (by decide +kernel), Or.inr (zm_cw 1 77 rfl rfl)⟩
set_option maxRecDepth 100000 in
theorem zm_ok3 : zm_mok zm_P zm_W zm_S zm_St zm_N zm_m3 := ⟨by decide +kernel, by decide +kernel, zd_all 0 (by decide +kernel), Or.inr (zm_cw 1 84 rfl rfl)⟩
set_option maxRecDepth 100000 in
theorem zm_ok4 : zm_mok zm_P zm_W zm_S zm_St zm_N zm_m4 := ⟨by decide +kernel, by decide +kernel, zd_all 0 (by decide +kernel), Or.inr (zm_cw 1 156 rfl rfl)⟩
set_option maxRecDepth 100000 in
theorem zm_ok5 : zm_mok zm_P zm_W zm_S zm_St zm_N zm_m5 := ⟨by decide +kernel, by decide +kernel, zd_all 0 (by decide +kernel), Or.inr (zm_cw 1 175 rfl rfl)⟩
set_option maxRecDepth 100000 in
theorem zm_ok6 : zm_mok zm_P zm_W zm_S zm_St zm_N zm_m6 := ⟨by decide +kernel, by decide +kernel, zd_all 0 (by decide +kernel), Or.inr (zm_cw 1 218 rfl rfl)⟩
set_option maxRecDepth 100000 in
theorem zm_ok7 : zm_mok zm_P zm_W zm_S zm_St zm_N zm_m7 := ⟨by decide +kernel, by decide +kernel, zd_all 0 (by decide +kernel), Or.inr (zm_cw 2 38 rfl rfl)⟩
set_option maxRecDepth 100000 in
theorem zm_ok8 : zm_mok zm_P zm_W zm_S zm_St zm_N zm_m8 := ⟨by decide +kernel, by decide +kernel, zd_all 0 (by decide +kernel), Or.inr (zm_cw 2 64 rfl rfl)⟩
set_option maxRecDepth 100000 in
theorem zm_ok9 : zm_mok zm_P zm_W zm_S zm_St zm_N zm_m9 := ⟨by decide +kernel, by decide +kernel, zd_all 0 (by decide +kernel), Or.inr (zm_cw 2 144 rfl rfl)⟩
set_option maxRecDepth 100000 in
theorem zm_ok10 : zm_mok zm_P zm_W zm_S zm_St zm_N zm_m10 := ⟨by decide +kernel, by decide +kernel, zd_all 0 (by decide +kernel), Or.inr (zm_cw 2 147 rfl rfl)⟩
set_option maxRecDepth 100000 in
theorem zm_ok11 : zm_mok zm_P zm_W zm_S zm_St zm_N zm_m11 := ⟨by decide +kernel, by decide +kernel, zd_all 0 (by decide +kernel), Or.inr (zm_cw 2 151 rfl rfl)⟩
set_option maxRecDepth 100000 in
theorem zm_ok12 : zm_mok zm_P zm_W zm_S zm_St zm_N zm_m12 := ⟨by decide +kernel, by decide +kernel, zd_all 0 (by decide +kernel), Or.inr (zm_cw 2 155 rfl rfl)⟩
set_option maxRecDepth 100000 in
theorem zm_ok13 : zm_mok zm_P zm_W zm_S zm_St zm_N zm_m13 := ⟨by decide +kernel, by decide +kernel, zd_all 0 (by decide +kernel), Or.inr (zm_cw 2 158 rfl rfl)⟩
set_option maxRecDepth 100000 in
theorem zm_ok14 : zm_mok zm_P zm_W zm_S zm_St zm_N zm_m14 := ⟨by decide +kernel, by decide +kernel, zd_all 0 (by decide +kernel), Or.inr (zm_cw 2 161 rfl rfl)⟩
set_option maxRecDepth 100000 in
theorem zm_ok15 : zm_mok zm_P zm_W zm_S zm_St zm_N zm_m15 := ⟨by decide +kernel, by decide +kernel, zd_all 0 (by decide +kernel), Or.inr (zm_cw 2 165 rfl rfl)⟩
set_option maxRecDepth 100000 in
theorem zm_ok16 : zm_mok zm_P zm_W zm_S zm_St zm_N zm_m16 := ⟨by decide +kernel, by decide +kernel, zd_all 0 (by decide +kernel), Or.inr (zm_cw 2 226 rfl rfl)⟩
set_option maxRecDepth 100000 in
theorem zm_ok17 : zm_mok zm_P zm_W zm_S zm_St zm_N zm_m17 := ⟨by decide +kernel, by decide +kernel, zd_all 0 (by decide +kernel), Or.inr (zm_cw 2 230 rfl rfl)⟩
set_option maxRecDepth 100000 in
theorem zm_ok18 : zm_mok zm_P zm_W zm_S zm_St zm_N zm_m18 := ⟨by decide +kernel, by decide +kernel, zd_all 0 (by decide +kernel), Or.inr (zm_cw 2 234 rfl rfl)⟩
set_option maxRecDepth 100000 in
theorem zm_ok19 : zm_mok zm_P zm_W zm_S zm_St zm_N zm_m19 := ⟨by decide +kernel, by decide +kernel, zd_all 0 (by decide +kernel), Or.inr (zm_cw 2 237 rfl rfl)⟩
set_option maxRecDepth 100000 in
theorem zm_ok20 : zm_mok zm_P zm_W zm_S zm_St zm_N zm_m20 := ⟨by decide +kernel, by decide +kernel, zd_all 0 (by decide +kernel), Or.inr (zm_cw 3 1 rfl rfl)⟩
set_option maxRecDepth 100000 in
theorem zm_ok21 : zm_mok zm_P zm_W zm_S zm_St zm_N zm_m21 := ⟨by decide +kernel, by decide +kernel, zd_all 0 (by decide +kernel), Or.inr (zm_cw 3 5 rfl rfl)⟩
