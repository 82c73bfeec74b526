/-! The rows are right -/
set_option maxRecDepth 100000 in
theorem zm_ok92 : zm_mok zm_P zm_W zm_S zm_St zm_N zm_m92 := ⟨by decide +kernel, by decide +kernel, zd_all 0 (by decide +kernel), Or.inr (zm_cw 4 206 rfl rfl)⟩
set_option maxRecDepth 100000 in
theorem zm_ok93 : zm_mok zm_P zm_W zm_S zm_St zm_N zm_m93 := ⟨by decide +kernel, by decide +kernel, zd_all 0 (by decide +kernel), Or.inr (zm_cw 4 210 rfl rfl)⟩
set_option maxRecDepth 100000 in
theorem zm_ok94 : zm_mok zm_P zm_W zm_S zm_St zm_N zm_m94 := ⟨by decide +kernel, by decide +kernel, zd_all 0 (by decide +kernel), Or.inr (zm_cw 4 214 rfl rfl)⟩
set_option maxRecDepth 100000 in
theorem zm_ok95 : zm_mok zm_P zm_W zm_S zm_St zm_N zm_m95 := ⟨by decide +kernel, by decide +kernel, zd_all 0 (by decide +kernel), Or.inr (zm_cw 4 219 rfl rfl)⟩
set_option maxRecDepth 100000 in
theorem zm_ok96 : zm_mok zm_P zm_W zm_S zm_St zm_N zm_m96 := ⟨by decide +kernel, by decide +kernel, zd_all 0 (by decide +kernel), Or.inr (zm_cw 4 224 rfl rfl)⟩
set_option maxRecDepth 100000 in
theorem zm_ok97 : zm_mok zm_P zm_W zm_S zm_St zm_N zm_m97 := ⟨by decide +kernel, by decide +kernel, zd_all 0 (by decide +kernel), Or.inr (zm_cw 4 228 rfl rfl)⟩
set_option maxRecDepth 100000 in
theorem zm_ok98 : zm_mok zm_P zm_W zm_S zm_St zm_N zm_m98 := ⟨by decide +kernel, by decide +kernel, zd_all 0 (by decide +kernel), Or.inr (zm_cw 4 233 rfl rfl)⟩
set_option maxRecDepth 100000 in
theorem zm_ok99 : zm_mok zm_P zm_W zm_S zm_St zm_N zm_m99 := ⟨by decide +kernel, by decide +kernel, zd_all 0 (by decide +kernel), Or.inr (zm_cw 4 239 rfl rfl)⟩
set_option maxRecDepth 100000 in
theorem zm_ok100 : zm_mok zm_P zm_W zm_S zm_St zm_N zm_m100 := ⟨by decide +kernel, by decide +kernel, zd_all 0 (by decide +kernel), Or.inr (zm_cw 5 8 rfl rfl)⟩
set_option maxRecDepth 100000 in
theorem zm_ok101 : zm_mok zm_P zm_W zm_S zm_St zm_N zm_m101 := ⟨by decide +kernel, by decide +kernel, zd_all 0 (by decide +kernel), Or.inr (zm_cw 5 13 rfl rfl)⟩
set_option maxRecDepth 100000 in
theorem zm_ok102 : zm_mok zm_P zm_W zm_S zm_St zm_N zm_m102 := ⟨by decide +kernel, by decide +kernel, zd_all 0 (by decide +kernel), Or.inr (zm_cw 5 16 rfl rfl)⟩
set_option maxRecDepth 100000 in
theorem zm_ok103 : zm_mok zm_P zm_W zm_S zm_St zm_N zm_m103 := ⟨by decide +kernel, by decide +kernel, zd_all 0 (by decide +kernel), Or.inr (zm_cw 5 26 rfl rfl)⟩
set_option maxRecDepth 100000 in
theorem zm_ok104 : zm_mok zm_P zm_W zm_S zm_St zm_N zm_m104 := ⟨by decide +kernel, by decide +kernel, zd_all 0 (by decide +kernel), Or.inr (zm_cw 5 30 rfl rfl)⟩
set_option maxRecDepth 100000 in
theorem zm_ok105 : zm_mok zm_P zm_W zm_S zm_St zm_N zm_m105 := ⟨by decide +kernel, by decide +kernel, zd_all 0 (by decide +kernel), Or.inr (zm_cw 5 34 rfl rfl)⟩
