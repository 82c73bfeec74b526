/-! The rows are right -/
set_option maxRecDepth 100000 in
theorem zm_ok73 : zm_mok zm_P zm_W zm_S zm_St zm_N zm_m73 := ⟨by decide +kernel, by decide +kernel, zd_all 0 (by decide +kernel), Or.inr (zm_cw 4 98 rfl rfl)⟩
set_option maxRecDepth 100000 in
theorem zm_ok74 : zm_mok zm_P zm_W zm_S zm_St zm_N zm_m74 := ⟨by decide +kernel, by decide +kernel, zd_all 0 (by decide +kernel), Or.inr (zm_cw 4 102 rfl rfl)⟩
set_option maxRecDepth 100000 in
theorem zm_ok75 : zm_mok zm_P zm_W zm_S zm_St zm_N zm_m75 := ⟨by decide +kernel, by decide +kernel, zd_all 0 (by decide +kernel), Or.inr (zm_cw 4 106 rfl rfl)⟩
set_option maxRecDepth 100000 in
theorem zm_ok76 : zm_mok zm_P zm_W zm_S zm_St zm_N zm_m76 := ⟨by decide +kernel, by decide +kernel, zd_all 0 (by decide +kernel), Or.inr (zm_cw 4 110 rfl rfl)⟩
set_option maxRecDepth 100000 in
theorem zm_ok77 : zm_mok zm_P zm_W zm_S zm_St zm_N zm_m77 := ⟨by decide +kernel, by decide +kernel, zd_all 0 (by decide +kernel), Or.inr (zm_cw 4 114 rfl rfl)⟩
set_option maxRecDepth 100000 in
theorem zm_ok78 : zm_mok zm_P zm_W zm_S zm_St zm_N zm_m78 := ⟨by decide +kernel, by decide +kernel, zd_all 0 (by decide +kernel), Or.inr (zm_cw 4 117 rfl rfl)⟩
set_option maxRecDepth 100000 in
theorem zm_ok79 : zm_mok zm_P zm_W zm_S zm_St zm_N zm_m79 := ⟨by decide +kernel, by decide +kernel, zd_all 0 (by decide +kernel), Or.inr (zm_cw 4 133 rfl rfl)⟩
set_option maxRecDepth 100000 in
theorem zm_ok80 : zm_mok zm_P zm_W zm_S zm_St zm_N zm_m80 := ⟨by decide +kernel, by decide +kernel, zd_all 0 (by decide +kernel), Or.inr (zm_cw 4 147 rfl rfl)⟩
set_option maxRecDepth 100000 in
theorem zm_ok81 : zm_mok zm_P zm_W zm_S zm_St zm_N zm_m81 := ⟨by decide +kernel, by decide +kernel, zd_all 0 (by decide +kernel), Or.inr (zm_cw 4 151 rfl rfl)⟩
set_option maxRecDepth 100000 in
theorem zm_ok82 : zm_mok zm_P zm_W zm_S zm_St zm_N zm_m82 := ⟨by decide +kernel, by decide +kernel, zd_all 0 (by decide +kernel), Or.inr (zm_cw 4 154 rfl rfl)⟩
set_option maxRecDepth 100000 in
theorem zm_ok83 : zm_mok zm_P zm_W zm_S zm_St zm_N zm_m83 := ⟨by decide +kernel, by decide +kernel, zd_all 0 (by decide +kernel), Or.inr (zm_cw 4 159 rfl rfl)⟩
set_option maxRecDepth 100000 in
theorem zm_ok84 : zm_mok zm_P zm_W zm_S zm_St zm_N zm_m84 := ⟨by decide +kernel, by decide +kernel, zd_all 0 (by decide +kernel), Or.inr (zm_cw 4 169 rfl rfl)⟩
set_option maxRecDepth 100000 in
theorem zm_ok85 : zm_mok zm_P zm_W zm_S zm_St zm_N zm_m85 := ⟨by decide +kernel, by decide +kernel, zd_all 0 (by decide +kernel), Or.inr (zm_cw 4 173 rfl rfl)⟩
set_option maxRecDepth 100000 in
theorem zm_ok86 : zm_mok zm_P zm_W zm_S zm_St zm_N zm_m86 := ⟨by decide +kernel, by decide +kernel, zd_all 0 (by decide +kernel), Or.inr (zm_cw 4 177 rfl rfl)⟩
set_option maxRecDepth 100000 in
theorem zm_ok87 : zm_mok zm_P zm_W zm_S zm_St zm_N zm_m87 := ⟨by decide +kernel, by decide +kernel, zd_all 0 (by decide +kernel), Or.inr (zm_cw 4 180 rfl rfl)⟩
set_option maxRecDepth 100000 in
theorem zm_ok88 : zm_mok zm_P zm_W zm_S zm_St zm_N zm_m88 := ⟨by decide +kernel, by decide +kernel, zd_all 0 (by decide +kernel), Or.inr (zm_cw 4 184 rfl rfl)⟩
set_option maxRecDepth 100000 in
theorem zm_ok89 : zm_mok zm_P zm_W zm_S zm_St zm_N zm_m89 := ⟨by decide +kernel, by decide +kernel, zd_all 0 (by decide +kernel), Or.inr (zm_cw 4 189 rfl rfl)⟩
set_option maxRecDepth 100000 in
theorem zm_ok90 : zm_mok zm_P zm_W zm_S zm_St zm_N zm_m90 := ⟨by decide +kernel, by decide +kernel, zd_all 0 (by decide +kernel), Or.inr (zm_cw 4 194 rfl rfl)⟩
set_option maxRecDepth 100000 in
theorem zm_ok91 : zm_mok zm_P zm_W zm_S zm_St zm_N zm_m91 := ⟨by decide +kernel, by decide +kernel, zd_all 0 (by decide +kernel), Or.inr (zm_cw 4 198 rfl rfl)⟩
