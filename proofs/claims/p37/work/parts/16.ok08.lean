/-! The rows are right -/
set_option maxRecDepth 100000 in
theorem zm_ok159 : zm_mok zm_P zm_W zm_S zm_St zm_N zm_m159 := ⟨by decide +kernel, by decide +kernel, zd_all 0 (by decide +kernel), Or.inr (zm_cw 6 57 rfl rfl)⟩
set_option maxRecDepth 100000 in
theorem zm_ok160 : zm_mok zm_P zm_W zm_S zm_St zm_N zm_m160 := ⟨by decide +kernel, by decide +kernel, zd_all 0 (by decide +kernel), Or.inr (zm_cw 6 61 rfl rfl)⟩
set_option maxRecDepth 100000 in
theorem zm_ok161 : zm_mok zm_P zm_W zm_S zm_St zm_N zm_m161 := ⟨by decide +kernel, by decide +kernel, zd_all 0 (by decide +kernel), Or.inr (zm_cw 6 66 rfl rfl)⟩
set_option maxRecDepth 100000 in
theorem zm_ok162 : zm_mok zm_P zm_W zm_S zm_St zm_N zm_m162 := ⟨by decide +kernel, by decide +kernel, zd_all 0 (by decide +kernel), Or.inr (zm_cw 6 71 rfl rfl)⟩
set_option maxRecDepth 100000 in
theorem zm_ok163 : zm_mok zm_P zm_W zm_S zm_St zm_N zm_m163 := ⟨by decide +kernel, by decide +kernel, zd_all 0 (by decide +kernel), Or.inr (zm_cw 6 76 rfl rfl)⟩
set_option maxRecDepth 100000 in
theorem zm_ok164 : zm_mok zm_P zm_W zm_S zm_St zm_N zm_m164 := ⟨by decide +kernel, by decide +kernel, zd_all 0 (by decide +kernel), Or.inr (zm_cw 6 80 rfl rfl)⟩
set_option maxRecDepth 100000 in
theorem zm_ok165 : zm_mok zm_P zm_W zm_S zm_St zm_N zm_m165 := ⟨by decide +kernel, by decide +kernel, zd_all 0 (by decide +kernel), Or.inr (zm_cw 6 87 rfl rfl)⟩
set_option maxRecDepth 100000 in
theorem zm_ok166 : zm_mok zm_P zm_W zm_S zm_St zm_N zm_m166 := ⟨by decide +kernel, by decide +kernel, zd_all 0 (by decide +kernel), Or.inr (zm_cw 6 91 rfl rfl)⟩
set_option maxRecDepth 100000 in
theorem zm_ok167 : zm_mok zm_P zm_W zm_S zm_St zm_N zm_m167 := ⟨by decide +kernel, by decide +kernel, zd_all 0 (by decide +kernel), Or.inr (zm_cw 6 95 rfl rfl)⟩
set_option maxRecDepth 100000 in
theorem zm_ok168 : zm_mok zm_P zm_W zm_S zm_St zm_N zm_m168 := ⟨by decide +kernel, by decide +kernel, zd_all 0 (by decide +kernel), Or.inr (zm_cw 6 99 rfl rfl)⟩
set_option maxRecDepth 100000 in
theorem zm_ok169 : zm_mok zm_P zm_W zm_S zm_St zm_N zm_m169 := ⟨by decide +kernel, by decide +kernel, zd_all 0 (by decide +kernel), Or.inr (zm_cw 6 103 rfl rfl)⟩
set_option maxRecDepth 100000 in
theorem zm_ok170 : zm_mok zm_P zm_W zm_S zm_St zm_N zm_m170 := ⟨by decide +kernel, by decide +kernel, zd_all 0 (by decide +kernel), Or.inr (zm_cw 6 107 rfl rfl)⟩
set_option maxRecDepth 100000 in
theorem zm_ok171 : zm_mok zm_P zm_W zm_S zm_St zm_N zm_m171 := ⟨by decide +kernel, by decide +kernel, zd_all 0 (by decide +kernel), Or.inr (zm_cw 6 111 rfl rfl)⟩
set_option maxRecDepth 100000 in
theorem zm_ok172 : zm_mok zm_P zm_W zm_S zm_St zm_N zm_m172 := ⟨by decide +kernel, by decide +kernel, zd_all 0 (by decide +kernel), Or.inr (zm_cw 6 115 rfl rfl)⟩
set_option maxRecDepth 100000 in
theorem zm_ok173 : zm_mok zm_P zm_W zm_S zm_St zm_N zm_m173 := ⟨by decide +kernel, by decide +kernel, zd_all 0 (by decide +kernel), Or.inr (zm_cw 6 120 rfl rfl)⟩
set_option maxRecDepth 100000 in
theorem zm_ok174 : zm_mok zm_P zm_W zm_S zm_St zm_N zm_m174 := ⟨by decide +kernel, by decide +kernel, zd_all 0 (by decide +kernel), Or.inr (zm_cw 6 124 rfl rfl)⟩
set_option maxRecDepth 100000 in
theorem zm_ok175 : zm_mok zm_P zm_W zm_S zm_St zm_N zm_m175 := ⟨by decide +kernel, by decide +kernel, zd_all 0 (by decide +kernel), Or.inr (zm_cw 6 129 rfl rfl)⟩
set_option maxRecDepth 100000 in
theorem zm_ok176 : zm_mok zm_P zm_W zm_S zm_St zm_N zm_m176 := ⟨by decide +kernel, by decide +kernel, zd_all 0 (by decide +kernel), Or.inr (zm_cw 6 133 rfl rfl)⟩
set_option maxRecDepth 100000 in
theorem zm_ok177 : zm_mok zm_P zm_W zm_S zm_St zm_N zm_m177 := ⟨by decide +kernel, by decide +kernel, zd_all 0 (by decide +kernel), Or.inr (zm_cw 6 136 rfl rfl)⟩
set_option maxRecDepth 100000 in
theorem zm_ok178 : zm_mok zm_P zm_W zm_S zm_St zm_N zm_m178 := ⟨by decide +kernel, by decide +kernel, zd_all 0 (by decide +kernel), Or.inr (zm_cw 6 140 rfl rfl)⟩
set_option maxRecDepth 100000 in
theorem zm_ok179 : zm_mok zm_P zm_W zm_S zm_St zm_N zm_m179 := ⟨by decide +kernel, by decide +kernel, zd_all 0 (by decide +kernel), Or.inr (zm_cw 6 144 rfl rfl)⟩
set_option maxRecDepth 100000 in
theorem zm_ok180 : zm_mok zm_P zm_W zm_S zm_St zm_N zm_m180 := ⟨by decide +kernel, by decide +kernel, zd_all 0 (by decide +kernel), Or.inr (zm_cw 6 150 rfl rfl)⟩
