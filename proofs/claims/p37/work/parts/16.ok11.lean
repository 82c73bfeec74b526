/-! The rows are right -/
set_option maxRecDepth 100000 in
theorem zm_ok212 : zm_mok zm_P zm_W zm_S zm_St zm_N zm_m212 := ⟨by decide +kernel, by decide +kernel, zd_all 0 (by decide +kernel), Or.inr (zm_cw 8 142 rfl rfl)⟩
set_option maxRecDepth 100000 in
theorem zm_ok213 : zm_mok zm_P zm_W zm_S zm_St zm_N zm_m213 := ⟨by decide +kernel, by decide +kernel, zd_all 0 (by decide +kernel), Or.inr (zm_cw 8 152 rfl rfl)⟩
set_option maxRecDepth 100000 in
theorem zm_ok214 : zm_mok zm_P zm_W zm_S zm_St zm_N zm_m214 := ⟨by decide +kernel, by decide +kernel, zd_all 0 (by decide +kernel), Or.inr (zm_cw 8 156 rfl rfl)⟩
set_option maxRecDepth 100000 in
theorem zm_ok215 : zm_mok zm_P zm_W zm_S zm_St zm_N zm_m215 := ⟨by decide +kernel, by decide +kernel, zd_all 0 (by decide +kernel), Or.inr (zm_cw 8 162 rfl rfl)⟩
set_option maxRecDepth 100000 in
theorem zm_ok216 : zm_mok zm_P zm_W zm_S zm_St zm_N zm_m216 := ⟨by decide +kernel, by decide +kernel, zd_all 0 (by decide +kernel), Or.inr (zm_cw 8 166 rfl rfl)⟩
set_option maxRecDepth 100000 in
theorem zm_ok217 : zm_mok zm_P zm_W zm_S zm_St zm_N zm_m217 := ⟨by decide +kernel, by decide +kernel, zd_all 0 (by decide +kernel), Or.inr (zm_cw 8 170 rfl rfl)⟩
set_option maxRecDepth 100000 in
theorem zm_ok218 : zm_mok zm_P zm_W zm_S zm_St zm_N zm_m218 := ⟨by decide +kernel, by decide +kernel, zd_all 0 (by decide +kernel), Or.inr (zm_cw 8 176 rfl rfl)⟩
set_option maxRecDepth 100000 in
theorem zm_ok219 : zm_mok zm_P zm_W zm_S zm_St zm_N zm_m219 := ⟨by decide +kernel, by decide +kernel, zd_all 0 (by decide +kernel), Or.inr (zm_cw 8 180 rfl rfl)⟩
set_option maxRecDepth 100000 in
theorem zm_ok220 : zm_mok zm_P zm_W zm_S zm_St zm_N zm_m220 := ⟨by decide +kernel, by decide +kernel, zd_all 0 (by decide +kernel), Or.inr (zm_cw 8 184 rfl rfl)⟩
set_option maxRecDepth 100000 in
theorem zm_ok221 : zm_mok zm_P zm_W zm_S zm_St zm_N zm_m221 := ⟨by decide +kernel, by decide +kernel, zd_all 0 (by decide +kernel), Or.inr (zm_cw 8 188 rfl rfl)⟩
set_option maxRecDepth 100000 in
theorem zm_ok222 : zm_mok zm_P zm_W zm_S zm_St zm_N zm_m222 := ⟨by decide +kernel, by decide +kernel, zd_all 0 (by decide +kernel), Or.inr (zm_cw 8 196 rfl rfl)⟩
set_option maxRecDepth 100000 in
theorem zm_ok223 : zm_mok zm_P zm_W zm_S zm_St zm_N zm_m223 := ⟨by decide +kernel, by decide +kernel, zd_all 0 (by decide +kernel), Or.inr (zm_cw 9 11 rfl rfl)⟩
set_option maxRecDepth 100000 in
theorem zm_ok224 : zm_mok zm_P zm_W zm_S zm_St zm_N zm_m224 := ⟨by decide +kernel, by decide +kernel, zd_all 0 (by decide +kernel), Or.inr (zm_cw 9 15 rfl rfl)⟩
set_option maxRecDepth 100000 in
theorem zm_ok225 : zm_mok zm_P zm_W zm_S zm_St zm_N zm_m225 := ⟨by decide +kernel, by decide +kernel, zd_all 0 (by decide +kernel), Or.inr (zm_cw 9 20 rfl rfl)⟩
set_option maxRecDepth 100000 in
theorem zm_ok226 : zm_mok zm_P zm_W zm_S zm_St zm_N zm_m226 := ⟨by decide +kernel, by decide +kernel, zd_all 0 (by decide +kernel), Or.inr (zm_cw 9 24 rfl rfl)⟩
set_option maxRecDepth 100000 in
theorem zm_ok227 : zm_mok zm_P zm_W zm_S zm_St zm_N zm_m227 := ⟨by decide +kernel, by decide +kernel, zd_all 0 (by decide +kernel), Or.inr (zm_cw 9 29 rfl rfl)⟩
set_option maxRecDepth 100000 in
theorem zm_ok228 : zm_mok zm_P zm_W zm_S zm_St zm_N zm_m228 := ⟨by decide +kernel, by decide +kernel, zd_all 0 (by decide +kernel), Or.inr (zm_cw 9 33 rfl rfl)⟩
set_option maxRecDepth 100000 in
theorem zm_ok229 : zm_mok zm_P zm_W zm_S zm_St zm_N zm_m229 := ⟨by decide +kernel, by decide +kernel, zd_all 0 (by decide +kernel), Or.inr (zm_cw 9 37 rfl rfl)⟩
