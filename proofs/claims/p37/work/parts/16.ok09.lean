/-! The rows are right -/
set_option maxRecDepth 100000 in
theorem zm_ok181 : zm_mok zm_P zm_W zm_S zm_St zm_N zm_m181 := ⟨by decide +kernel, by decide +kernel, zd_all 0 (by decide +kernel), Or.inr (zm_cw 8 5 rfl rfl)⟩
set_option maxRecDepth 100000 in
theorem zm_ok182 : zm_mok zm_P zm_W zm_S zm_St zm_N zm_m182 := ⟨by decide +kernel, by decide +kernel, zd_all 0 (by decide +kernel), Or.inr (zm_cw 8 8 rfl rfl)⟩
set_option maxRecDepth 100000 in
theorem zm_ok183 : zm_mok zm_P zm_W zm_S zm_St zm_N zm_m183 := ⟨by decide +kernel, by decide +kernel, zd_all 0 (by decide +kernel), Or.inr (zm_cw 8 12 rfl rfl)⟩
set_option maxRecDepth 100000 in
theorem zm_ok184 : zm_mok zm_P zm_W zm_S zm_St zm_N zm_m184 := ⟨by decide +kernel, by decide +kernel, zd_all 0 (by decide +kernel), Or.inr (zm_cw 8 16 rfl rfl)⟩
set_option maxRecDepth 100000 in
theorem zm_ok185 : zm_mok zm_P zm_W zm_S zm_St zm_N zm_m185 := ⟨by decide +kernel, by decide +kernel, zd_all 0 (by decide +kernel), Or.inr (zm_cw 8 20 rfl rfl)⟩
set_option maxRecDepth 100000 in
theorem zm_ok186 : zm_mok zm_P zm_W zm_S zm_St zm_N zm_m186 := ⟨by decide +kernel, by decide +kernel, zd_all 0 (by decide +kernel), Or.inr (zm_cw 8 23 rfl rfl)⟩
set_option maxRecDepth 100000 in
theorem zm_ok187 : zm_mok zm_P zm_W zm_S zm_St zm_N zm_m187 := ⟨by decide +kernel, by decide +kernel, zd_all 0 (by decide +kernel), Or.inr (zm_cw 8 27 rfl rfl)⟩
set_option maxRecDepth 100000 in
theorem zm_ok188 : zm_mok zm_P zm_W zm_S zm_St zm_N zm_m188 := ⟨by decide +kernel, by decide +kernel, zd_all 0 (by decide +kernel), Or.inr (zm_cw 8 31 rfl rfl)⟩
set_option maxRecDepth 100000 in
theorem zm_ok189 : zm_mok zm_P zm_W zm_S zm_St zm_N zm_m189 := ⟨by decide +kernel, by decide +kernel, zd_all 0 (by decide +kernel), Or.inr (zm_cw 8 37 rfl rfl)⟩
set_option maxRecDepth 100000 in
theorem zm_ok190 : zm_mok zm_P zm_W zm_S zm_St zm_N zm_m190 := ⟨by decide +kernel, by decide +kernel, zd_all 0 (by decide +kernel), Or.inr (zm_cw 8 44 rfl rfl)⟩
set_option maxRecDepth 100000 in
theorem zm_ok191 : zm_mok zm_P zm_W zm_S zm_St zm_N zm_m191 := ⟨by decide +kernel, by decide +kernel, zd_all 0 (by decide +kernel), Or.inr (zm_cw 8 50 rfl rfl)⟩
set_option maxRecDepth 100000 in
theorem zm_ok192 : zm_mok zm_P zm_W zm_S zm_St zm_N zm_m192 := ⟨by decide +kernel, by decide +kernel, zd_all 0 (by decide +kernel), Or.inr (zm_cw 8 54 rfl rfl)⟩
set_option maxRecDepth 100000 in
theorem zm_ok193 : zm_mok zm_P zm_W zm_S zm_St zm_N zm_m193 := ⟨by decide +kernel, by decide +kernel, zd_all 0 (by decide +kernel), Or.inr (zm_cw 8 58 rfl rfl)⟩
set_option maxRecDepth 100000 in
theorem zm_ok194 : zm_mok zm_P zm_W zm_S zm_St zm_N zm_m194 := ⟨by decide +kernel, by decide +kernel, zd_all 0 (by decide +kernel), Or.inr (zm_cw 8 70 rfl rfl)⟩
