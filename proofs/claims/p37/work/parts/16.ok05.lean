/-! The rows are right -/
set_option maxRecDepth 100000 in
theorem zm_ok106 : zm_mok zm_P zm_W zm_S zm_St zm_N zm_m106 := ⟨by decide +kernel, by decide +kernel, zd_all 0 (by decide +kernel), Or.inr (zm_cw 5 38 rfl rfl)⟩
set_option maxRecDepth 100000 in
theorem zm_ok107 : zm_mok zm_P zm_W zm_S zm_St zm_N zm_m107 := ⟨by decide +kernel, by decide +kernel, zd_all 0 (by decide +kernel), Or.inr (zm_cw 5 44 rfl rfl)⟩
set_option maxRecDepth 100000 in
theorem zm_ok108 : zm_mok zm_P zm_W zm_S zm_St zm_N zm_m108 := ⟨by decide +kernel, by decide +kernel, zd_all 0 (by decide +kernel), Or.inr (zm_cw 5 48 rfl rfl)⟩
set_option maxRecDepth 100000 in
theorem zm_ok109 : zm_mok zm_P zm_W zm_S zm_St zm_N zm_m109 := ⟨by decide +kernel, by decide +kernel, zd_all 0 (by decide +kernel), Or.inr (zm_cw 5 54 rfl rfl)⟩
set_option maxRecDepth 100000 in
theorem zm_ok110 : zm_mok zm_P zm_W zm_S zm_St zm_N zm_m110 := ⟨by decide +kernel, by decide +kernel, zd_all 0 (by decide +kernel), Or.inr (zm_cw 5 59 rfl rfl)⟩
set_option maxRecDepth 100000 in
theorem zm_ok111 : zm_mok zm_P zm_W zm_S zm_St zm_N zm_m111 := ⟨by decide +kernel, by decide +kernel, zd_all 0 (by decide +kernel), Or.inr (zm_cw 5 63 rfl rfl)⟩
set_option maxRecDepth 100000 in
theorem zm_ok112 : zm_mok zm_P zm_W zm_S zm_St zm_N zm_m112 := ⟨by decide +kernel, by decide +kernel, zd_all 0 (by decide +kernel), Or.inr (zm_cw 5 67 rfl rfl)⟩
set_option maxRecDepth 100000 in
theorem zm_ok113 : zm_mok zm_P zm_W zm_S zm_St zm_N zm_m113 := ⟨by decide +kernel, by decide +kernel, zd_all 0 (by decide +kernel), Or.inr (zm_cw 5 72 rfl rfl)⟩
set_option maxRecDepth 100000 in
theorem zm_ok114 : zm_mok zm_P zm_W zm_S zm_St zm_N zm_m114 := ⟨by decide +kernel, by decide +kernel, zd_all 0 (by decide +kernel), Or.inr (zm_cw 5 76 rfl rfl)⟩
set_option maxRecDepth 100000 in
theorem zm_ok115 : zm_mok zm_P zm_W zm_S zm_St zm_N zm_m115 := ⟨by decide +kernel, by decide +kernel, zd_all 0 (by decide +kernel), Or.inr (zm_cw 5 80 rfl rfl)⟩
set_option maxRecDepth 100000 in
theorem zm_ok116 : zm_mok zm_P zm_W zm_S zm_St zm_N zm_m116 := ⟨by decide +kernel, by decide +kernel, zd_all 0 (by decide +kernel), Or.inr (zm_cw 5 84 rfl rfl)⟩
set_option maxRecDepth 100000 in
theorem zm_ok117 : zm_mok zm_P zm_W zm_S zm_St zm_N zm_m117 := ⟨by decide +kernel, by decide +kernel, zd_all 0 (by decide +kernel), Or.inr (zm_cw 5 89 rfl rfl)⟩
set_option maxRecDepth 100000 in
theorem zm_ok118 : zm_mok zm_P zm_W zm_S zm_St zm_N zm_m118 := ⟨by decide +kernel, by decide +kernel, zd_all 0 (by decide +kernel), Or.inr (zm_cw 5 93 rfl rfl)⟩
set_option maxRecDepth 100000 in
theorem zm_ok119 : zm_mok zm_P zm_W zm_S zm_St zm_N zm_m119 := ⟨by decide +kernel, by decide +kernel, zd_all 0 (by decide +kernel), Or.inr (zm_cw 5 97 rfl rfl)⟩
set_option maxRecDepth 100000 in
theorem zm_ok120 : zm_mok zm_P zm_W zm_S zm_St zm_N zm_m120 := ⟨by decide +kernel, by decide +kernel, zd_all 0 (by decide +kernel), Or.inr (zm_cw 5 101 rfl rfl)⟩
set_option maxRecDepth 100000 in
theorem zm_ok121 : zm_mok zm_P zm_W zm_S zm_St zm_N zm_m121 := ⟨by decide +kernel, by decide +kernel, zd_all 0 (by decide +kernel), Or.inr (zm_cw 5 105 rfl rfl)⟩
set_option maxRecDepth 100000 in
theorem zm_ok122 : zm_mok zm_P zm_W zm_S zm_St zm_N zm_m122 := ⟨by decide +kernel, by decide +kernel, zd_all 0 (by decide +kernel), Or.inr (zm_cw 5 109 rfl rfl)⟩
set_option maxRecDepth 100000 in
theorem zm_ok123 : zm_mok zm_P zm_W zm_S zm_St zm_N zm_m123 := ⟨by decide +kernel, by decide +kernel, zd_all 0 (by decide +kernel), Or.inr (zm_cw 5 113 rfl rfl)⟩
set_option maxRecDepth 100000 in
theorem zm_ok124 : zm_mok zm_P zm_W zm_S zm_St zm_N zm_m124 := ⟨by decide +kernel, by decide +kernel, zd_all 0 (by decide +kernel), Or.inr (zm_cw 5 117 rfl rfl)⟩
