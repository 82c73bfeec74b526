/-! The rows are right -/
set_option maxRecDepth 100000 in
theorem zm_ok22 : zm_mok zm_P zm_W zm_S zm_St zm_N zm_m22 := ⟨by decide +kernel, by decide +kernel, zd_all 0 (by decide +kernel), Or.inr (zm_cw 3 9 rfl rfl)⟩
set_option maxRecDepth 100000 in
theorem zm_ok23 : zm_mok zm_P zm_W zm_S zm_St zm_N zm_m23 := ⟨by decide +kernel, by decide +kernel, zd_all 0 (by decide +kernel), Or.inr (zm_cw 3 17 rfl rfl)⟩
set_option maxRecDepth 100000 in
theorem zm_ok24 : zm_mok zm_P zm_W zm_S zm_St zm_N zm_m24 := ⟨by decide +kernel, by decide +kernel, zd_all 0 (by decide +kernel), Or.inr (zm_cw 3 24 rfl rfl)⟩
set_option maxRecDepth 100000 in
theorem zm_ok25 : zm_mok zm_P zm_W zm_S zm_St zm_N zm_m25 := ⟨by decide +kernel, by decide +kernel, zd_all 0 (by decide +kernel), Or.inr (zm_cw 3 71 rfl rfl)⟩
set_option maxRecDepth 100000 in
theorem zm_ok26 : zm_mok zm_P zm_W zm_S zm_St zm_N zm_m26 := ⟨by decide +kernel, by decide +kernel, zd_all 0 (by decide +kernel), Or.inr (zm_cw 3 75 rfl rfl)⟩
set_option maxRecDepth 100000 in
theorem zm_ok27 : zm_mok zm_P zm_W zm_S zm_St zm_N zm_m27 := ⟨by decide +kernel, by decide +kernel, zd_all 0 (by decide +kernel), Or.inr (zm_cw 3 79 rfl rfl)⟩
set_option maxRecDepth 100000 in
theorem zm_ok28 : zm_mok zm_P zm_W zm_S zm_St zm_N zm_m28 := ⟨by decide +kernel, by decide +kernel, zd_all 0 (by decide +kernel), Or.inr (zm_cw 3 83 rfl rfl)⟩
set_option maxRecDepth 100000 in
theorem zm_ok29 : zm_mok zm_P zm_W zm_S zm_St zm_N zm_m29 := ⟨by decide +kernel, by decide +kernel, zd_all 0 (by decide +kernel), Or.inr (zm_cw 3 87 rfl rfl)⟩
set_option maxRecDepth 100000 in
theorem zm_ok30 : zm_mok zm_P zm_W zm_S zm_St zm_N zm_m30 := ⟨by decide +kernel, by decide +kernel, zd_all 0 (by decide +kernel), Or.inr (zm_cw 3 91 rfl rfl)⟩
set_option maxRecDepth 100000 in
theorem zm_ok31 : zm_mok zm_P zm_W zm_S zm_St zm_N zm_m31 := ⟨by decide +kernel, by decide +kernel, zd_all 0 (by decide +kernel), Or.inr (zm_cw 3 95 rfl rfl)⟩
set_option maxRecDepth 100000 in
theorem zm_ok32 : zm_mok zm_P zm_W zm_S zm_St zm_N zm_m32 := ⟨by decide +kernel, by decide +kernel, zd_all 0 (by decide +kernel), Or.inr (zm_cw 3 99 rfl rfl)⟩
set_option maxRecDepth 100000 in
theorem zm_ok33 : zm_mok zm_P zm_W zm_S zm_St zm_N zm_m33 := ⟨by decide +kernel, by decide +kernel, zd_all 0 (by decide +kernel), Or.inr (zm_cw 3 103 rfl rfl)⟩
set_option maxRecDepth 100000 in
theorem zm_ok34 : zm_mok zm_P zm_W zm_S zm_St zm_N zm_m34 := ⟨by decide +kernel, by decide +kernel, zd_all 0 (by decide +kernel), Or.inr (zm_cw 3 107 rfl rfl)⟩
set_option maxRecDepth 100000 in
theorem zm_ok35 : zm_mok zm_P zm_W zm_S zm_St zm_N zm_m35 := ⟨by decide +kernel, by decide +kernel, zd_all 0 (by decide +kernel), Or.inr (zm_cw 3 111 rfl rfl)⟩
set_option maxRecDepth 100000 in
theorem zm_ok36 : zm_mok zm_P zm_W zm_S zm_St zm_N zm_m36 := ⟨by decide +kernel, by decide +kernel, zd_all 0 (by decide +kernel), Or.inr (zm_cw 3 114 rfl rfl)⟩
set_option maxRecDepth 100000 in
theorem zm_ok37 : zm_mok zm_P zm_W zm_S zm_St zm_N zm_m37 := ⟨by decide +kernel, by decide +kernel, zd_all 0 (by decide +kernel), Or.inr (zm_cw 3 118 rfl rfl)⟩
set_option maxRecDepth 100000 in
theorem zm_ok38 : zm_mok zm_P zm_W zm_S zm_St zm_N zm_m38 := ⟨by decide +kernel, by decide +kernel, zd_all 0 (by decide +kernel), Or.inr (zm_cw 3 122 rfl rfl)⟩
set_option maxRecDepth 100000 in
theorem zm_ok39 : zm_mok zm_P zm_W zm_S zm_St zm_N zm_m39 := ⟨by decide +kernel, by decide +kernel, zd_all 0 (by decide +kernel), Or.inr (zm_cw 3 126 rfl rfl)⟩
set_option maxRecDepth 100000 in
theorem zm_ok40 : zm_mok zm_P zm_W zm_S zm_St zm_N zm_m40 := ⟨by decide +kernel, by decide +kernel, zd_all 0 (by decide +kernel), Or.inr (zm_cw 3 130 rfl rfl)⟩
set_option maxRecDepth 100000 in
theorem zm_ok41 : zm_mok zm_P zm_W zm_S zm_St zm_N zm_m41 := ⟨by decide +kernel, by decide +kernel, zd_all 0 (by decide +kernel), Or.inr (zm_cw 3 134 rfl rfl)⟩
set_option maxRecDepth 100000 in
theorem zm_ok42 : zm_mok zm_P zm_W zm_S zm_St zm_N zm_m42 := ⟨by decide +kernel, by decide +kernel, zd_all 0 (by decide +kernel), Or.inr (zm_cw 3 137 rfl rfl)⟩
set_option maxRecDepth 100000 in
theorem zm_ok43 : zm_mok zm_P zm_W zm_S zm_St zm_N zm_m43 := ⟨by decide +kernel, by decide +kernel, zd_all 0 (by decide +kernel), Or.inr (zm_cw 3 141 rfl rfl)⟩
set_option maxRecDepth 100000 in
theorem zm_ok44 : zm_mok zm_P zm_W zm_S zm_St zm_N zm_m44 := ⟨by decide +kernel, by decide +kernel, zd_all 0 (by decide +kernel), Or.inr (zm_cw 3 147 rfl rfl)⟩
set_option maxRecDepth 100000 in
theorem zm_ok45 : zm_mok zm_P zm_W zm_S zm_St zm_N zm_m45 := ⟨by decide +kernel, by decide +kernel, zd_all 0 (by decide +kernel), Or.inr (zm_cw 3 199 rfl rfl)⟩
set_option maxRecDepth 100000 in
theorem zm_ok46 : zm_mok zm_P zm_W zm_S zm_St zm_N zm_m46 := ⟨by decide +kernel, by decide +kernel, zd_all 0 (by decide +kernel), Or.inr (zm_cw 3 202 rfl rfl)⟩
set_option maxRecDepth 100000 in
theorem zm_ok47 : zm_mok zm_P zm_W zm_S zm_St zm_N zm_m47 := ⟨by decide +kernel, by decide +kernel, zd_all 0 (by decide +kernel), Or.inr (zm_cw 3 206 rfl rfl)⟩
