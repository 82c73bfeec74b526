/-! The rows are right -/
set_option maxRecDepth 100000 in
theorem zm_ok48 : zm_mok zm_P zm_W zm_S zm_St zm_N zm_m48 := ⟨by decide +kernel, by decide +kernel, zd_all 0 (by decide +kernel), Or.inr (zm_cw 3 212 rfl rfl)⟩
set_option maxRecDepth 100000 in
theorem zm_ok49 : zm_mok zm_P zm_W zm_S zm_St zm_N zm_m49 := ⟨by decide +kernel, by decide +kernel, zd_all 0 (by decide +kernel), Or.inr (zm_cw 3 216 rfl rfl)⟩
set_option maxRecDepth 100000 in
theorem zm_ok50 : zm_mok zm_P zm_W zm_S zm_St zm_N zm_m50 := ⟨by decide +kernel, by decide +kernel, zd_all 0 (by decide +kernel), Or.inr (zm_cw 3 220 rfl rfl)⟩
set_option maxRecDepth 100000 in
theorem zm_ok51 : zm_mok zm_P zm_W zm_S zm_St zm_N zm_m51 := ⟨by decide +kernel, by decide +kernel, zd_all 0 (by decide +kernel), Or.inr (zm_cw 3 224 rfl rfl)⟩
set_option maxRecDepth 100000 in
theorem zm_ok52 : zm_mok zm_P zm_W zm_S zm_St zm_N zm_m52 := ⟨by decide +kernel, by decide +kernel, zd_all 0 (by decide +kernel), Or.inr (zm_cw 3 230 rfl rfl)⟩
set_option maxRecDepth 100000 in
theorem zm_ok53 : zm_mok zm_P zm_W zm_S zm_St zm_N zm_m53 := ⟨by decide +kernel, by decide +kernel, zd_all 0 (by decide +kernel), Or.inr (zm_cw 3 234 rfl rfl)⟩
set_option maxRecDepth 100000 in
theorem zm_ok54 : zm_mok zm_P zm_W zm_S zm_St zm_N zm_m54 := ⟨by decide +kernel, by decide +kernel, zd_all 0 (by decide +kernel), Or.inr (zm_cw 3 238 rfl rfl)⟩
set_option maxRecDepth 100000 in
theorem zm_ok55 : zm_mok zm_P zm_W zm_S zm_St zm_N zm_m55 := ⟨by decide +kernel, by decide +kernel, zd_all 0 (by decide +kernel), Or.inr (zm_cw 4 4 rfl rfl)⟩
set_option maxRecDepth 100000 in
theorem zm_ok56 : zm_mok zm_P zm_W zm_S zm_St zm_N zm_m56 := ⟨by decide +kernel, by decide +kernel, zd_all 0 (by decide +kernel), Or.inr (zm_cw 4 10 rfl rfl)⟩
set_option maxRecDepth 100000 in
theorem zm_ok57 : zm_mok zm_P zm_W zm_S zm_St zm_N zm_m57 := ⟨by decide +kernel, by decide +kernel, zd_all 0 (by decide +kernel), Or.inr (zm_cw 4 14 rfl rfl)⟩
set_option maxRecDepth 100000 in
theorem zm_ok58 : zm_mok zm_P zm_W zm_S zm_St zm_N zm_m58 := ⟨by decide +kernel, by decide +kernel, zd_all 0 (by decide +kernel), Or.inr (zm_cw 4 18 rfl rfl)⟩
set_option maxRecDepth 100000 in
theorem zm_ok59 : zm_mok zm_P zm_W zm_S zm_St zm_N zm_m59 := ⟨by decide +kernel, by decide +kernel, zd_all 0 (by decide +kernel), Or.inr (zm_cw 4 22 rfl rfl)⟩
set_option maxRecDepth 100000 in
theorem zm_ok60 : zm_mok zm_P zm_W zm_S zm_St zm_N zm_m60 := ⟨by decide +kernel, by decide +kernel, zd_all 0 (by decide +kernel), Or.inr (zm_cw 4 26 rfl rfl)⟩
set_option maxRecDepth 100000 in
theorem zm_ok61 : zm_mok zm_P zm_W zm_S zm_St zm_N zm_m61 := ⟨by decide +kernel, by decide +kernel, zd_all 0 (by decide +kernel), Or.inr (zm_cw 4 30 rfl rfl)⟩
set_option maxRecDepth 100000 in
theorem zm_ok62 : zm_mok zm_P zm_W zm_S zm_St zm_N zm_m62 := ⟨by decide +kernel, by decide +kernel, zd_all 0 (by decide +kernel), Or.inr (zm_cw 4 34 rfl rfl)⟩
set_option maxRecDepth 100000 in
theorem zm_ok63 : zm_mok zm_P zm_W zm_S zm_St zm_N zm_m63 := ⟨by decide +kernel, by decide +kernel, zd_all 0 (by decide +kernel), Or.inr (zm_cw 4 38 rfl rfl)⟩
set_option maxRecDepth 100000 in
theorem zm_ok64 : zm_mok zm_P zm_W zm_S zm_St zm_N zm_m64 := ⟨by decide +kernel, by decide +kernel, zd_all 0 (by decide +kernel), Or.inr (zm_cw 4 44 rfl rfl)⟩
set_option maxRecDepth 100000 in
theorem zm_ok65 : zm_mok zm_P zm_W zm_S zm_St zm_N zm_m65 := ⟨by decide +kernel, by decide +kernel, zd_all 0 (by decide +kernel), Or.inr (zm_cw 4 50 rfl rfl)⟩
set_option maxRecDepth 100000 in
theorem zm_ok66 : zm_mok zm_P zm_W zm_S zm_St zm_N zm_m66 := ⟨by decide +kernel, by decide +kernel, zd_all 0 (by decide +kernel), Or.inr (zm_cw 4 62 rfl rfl)⟩
set_option maxRecDepth 100000 in
theorem zm_ok67 : zm_mok zm_P zm_W zm_S zm_St zm_N zm_m67 := ⟨by decide +kernel, by decide +kernel, zd_all 0 (by decide +kernel), Or.inr (zm_cw 4 68 rfl rfl)⟩
set_option maxRecDepth 100000 in
theorem zm_ok68 : zm_mok zm_P zm_W zm_S zm_St zm_N zm_m68 := ⟨by decide +kernel, by decide +kernel, zd_all 0 (by decide +kernel), Or.inr (zm_cw 4 72 rfl rfl)⟩
set_option maxRecDepth 100000 in
theorem zm_ok69 : zm_mok zm_P zm_W zm_S zm_St zm_N zm_m69 := ⟨by decide +kernel, by decide +kernel, zd_all 0 (by decide +kernel), Or.inr (zm_cw 4 76 rfl rfl)⟩
set_option maxRecDepth 100000 in
theorem zm_ok70 : zm_mok zm_P zm_W zm_S zm_St zm_N zm_m70 := ⟨by decide +kernel, by decide +kernel, zd_all 0 (by decide +kernel), Or.inr (zm_cw 4 86 rfl rfl)⟩
set_option maxRecDepth 100000 in
theorem zm_ok71 : zm_mok zm_P zm_W zm_S zm_St zm_N zm_m71 := ⟨by decide +kernel, by decide +kernel, zd_all 0 (by decide +kernel), Or.inr (zm_cw 4 90 rfl rfl)⟩
set_option maxRecDepth 100000 in
theorem zm_ok72 : zm_mok zm_P zm_W zm_S zm_St zm_N zm_m72 := ⟨by decide +kernel, by decide +kernel, zd_all 0 (by decide +kernel), Or.inr (zm_cw 4 94 rfl rfl)⟩
