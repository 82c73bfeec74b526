/-! The rows are right -/
set_option maxRecDepth 100000 in
theorem zm_ok92 : zm_mok zm_P zm_W zm_S zm_St zm_N zm_m92 := ⟨by decide +kernel, by decide +kernel, List.all_eq_true.mp (by decide +kernel : zm_m92.2.all (zm_rok zm_P zm_W zm_S zm_St zm_N zm_m92.1) = true), Or.inr (zm_cw 4 206 rfl rfl)⟩
set_option maxRecDepth 100000 in
theorem zm_ok93 : zm_mok zm_P zm_W zm_S zm_St zm_N zm_m93 := ⟨by decide +kernel, by decide +kernel, List.all_eq_true.mp (by decide +kernel : zm_m93.2.all (zm_rok zm_P zm_W zm_S zm_St zm_N zm_m93.1) = true), Or.inr (zm_cw 4 210 rfl rfl)⟩
set_option maxRecDepth 100000 in
theorem zm_ok94 : zm_mok zm_P zm_W zm_S zm_St zm_N zm_m94 := ⟨by decide +kernel, by decide +kernel, List.all_eq_true.mp (by decide +kernel : zm_m94.2.all (zm_rok zm_P zm_W zm_S zm_St zm_N zm_m94.1) = true), Or.inr (zm_cw 4 214 rfl rfl)⟩
set_option maxRecDepth 100000 in
theorem zm_ok95 : zm_mok zm_P zm_W zm_S zm_St zm_N zm_m95 := ⟨by decide +kernel, by decide +kernel, List.all_eq_true.mp (by decide +kernel : zm_m95.2.all (zm_rok zm_P zm_W zm_S zm_St zm_N zm_m95.1) = true), Or.inr (zm_cw 4 219 rfl rfl)⟩
set_option maxRecDepth 100000 in
theorem zm_ok96 : zm_mok zm_P zm_W zm_S zm_St zm_N zm_m96 := ⟨by decide +kernel, by decide +kernel, List.all_eq_true.mp (by decide +kernel : zm_m96.2.all (zm_rok zm_P zm_W zm_S zm_St zm_N zm_m96.1) = true), Or.inr (zm_cw 4 224 rfl rfl)⟩
set_option maxRecDepth 100000 in
theorem zm_ok97 : zm_mok zm_P zm_W zm_S zm_St zm_N zm_m97 := ⟨by decide +kernel, by decide +kernel, List.all_eq_true.mp (by decide +kernel : zm_m97.2.all (zm_rok zm_P zm_W zm_S zm_St zm_N zm_m97.1) = true), Or.inr (zm_cw 4 228 rfl rfl)⟩
set_option maxRecDepth 100000 in
theorem zm_ok98 : zm_mok zm_P zm_W zm_S zm_St zm_N zm_m98 := ⟨by decide +kernel, by decide +kernel, List.all_eq_true.mp (by decide +kernel : zm_m98.2.all (zm_rok zm_P zm_W zm_S zm_St zm_N zm_m98.1) = true), Or.inr (zm_cw 4 233 rfl rfl)⟩
set_option maxRecDepth 100000 in
theorem zm_ok99 : zm_mok zm_P zm_W zm_S zm_St zm_N zm_m99 := ⟨by decide +kernel, by decide +kernel, List.all_eq_true.mp (by decide +kernel : zm_m99.2.all (zm_rok zm_P zm_W zm_S zm_St zm_N zm_m99.1) = true), Or.inr (zm_cw 4 239 rfl rfl)⟩
set_option maxRecDepth 100000 in
theorem zm_ok100 : zm_mok zm_P zm_W zm_S zm_St zm_N zm_m100 := ⟨by decide +kernel, by decide +kernel, List.all_eq_true.mp (by decide +kernel : zm_m100.2.all (zm_rok zm_P zm_W zm_S zm_St zm_N zm_m100.1) = true), Or.inr (zm_cw 5 8 rfl rfl)⟩
set_option maxRecDepth 100000 in
theorem zm_ok101 : zm_mok zm_P zm_W zm_S zm_St zm_N zm_m101 := ⟨by decide +kernel, by decide +kernel, List.all_eq_true.mp (by decide +kernel : zm_m101.2.all (zm_rok zm_P zm_W zm_S zm_St zm_N zm_m101.1) = true), Or.inr (zm_cw 5 13 rfl rfl)⟩
set_option maxRecDepth 100000 in
theorem zm_ok102 : zm_mok zm_P zm_W zm_S zm_St zm_N zm_m102 := ⟨by decide +kernel, by decide +kernel, List.all_eq_true.mp (by decide +kernel : zm_m102.2.all (zm_rok zm_P zm_W zm_S zm_St zm_N zm_m102.1) = true), Or.inr (zm_cw 5 16 rfl rfl)⟩
set_option maxRecDepth 100000 in
theorem zm_ok103 : zm_mok zm_P zm_W zm_S zm_St zm_N zm_m103 := ⟨by decide +kernel, by decide +kernel, List.all_eq_true.mp (by decide +kernel : zm_m103.2.all (zm_rok zm_P zm_W zm_S zm_St zm_N zm_m103.1) = true), Or.inr (zm_cw 5 26 rfl rfl)⟩
set_option maxRecDepth 100000 in
theorem zm_ok104 : zm_mok zm_P zm_W zm_S zm_St zm_N zm_m104 := ⟨by decide +kernel, by decide +kernel, List.all_eq_true.mp (by decide +kernel : zm_m104.2.all (zm_rok zm_P zm_W zm_S zm_St zm_N zm_m104.1) = true), Or.inr (zm_cw 5 30 rfl rfl)⟩
set_option maxRecDepth 100000 in
theorem zm_ok105 : zm_mok zm_P zm_W zm_S zm_St zm_N zm_m105 := ⟨by decide +kernel, by decide +kernel, List.all_eq_true.mp (by decide +kernel : zm_m105.2.all (zm_rok zm_P zm_W zm_S zm_St zm_N zm_m105.1) = true), Or.inr (zm_cw 5 34 rfl rfl)⟩
