/-! The rows are right -/
set_option maxRecDepth 100000 in
theorem zm_ok73 : zm_mok zm_P zm_W zm_S zm_St zm_N zm_m73 := ⟨by decide +kernel, by decide +kernel, List.all_eq_true.mp (by decide +kernel : zm_m73.2.all (zm_rok zm_P zm_W zm_S zm_St zm_N zm_m73.1) = true), Or.inr (zm_cw 4 98 rfl rfl)⟩
set_option maxRecDepth 100000 in
theorem zm_ok74 : zm_mok zm_P zm_W zm_S zm_St zm_N zm_m74 := ⟨by decide +kernel, by decide +kernel, List.all_eq_true.mp (by decide +kernel : zm_m74.2.all (zm_rok zm_P zm_W zm_S zm_St zm_N zm_m74.1) = true), Or.inr (zm_cw 4 102 rfl rfl)⟩
set_option maxRecDepth 100000 in
theorem zm_ok75 : zm_mok zm_P zm_W zm_S zm_St zm_N zm_m75 := ⟨by decide +kernel, by decide +kernel, List.all_eq_true.mp (by decide +kernel : zm_m75.2.all (zm_rok zm_P zm_W zm_S zm_St zm_N zm_m75.1) = true), Or.inr (zm_cw 4 106 rfl rfl)⟩
set_option maxRecDepth 100000 in
theorem zm_ok76 : zm_mok zm_P zm_W zm_S zm_St zm_N zm_m76 := ⟨by decide +kernel, by decide +kernel, List.all_eq_true.mp (by decide +kernel : zm_m76.2.all (zm_rok zm_P zm_W zm_S zm_St zm_N zm_m76.1) = true), Or.inr (zm_cw 4 110 rfl rfl)⟩
set_option maxRecDepth 100000 in
theorem zm_ok77 : zm_mok zm_P zm_W zm_S zm_St zm_N zm_m77 := ⟨by decide +kernel, by decide +kernel, List.all_eq_true.mp (by decide +kernel : zm_m77.2.all (zm_rok zm_P zm_W zm_S zm_St zm_N zm_m77.1) = true), Or.inr (zm_cw 4 114 rfl rfl)⟩
set_option maxRecDepth 100000 in
theorem zm_ok78 : zm_mok zm_P zm_W zm_S zm_St zm_N zm_m78 := ⟨by decide +kernel, by decide +kernel, List.all_eq_true.mp (by decide +kernel : zm_m78.2.all (zm_rok zm_P zm_W zm_S zm_St zm_N zm_m78.1) = true), Or.inr (zm_cw 4 117 rfl rfl)⟩
set_option maxRecDepth 100000 in
theorem zm_ok79 : zm_mok zm_P zm_W zm_S zm_St zm_N zm_m79 := ⟨by decide +kernel, by decide +kernel, List.all_eq_true.mp (by decide +kernel : zm_m79.2.all (zm_rok zm_P zm_W zm_S zm_St zm_N zm_m79.1) = true), Or.inr (zm_cw 4 133 rfl rfl)⟩
set_option maxRecDepth 100000 in
theorem zm_ok80 : zm_mok zm_P zm_W zm_S zm_St zm_N zm_m80 := ⟨by decide +kernel, by decide +kernel, List.all_eq_true.mp (by decide +kernel : zm_m80.2.all (zm_rok zm_P zm_W zm_S zm_St zm_N zm_m80.1) = true), Or.inr (zm_cw 4 147 rfl rfl)⟩
set_option maxRecDepth 100000 in
theorem zm_ok81 : zm_mok zm_P zm_W zm_S zm_St zm_N zm_m81 := ⟨by decide +kernel, by decide +kernel, List.all_eq_true.mp (by decide +kernel : zm_m81.2.all (zm_rok zm_P zm_W zm_S zm_St zm_N zm_m81.1) = true), Or.inr (zm_cw 4 151 rfl rfl)⟩
set_option maxRecDepth 100000 in
theorem zm_ok82 : zm_mok zm_P zm_W zm_S zm_St zm_N zm_m82 := ⟨by decide +kernel, by decide +kernel, List.all_eq_true.mp (by decide +kernel : zm_m82.2.all (zm_rok zm_P zm_W zm_S zm_St zm_N zm_m82.1) = true), Or.inr (zm_cw 4 154 rfl rfl)⟩
set_option maxRecDepth 100000 in
theorem zm_ok83 : zm_mok zm_P zm_W zm_S zm_St zm_N zm_m83 := ⟨by decide +kernel, by decide +kernel, List.all_eq_true.mp (by decide +kernel : zm_m83.2.all (zm_rok zm_P zm_W zm_S zm_St zm_N zm_m83.1) = true), Or.inr (zm_cw 4 159 rfl rfl)⟩
set_option maxRecDepth 100000 in
theorem zm_ok84 : zm_mok zm_P zm_W zm_S zm_St zm_N zm_m84 := ⟨by decide +kernel, by decide +kernel, List.all_eq_true.mp (by decide +kernel : zm_m84.2.all (zm_rok zm_P zm_W zm_S zm_St zm_N zm_m84.1) = true), Or.inr (zm_cw 4 169 rfl rfl)⟩
set_option maxRecDepth 100000 in
theorem zm_ok85 : zm_mok zm_P zm_W zm_S zm_St zm_N zm_m85 := ⟨by decide +kernel, by decide +kernel, List.all_eq_true.mp (by decide +kernel : zm_m85.2.all (zm_rok zm_P zm_W zm_S zm_St zm_N zm_m85.1) = true), Or.inr (zm_cw 4 173 rfl rfl)⟩
set_option maxRecDepth 100000 in
theorem zm_ok86 : zm_mok zm_P zm_W zm_S zm_St zm_N zm_m86 := ⟨by decide +kernel, by decide +kernel, List.all_eq_true.mp (by decide +kernel : zm_m86.2.all (zm_rok zm_P zm_W zm_S zm_St zm_N zm_m86.1) = true), Or.inr (zm_cw 4 177 rfl rfl)⟩
set_option maxRecDepth 100000 in
theorem zm_ok87 : zm_mok zm_P zm_W zm_S zm_St zm_N zm_m87 := ⟨by decide +kernel, by decide +kernel, List.all_eq_true.mp (by decide +kernel : zm_m87.2.all (zm_rok zm_P zm_W zm_S zm_St zm_N zm_m87.1) = true), Or.inr (zm_cw 4 180 rfl rfl)⟩
set_option maxRecDepth 100000 in
theorem zm_ok88 : zm_mok zm_P zm_W zm_S zm_St zm_N zm_m88 := ⟨by decide +kernel, by decide +kernel, List.all_eq_true.mp (by decide +kernel : zm_m88.2.all (zm_rok zm_P zm_W zm_S zm_St zm_N zm_m88.1) = true), Or.inr (zm_cw 4 184 rfl rfl)⟩
set_option maxRecDepth 100000 in
theorem zm_ok89 : zm_mok zm_P zm_W zm_S zm_St zm_N zm_m89 := ⟨by decide +kernel, by decide +kernel, List.all_eq_true.mp (by decide +kernel : zm_m89.2.all (zm_rok zm_P zm_W zm_S zm_St zm_N zm_m89.1) = true), Or.inr (zm_cw 4 189 rfl rfl)⟩
set_option maxRecDepth 100000 in
theorem zm_ok90 : zm_mok zm_P zm_W zm_S zm_St zm_N zm_m90 := ⟨by decide +kernel, by decide +kernel, List.all_eq_true.mp (by decide +kernel : zm_m90.2.all (zm_rok zm_P zm_W zm_S zm_St zm_N zm_m90.1) = true), Or.inr (zm_cw 4 194 rfl rfl)⟩
set_option maxRecDepth 100000 in
theorem zm_ok91 : zm_mok zm_P zm_W zm_S zm_St zm_N zm_m91 := ⟨by decide +kernel, by decide +kernel, List.all_eq_true.mp (by decide +kernel : zm_m91.2.all (zm_rok zm_P zm_W zm_S zm_St zm_N zm_m91.1) = true), Or.inr (zm_cw 4 198 rfl rfl)⟩
