/-! The rows are right -/
set_option maxRecDepth 100000 in
theorem zm_ok125 : zm_mok zm_P zm_W zm_S zm_St zm_N zm_m125 := ⟨by decide +kernel, by decide +kernel, List.all_eq_true.mp (by decide +kernel : zm_m125.2.all (zm_rok zm_P zm_W zm_S zm_St zm_N zm_m125.1) = true), Or.inr (zm_cw 5 121 rfl rfl)⟩
set_option maxRecDepth 100000 in
theorem zm_ok126 : zm_mok zm_P zm_W zm_S zm_St zm_N zm_m126 := ⟨by decide +kernel, by decide +kernel, List.all_eq_true.mp (by decide +kernel : zm_m126.2.all (zm_rok zm_P zm_W zm_S zm_St zm_N zm_m126.1) = true), Or.inr (zm_cw 5 125 rfl rfl)⟩
set_option maxRecDepth 100000 in
theorem zm_ok127 : zm_mok zm_P zm_W zm_S zm_St zm_N zm_m127 := ⟨by decide +kernel, by decide +kernel, List.all_eq_true.mp (by decide +kernel : zm_m127.2.all (zm_rok zm_P zm_W zm_S zm_St zm_N zm_m127.1) = true), Or.inr (zm_cw 5 131 rfl rfl)⟩
set_option maxRecDepth 100000 in
theorem zm_ok128 : zm_mok zm_P zm_W zm_S zm_St zm_N zm_m128 := ⟨by decide +kernel, by decide +kernel, List.all_eq_true.mp (by decide +kernel : zm_m128.2.all (zm_rok zm_P zm_W zm_S zm_St zm_N zm_m128.1) = true), Or.inr (zm_cw 5 135 rfl rfl)⟩
set_option maxRecDepth 100000 in
theorem zm_ok129 : zm_mok zm_P zm_W zm_S zm_St zm_N zm_m129 := ⟨by decide +kernel, by decide +kernel, List.all_eq_true.mp (by decide +kernel : zm_m129.2.all (zm_rok zm_P zm_W zm_S zm_St zm_N zm_m129.1) = true), Or.inr (zm_cw 5 140 rfl rfl)⟩
set_option maxRecDepth 100000 in
theorem zm_ok130 : zm_mok zm_P zm_W zm_S zm_St zm_N zm_m130 := ⟨by decide +kernel, by decide +kernel, List.all_eq_true.mp (by decide +kernel : zm_m130.2.all (zm_rok zm_P zm_W zm_S zm_St zm_N zm_m130.1) = true), Or.inr (zm_cw 5 144 rfl rfl)⟩
set_option maxRecDepth 100000 in
theorem zm_ok131 : zm_mok zm_P zm_W zm_S zm_St zm_N zm_m131 := ⟨by decide +kernel, by decide +kernel, List.all_eq_true.mp (by decide +kernel : zm_m131.2.all (zm_rok zm_P zm_W zm_S zm_St zm_N zm_m131.1) = true), Or.inr (zm_cw 5 149 rfl rfl)⟩
set_option maxRecDepth 100000 in
theorem zm_ok132 : zm_mok zm_P zm_W zm_S zm_St zm_N zm_m132 := ⟨by decide +kernel, by decide +kernel, List.all_eq_true.mp (by decide +kernel : zm_m132.2.all (zm_rok zm_P zm_W zm_S zm_St zm_N zm_m132.1) = true), Or.inr (zm_cw 5 153 rfl rfl)⟩
set_option maxRecDepth 100000 in
theorem zm_ok133 : zm_mok zm_P zm_W zm_S zm_St zm_N zm_m133 := ⟨by decide +kernel, by decide +kernel, List.all_eq_true.mp (by decide +kernel : zm_m133.2.all (zm_rok zm_P zm_W zm_S zm_St zm_N zm_m133.1) = true), Or.inr (zm_cw 5 158 rfl rfl)⟩
set_option maxRecDepth 100000 in
theorem zm_ok134 : zm_mok zm_P zm_W zm_S zm_St zm_N zm_m134 := ⟨by decide +kernel, by decide +kernel, List.all_eq_true.mp (by decide +kernel : zm_m134.2.all (zm_rok zm_P zm_W zm_S zm_St zm_N zm_m134.1) = true), Or.inr (zm_cw 5 163 rfl rfl)⟩
set_option maxRecDepth 100000 in
theorem zm_ok135 : zm_mok zm_P zm_W zm_S zm_St zm_N zm_m135 := ⟨by decide +kernel, by decide +kernel, List.all_eq_true.mp (by decide +kernel : zm_m135.2.all (zm_rok zm_P zm_W zm_S zm_St zm_N zm_m135.1) = true), Or.inr (zm_cw 5 167 rfl rfl)⟩
set_option maxRecDepth 100000 in
theorem zm_ok136 : zm_mok zm_P zm_W zm_S zm_St zm_N zm_m136 := ⟨by decide +kernel, by decide +kernel, List.all_eq_true.mp (by decide +kernel : zm_m136.2.all (zm_rok zm_P zm_W zm_S zm_St zm_N zm_m136.1) = true), Or.inr (zm_cw 5 171 rfl rfl)⟩
set_option maxRecDepth 100000 in
theorem zm_ok137 : zm_mok zm_P zm_W zm_S zm_St zm_N zm_m137 := ⟨by decide +kernel, by decide +kernel, List.all_eq_true.mp (by decide +kernel : zm_m137.2.all (zm_rok zm_P zm_W zm_S zm_St zm_N zm_m137.1) = true), Or.inr (zm_cw 5 175 rfl rfl)⟩
set_option maxRecDepth 100000 in
theorem zm_ok138 : zm_mok zm_P zm_W zm_S zm_St zm_N zm_m138 := ⟨by decide +kernel, by decide +kernel, List.all_eq_true.mp (by decide +kernel : zm_m138.2.all (zm_rok zm_P zm_W zm_S zm_St zm_N zm_m138.1) = true), Or.inr (zm_cw 5 179 rfl rfl)⟩
set_option maxRecDepth 100000 in
theorem zm_ok139 : zm_mok zm_P zm_W zm_S zm_St zm_N zm_m139 := ⟨by decide +kernel, by decide +kernel, List.all_eq_true.mp (by decide +kernel : zm_m139.2.all (zm_rok zm_P zm_W zm_S zm_St zm_N zm_m139.1) = true), Or.inr (zm_cw 5 183 rfl rfl)⟩
set_option maxRecDepth 100000 in
theorem zm_ok140 : zm_mok zm_P zm_W zm_S zm_St zm_N zm_m140 := ⟨by decide +kernel, by decide +kernel, List.all_eq_true.mp (by decide +kernel : zm_m140.2.all (zm_rok zm_P zm_W zm_S zm_St zm_N zm_m140.1) = true), Or.inr (zm_cw 5 187 rfl rfl)⟩
set_option maxRecDepth 100000 in
theorem zm_ok141 : zm_mok zm_P zm_W zm_S zm_St zm_N zm_m141 := ⟨by decide +kernel, by decide +kernel, List.all_eq_true.mp (by decide +kernel : zm_m141.2.all (zm_rok zm_P zm_W zm_S zm_St zm_N zm_m141.1) = true), Or.inr (zm_cw 5 194 rfl rfl)⟩
set_option maxRecDepth 100000 in
theorem zm_ok142 : zm_mok zm_P zm_W zm_S zm_St zm_N zm_m142 := ⟨by decide +kernel, by decide +kernel, List.all_eq_true.mp (by decide +kernel : zm_m142.2.all (zm_rok zm_P zm_W zm_S zm_St zm_N zm_m142.1) = true), Or.inr (zm_cw 5 198 rfl rfl)⟩
