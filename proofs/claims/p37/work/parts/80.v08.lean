/-! The contracts hold, as checked -/
set_option maxRecDepth 100000 in
theorem xc_125_0 : xchk0 xVV xc_125_m xc_125_u xc_125 xc_125_e 1002 = true := by decide +kernel
set_option maxRecDepth 100000 in
theorem xc_125_1 : xc_125_e.all (xchk1 xVV xc_125_m xc_125_u xc_125 xc_125_e 1002) = true := by decide +kernel
theorem xv_125 {og : Nat → Option zm_C} : xV xVV xX xW og xc_125 := xchk_ok (n := 1002) (MT := xc_125_m) (CT := xc_125_u) (E := xc_125_e) (by
  simp only [xc_125_m, List.forall_mem_cons]
  exact ⟨rfl, rfl, rfl, rfl, rfl, rfl, rfl, rfl, rfl, rfl, rfl, fun _ h => by cases h⟩) (by
  simp only [xc_125_u, List.forall_mem_cons]
  exact ⟨xv_42, xv_24, xv_20, xv_16, xv_15, xv_0, fun _ h => by cases h⟩) xFl_good xXW_ok xc_125_0 (List.all_eq_true.mp xc_125_1)
set_option maxRecDepth 100000 in
theorem xc_126_0 : xchk0 xVV xc_126_m xc_126_u xc_126 xc_126_e 273 = true := by decide +kernel
set_option maxRecDepth 100000 in
theorem xc_126_1 : xc_126_e.all (xchk1 xVV xc_126_m xc_126_u xc_126 xc_126_e 273) = true := by decide +kernel
theorem xv_126 {og : Nat → Option zm_C} : xV xVV xX xW og xc_126 := xchk_ok (n := 273) (MT := xc_126_m) (CT := xc_126_u) (E := xc_126_e) (by
  simp only [xc_126_m, List.forall_mem_cons]
  exact ⟨rfl, rfl, rfl, rfl, rfl, rfl, fun _ h => by cases h⟩) (by
  simp only [xc_126_u, List.forall_mem_cons]
  exact ⟨xv_24, xv_23, xv_20, xv_19, xv_15, xv_13, fun _ h => by cases h⟩) xFl_good xXW_ok xc_126_0 (List.all_eq_true.mp xc_126_1)
set_option maxRecDepth 100000 in
theorem xc_127_0 : xchk0 xVV xc_127_m xc_127_u xc_127 xc_127_e 180 = true := by decide +kernel
set_option maxRecDepth 100000 in
theorem xc_127_1 : xc_127_e.all (xchk1 xVV xc_127_m xc_127_u xc_127 xc_127_e 180) = true := by decide +kernel
theorem xv_127 {og : Nat → Option zm_C} : xV xVV xX xW og xc_127 := xchk_ok (n := 180) (MT := xc_127_m) (CT := xc_127_u) (E := xc_127_e) (by
  simp only [xc_127_m, List.forall_mem_cons]
  exact ⟨rfl, rfl, fun _ h => by cases h⟩) (by
  simp only [xc_127_u, List.forall_mem_cons]
  exact fun _ h => by cases h) xFl_good xXW_ok xc_127_0 (List.all_eq_true.mp xc_127_1)
set_option maxRecDepth 100000 in
theorem xc_128_0 : xchk0 xVV xc_128_m xc_128_u xc_128 xc_128_e 224 = true := by decide +kernel
set_option maxRecDepth 100000 in
theorem xc_128_1 : xc_128_e.all (xchk1 xVV xc_128_m xc_128_u xc_128 xc_128_e 224) = true := by decide +kernel
theorem xv_128 {og : Nat → Option zm_C} : xV xVV xX xW og xc_128 := xchk_ok (n := 224) (MT := xc_128_m) (CT := xc_128_u) (E := xc_128_e) (by
  simp only [xc_128_m, List.forall_mem_cons]
  exact ⟨rfl, rfl, rfl, rfl, rfl, fun _ h => by cases h⟩) (by
  simp only [xc_128_u, List.forall_mem_cons]
  exact ⟨xv_127, xv_7, fun _ h => by cases h⟩) xFl_good xXW_ok xc_128_0 (List.all_eq_true.mp xc_128_1)
set_option maxRecDepth 100000 in
theorem xc_129_0 : xchk0 xVV xc_129_m xc_129_u xc_129 xc_129_e 140 = true := by decide +kernel
set_option maxRecDepth 100000 in
theorem xc_129_1 : xc_129_e.all (xchk1 xVV xc_129_m xc_129_u xc_129 xc_129_e 140) = true := by decide +kernel
theorem xv_129 {og : Nat → Option zm_C} : xV xVV xX xW og xc_129 := xchk_ok (n := 140) (MT := xc_129_m) (CT := xc_129_u) (E := xc_129_e) (by
  simp only [xc_129_m, List.forall_mem_cons]
  exact ⟨rfl, rfl, fun _ h => by cases h⟩) (by
  simp only [xc_129_u, List.forall_mem_cons]
  exact fun _ h => by cases h) xFl_good xXW_ok xc_129_0 (List.all_eq_true.mp xc_129_1)
set_option maxRecDepth 100000 in
theorem xc_130_0 : xchk0 xVV xc_130_m xc_130_u xc_130 xc_130_e 167 = true := by decide +kernel
set_option maxRecDepth 100000 in
theorem xc_130_1 : xc_130_e.all (xchk1 xVV xc_130_m xc_130_u xc_130 xc_130_e 167) = true := by decide +kernel
theorem xv_130 {og : Nat → Option zm_C} : xV xVV xX xW og xc_130 := xchk_ok (n := 167) (MT := xc_130_m) (CT := xc_130_u) (E := xc_130_e) (by
  simp only [xc_130_m, List.forall_mem_cons]
  exact ⟨rfl, rfl, fun _ h => by cases h⟩) (by
  simp only [xc_130_u, List.forall_mem_cons]
  exact fun _ h => by cases h) xFl_good xXW_ok xc_130_0 (List.all_eq_true.mp xc_130_1)
set_option maxRecDepth 100000 in
theorem xc_131_0 : xchk0 xVV xc_131_m xc_131_u xc_131 xc_131_e 696 = true := by decide +kernel
set_option maxRecDepth 100000 in
theorem xc_131_1 : xc_131_e.all (xchk1 xVV xc_131_m xc_131_u xc_131 xc_131_e 696) = true := by decide +kernel
theorem xv_131 {og : Nat → Option zm_C} : xV xVV xX xW og xc_131 := xchk_ok (n := 696) (MT := xc_131_m) (CT := xc_131_u) (E := xc_131_e) (by
  simp only [xc_131_m, List.forall_mem_cons]
  exact ⟨rfl, rfl, rfl, rfl, rfl, rfl, rfl, rfl, rfl, fun _ h => by cases h⟩) (by
  simp only [xc_131_u, List.forall_mem_cons]
  exact ⟨xv_58, xv_10, fun _ h => by cases h⟩) xFl_good xXW_ok xc_131_0 (List.all_eq_true.mp xc_131_1)
set_option maxRecDepth 100000 in
theorem xc_132_0 : xchk0 xVV xc_132_m xc_132_u xc_132 xc_132_e 216 = true := by decide +kernel
set_option maxRecDepth 100000 in
theorem xc_132_1 : xc_132_e.all (xchk1 xVV xc_132_m xc_132_u xc_132 xc_132_e 216) = true := by decide +kernel
theorem xv_132 {og : Nat → Option zm_C} : xV xVV xX xW og xc_132 := xchk_ok (n := 216) (MT := xc_132_m) (CT := xc_132_u) (E := xc_132_e) (by
  simp only [xc_132_m, List.forall_mem_cons]
  exact ⟨rfl, rfl, rfl, rfl, rfl, fun _ h => by cases h⟩) (by
  simp only [xc_132_u, List.forall_mem_cons]
  exact fun _ h => by cases h) xFl_good xXW_ok xc_132_0 (List.all_eq_true.mp xc_132_1)
set_option maxRecDepth 100000 in
theorem xc_133_0 : xchk0 xVV xc_133_m xc_133_u xc_133 xc_133_e 159 = true := by decide +kernel
set_option maxRecDepth 100000 in
theorem xc_133_1 : xc_133_e.all (xchk1 xVV xc_133_m xc_133_u xc_133 xc_133_e 159) = true := by decide +kernel
theorem xv_133 {og : Nat → Option zm_C} : xV xVV xX xW og xc_133 := xchk_ok (n := 159) (MT := xc_133_m) (CT := xc_133_u) (E := xc_133_e) (by
  simp only [xc_133_m, List.forall_mem_cons]
  exact ⟨rfl, rfl, rfl, rfl, rfl, fun _ h => by cases h⟩) (by
  simp only [xc_133_u, List.forall_mem_cons]
  exact fun _ h => by cases h) xFl_good xXW_ok xc_133_0 (List.all_eq_true.mp xc_133_1)
set_option maxRecDepth 100000 in
theorem xc_134_0 : xchk0 xVV xc_134_m xc_134_u xc_134 xc_134_e 268 = true := by decide +kernel
set_option maxRecDepth 100000 in
theorem xc_134_1 : xc_134_e.all (xchk1 xVV xc_134_m xc_134_u xc_134 xc_134_e 268) = true := by decide +kernel
theorem xv_134 {og : Nat → Option zm_C} : xV xVV xX xW og xc_134 := xchk_ok (n := 268) (MT := xc_134_m) (CT := xc_134_u) (E := xc_134_e) (by
  simp only [xc_134_m, List.forall_mem_cons]
  exact ⟨rfl, rfl, rfl, rfl, fun _ h => by cases h⟩) (by
  simp only [xc_134_u, List.forall_mem_cons]
  exact fun _ h => by cases h) xFl_good xXW_ok xc_134_0 (List.all_eq_true.mp xc_134_1)
set_option maxRecDepth 100000 in
theorem xc_135_0 : xchk0 xVV xc_135_m xc_135_u xc_135 xc_135_e 131 = true := by decide +kernel
set_option maxRecDepth 100000 in
theorem xc_135_1 : xc_135_e.all (xchk1 xVV xc_135_m xc_135_u xc_135 xc_135_e 131) = true := by decide +kernel
theorem xv_135 {og : Nat → Option zm_C} : xV xVV xX xW og xc_135 := xchk_ok (n := 131) (MT := xc_135_m) (CT := xc_135_u) (E := xc_135_e) (by
  simp only [xc_135_m, List.forall_mem_cons]
  exact ⟨rfl, rfl, rfl, rfl, fun _ h => by cases h⟩) (by
  simp only [xc_135_u, List.forall_mem_cons]
  exact fun _ h => by cases h) xFl_good xXW_ok xc_135_0 (List.all_eq_true.mp xc_135_1)
set_option maxRecDepth 100000 in
theorem xc_136_0 : xchk0 xVV xc_136_m xc_136_u xc_136 xc_136_e 93 = true := by decide +kernel
set_option maxRecDepth 100000 in
theorem xc_136_1 : xc_136_e.all (xchk1 xVV xc_136_m xc_136_u xc_136 xc_136_e 93) = true := by decide +kernel
theorem xv_136 {og : Nat → Option zm_C} : xV xVV xX xW og xc_136 := xchk_ok (n := 93) (MT := xc_136_m) (CT := xc_136_u) (E := xc_136_e) (by
  simp only [xc_136_m, List.forall_mem_cons]
  exact ⟨rfl, rfl, rfl, fun _ h => by cases h⟩) (by
  simp only [xc_136_u, List.forall_mem_cons]
  exact ⟨xv_11, fun _ h => by cases h⟩) xFl_good xXW_ok xc_136_0 (List.all_eq_true.mp xc_136_1)
set_option maxRecDepth 100000 in
theorem xc_137_0 : xchk0 xVV xc_137_m xc_137_u xc_137 xc_137_e 82 = true := by decide +kernel
set_option maxRecDepth 100000 in
theorem xc_137_1 : xc_137_e.all (xchk1 xVV xc_137_m xc_137_u xc_137 xc_137_e 82) = true := by decide +kernel
theorem xv_137 {og : Nat → Option zm_C} : xV xVV xX xW og xc_137 := xchk_ok (n := 82) (MT := xc_137_m) (CT := xc_137_u) (E := xc_137_e) (by
  simp only [xc_137_m, List.forall_mem_cons]
  exact ⟨rfl, rfl, fun _ h => by cases h⟩) (by
  simp only [xc_137_u, List.forall_mem_cons]
  exact fun _ h => by cases h) xFl_good xXW_ok xc_137_0 (List.all_eq_true.mp xc_137_1)
set_option maxRecDepth 100000 in
theorem xc_138_0 : xchk0 xVV xc_138_m xc_138_u xc_138 xc_138_e 118 = true := by decide +kernel
set_option maxRecDepth 100000 in
theorem xc_138_1 : xc_138_e.all (xchk1 xVV xc_138_m xc_138_u xc_138 xc_138_e 118) = true := by decide +kernel
theorem xv_138 {og : Nat → Option zm_C} : xV xVV xX xW og xc_138 := xchk_ok (n := 118) (MT := xc_138_m) (CT := xc_138_u) (E := xc_138_e) (by
  simp only [xc_138_m, List.forall_mem_cons]
  exact ⟨rfl, rfl, rfl, rfl, rfl, rfl, fun _ h => by cases h⟩) (by
  simp only [xc_138_u, List.forall_mem_cons]
  exact ⟨xv_123, xv_59, fun _ h => by cases h⟩) xFl_good xXW_ok xc_138_0 (List.all_eq_true.mp xc_138_1)
set_option maxRecDepth 100000 in
theorem xc_139_0 : xchk0 xVV xc_139_m xc_139_u xc_139 xc_139_e 53 = true := by decide +kernel
set_option maxRecDepth 100000 in
theorem xc_139_1 : xc_139_e.all (xchk1 xVV xc_139_m xc_139_u xc_139 xc_139_e 53) = true := by decide +kernel
theorem xv_139 {og : Nat → Option zm_C} : xV xVV xX xW og xc_139 := xchk_ok (n := 53) (MT := xc_139_m) (CT := xc_139_u) (E := xc_139_e) (by
  simp only [xc_139_m, List.forall_mem_cons]
  exact ⟨rfl, fun _ h => by cases h⟩) (by
  simp only [xc_139_u, List.forall_mem_cons]
  exact fun _ h => by cases h) xFl_good xXW_ok xc_139_0 (List.all_eq_true.mp xc_139_1)
set_option maxRecDepth 100000 in
theorem xc_140_0 : xchk0 xVV xc_140_m xc_140_u xc_140 xc_140_e 189 = true := by decide +kernel
set_option maxRecDepth 100000 in
theorem xc_140_1 : xc_140_e.all (xchk1 xVV xc_140_m xc_140_u xc_140 xc_140_e 189) = true := by decide +kernel
theorem xv_140 {og : Nat → Option zm_C} : xV xVV xX xW og xc_140 := xchk_ok (n := 189) (MT := xc_140_m) (CT := xc_140_u) (E := xc_140_e) (by
  simp only [xc_140_m, List.forall_mem_cons]
  exact ⟨rfl, rfl, rfl, rfl, rfl, rfl, rfl, fun _ h => by cases h⟩) (by
  simp only [xc_140_u, List.forall_mem_cons]
  exact ⟨xv_21, xv_17, xv_15, fun _ h => by cases h⟩) xFl_good xXW_ok xc_140_0 (List.all_eq_true.mp xc_140_1)
set_option maxRecDepth 100000 in
theorem xc_141_0 : xchk0 xVV xc_141_m xc_141_u xc_141 xc_141_e 176 = true := by decide +kernel
set_option maxRecDepth 100000 in
theorem xc_141_1 : xc_141_e.all (xchk1 xVV xc_141_m xc_141_u xc_141 xc_141_e 176) = true := by decide +kernel
theorem xv_141 {og : Nat → Option zm_C} : xV xVV xX xW og xc_141 := xchk_ok (n := 176) (MT := xc_141_m) (CT := xc_141_u) (E := xc_141_e) (by
  simp only [xc_141_m, List.forall_mem_cons]
  exact ⟨rfl, rfl, rfl, rfl, rfl, rfl, rfl, rfl, fun _ h => by cases h⟩) (by
  simp only [xc_141_u, List.forall_mem_cons]
  exact ⟨xv_23, xv_19, xv_15, xv_13, fun _ h => by cases h⟩) xFl_good xXW_ok xc_141_0 (List.all_eq_true.mp xc_141_1)
set_option maxRecDepth 100000 in
theorem xc_142_0 : xchk0 xVV xc_142_m xc_142_u xc_142 xc_142_e 158 = true := by decide +kernel
set_option maxRecDepth 100000 in
theorem xc_142_1 : xc_142_e.all (xchk1 xVV xc_142_m xc_142_u xc_142 xc_142_e 158) = true := by decide +kernel
theorem xv_142 {og : Nat → Option zm_C} : xV xVV xX xW og xc_142 := xchk_ok (n := 158) (MT := xc_142_m) (CT := xc_142_u) (E := xc_142_e) (by
  simp only [xc_142_m, List.forall_mem_cons]
  exact ⟨rfl, rfl, rfl, rfl, rfl, rfl, fun _ h => by cases h⟩) (by
  simp only [xc_142_u, List.forall_mem_cons]
  exact ⟨xv_24, xv_20, xv_15, fun _ h => by cases h⟩) xFl_good xXW_ok xc_142_0 (List.all_eq_true.mp xc_142_1)
set_option maxRecDepth 100000 in
theorem xc_143_0 : xchk0 xVV xc_143_m xc_143_u xc_143 xc_143_e 144 = true := by decide +kernel
set_option maxRecDepth 100000 in
theorem xc_143_1 : xc_143_e.all (xchk1 xVV xc_143_m xc_143_u xc_143 xc_143_e 144) = true := by decide +kernel
theorem xv_143 {og : Nat → Option zm_C} : xV xVV xX xW og xc_143 := xchk_ok (n := 144) (MT := xc_143_m) (CT := xc_143_u) (E := xc_143_e) (by
  simp only [xc_143_m, List.forall_mem_cons]
  exact ⟨rfl, rfl, rfl, rfl, rfl, fun _ h => by cases h⟩) (by
  simp only [xc_143_u, List.forall_mem_cons]
  exact ⟨xv_25, fun _ h => by cases h⟩) xFl_good xXW_ok xc_143_0 (List.all_eq_true.mp xc_143_1)
set_option maxRecDepth 100000 in
theorem xc_144_0 : xchk0 xVV xc_144_m xc_144_u xc_144 xc_144_e 384 = true := by decide +kernel
set_option maxRecDepth 100000 in
theorem xc_144_1 : xc_144_e.all (xchk1 xVV xc_144_m xc_144_u xc_144 xc_144_e 384) = true := by decide +kernel
theorem xv_144 {og : Nat → Option zm_C} : xV xVV xX xW og xc_144 := xchk_ok (n := 384) (MT := xc_144_m) (CT := xc_144_u) (E := xc_144_e) (by
  simp only [xc_144_m, List.forall_mem_cons]
  exact ⟨rfl, rfl, rfl, rfl, rfl, rfl, rfl, rfl, rfl, rfl, rfl, fun _ h => by cases h⟩) (by
  simp only [xc_144_u, List.forall_mem_cons]
  exact ⟨xv_55, xv_25, xv_21, xv_17, xv_15, fun _ h => by cases h⟩) xFl_good xXW_ok xc_144_0 (List.all_eq_true.mp xc_144_1)
set_option maxRecDepth 100000 in
theorem xc_145_0 : xchk0 xVV xc_145_m xc_145_u xc_145 xc_145_e 119 = true := by decide +kernel
set_option maxRecDepth 100000 in
theorem xc_145_1 : xc_145_e.all (xchk1 xVV xc_145_m xc_145_u xc_145 xc_145_e 119) = true := by decide +kernel
theorem xv_145 {og : Nat → Option zm_C} : xV xVV xX xW og xc_145 := xchk_ok (n := 119) (MT := xc_145_m) (CT := xc_145_u) (E := xc_145_e) (by
  simp only [xc_145_m, List.forall_mem_cons]
  exact ⟨rfl, rfl, fun _ h => by cases h⟩) (by
  simp only [xc_145_u, List.forall_mem_cons]
  exact fun _ h => by cases h) xFl_good xXW_ok xc_145_0 (List.all_eq_true.mp xc_145_1)
set_option maxRecDepth 100000 in
theorem xc_146_0 : xchk0 xVV xc_146_m xc_146_u xc_146 xc_146_e 606 = true := by decide +kernel
set_option maxRecDepth 100000 in
theorem xc_146_1 : xc_146_e.all (xchk1 xVV xc_146_m xc_146_u xc_146 xc_146_e 606) = true := by decide +kernel
theorem xv_146 {og : Nat → Option zm_C} : xV xVV xX xW og xc_146 := xchk_ok (n := 606) (MT := xc_146_m) (CT := xc_146_u) (E := xc_146_e) (by
  simp only [xc_146_m, List.forall_mem_cons]
  exact ⟨rfl, rfl, rfl, rfl, rfl, rfl, rfl, rfl, rfl, rfl, rfl, rfl, rfl, fun _ h => by cases h⟩) (by
  simp only [xc_146_u, List.forall_mem_cons]
  exact ⟨xv_23, xv_19, xv_15, xv_13, fun _ h => by cases h⟩) xFl_good xXW_ok xc_146_0 (List.all_eq_true.mp xc_146_1)
set_option maxRecDepth 100000 in
theorem xc_147_0 : xchk0 xVV xc_147_m xc_147_u xc_147 xc_147_e 346 = true := by decide +kernel
set_option maxRecDepth 100000 in
theorem xc_147_1 : xc_147_e.all (xchk1 xVV xc_147_m xc_147_u xc_147 xc_147_e 346) = true := by decide +kernel
theorem xv_147 {og : Nat → Option zm_C} : xV xVV xX xW og xc_147 := xchk_ok (n := 346) (MT := xc_147_m) (CT := xc_147_u) (E := xc_147_e) (by
  simp only [xc_147_m, List.forall_mem_cons]
  exact ⟨rfl, rfl, rfl, rfl, rfl, rfl, rfl, rfl, rfl, rfl, rfl, fun _ h => by cases h⟩) (by
  simp only [xc_147_u, List.forall_mem_cons]
  exact ⟨xv_36, xv_23, xv_19, xv_15, xv_13, fun _ h => by cases h⟩) xFl_good xXW_ok xc_147_0 (List.all_eq_true.mp xc_147_1)
set_option maxRecDepth 100000 in
theorem xc_148_0 : xchk0 xVV xc_148_m xc_148_u xc_148 xc_148_e 272 = true := by decide +kernel
set_option maxRecDepth 100000 in
theorem xc_148_1 : xc_148_e.all (xchk1 xVV xc_148_m xc_148_u xc_148 xc_148_e 272) = true := by decide +kernel
theorem xv_148 {og : Nat → Option zm_C} : xV xVV xX xW og xc_148 := xchk_ok (n := 272) (MT := xc_148_m) (CT := xc_148_u) (E := xc_148_e) (by
  simp only [xc_148_m, List.forall_mem_cons]
  exact ⟨rfl, rfl, rfl, rfl, rfl, rfl, rfl, rfl, fun _ h => by cases h⟩) (by
  simp only [xc_148_u, List.forall_mem_cons]
  exact ⟨xv_126, xv_5, xv_4, fun _ h => by cases h⟩) xFl_good xXW_ok xc_148_0 (List.all_eq_true.mp xc_148_1)
set_option maxRecDepth 100000 in
theorem xc_149_0 : xchk0 xVV xc_149_m xc_149_u xc_149 xc_149_e 212 = true := by decide +kernel
set_option maxRecDepth 100000 in
theorem xc_149_1 : xc_149_e.all (xchk1 xVV xc_149_m xc_149_u xc_149 xc_149_e 212) = true := by decide +kernel
theorem xv_149 {og : Nat → Option zm_C} : xV xVV xX xW og xc_149 := xchk_ok (n := 212) (MT := xc_149_m) (CT := xc_149_u) (E := xc_149_e) (by
  simp only [xc_149_m, List.forall_mem_cons]
  exact ⟨rfl, rfl, rfl, rfl, rfl, fun _ h => by cases h⟩) (by
  simp only [xc_149_u, List.forall_mem_cons]
  exact fun _ h => by cases h) xFl_good xXW_ok xc_149_0 (List.all_eq_true.mp xc_149_1)
set_option maxRecDepth 100000 in
theorem xc_150_0 : xchk0 xVV xc_150_m xc_150_u xc_150 xc_150_e 189 = true := by decide +kernel
set_option maxRecDepth 100000 in
theorem xc_150_1 : xc_150_e.all (xchk1 xVV xc_150_m xc_150_u xc_150 xc_150_e 189) = true := by decide +kernel
theorem xv_150 {og : Nat → Option zm_C} : xV xVV xX xW og xc_150 := xchk_ok (n := 189) (MT := xc_150_m) (CT := xc_150_u) (E := xc_150_e) (by
  simp only [xc_150_m, List.forall_mem_cons]
  exact ⟨rfl, rfl, rfl, rfl, rfl, fun _ h => by cases h⟩) (by
  simp only [xc_150_u, List.forall_mem_cons]
  exact ⟨xv_38, xv_37, xv_34, xv_33, xv_15, fun _ h => by cases h⟩) xFl_good xXW_ok xc_150_0 (List.all_eq_true.mp xc_150_1)
set_option maxRecDepth 100000 in
theorem xc_151_0 : xchk0 xVV xc_151_m xc_151_u xc_151 xc_151_e 232 = true := by decide +kernel
set_option maxRecDepth 100000 in
theorem xc_151_1 : xc_151_e.all (xchk1 xVV xc_151_m xc_151_u xc_151 xc_151_e 232) = true := by decide +kernel
theorem xv_151 {og : Nat → Option zm_C} : xV xVV xX xW og xc_151 := xchk_ok (n := 232) (MT := xc_151_m) (CT := xc_151_u) (E := xc_151_e) (by
  simp only [xc_151_m, List.forall_mem_cons]
  exact ⟨rfl, rfl, rfl, rfl, rfl, rfl, rfl, fun _ h => by cases h⟩) (by
  simp only [xc_151_u, List.forall_mem_cons]
  exact ⟨xv_36, fun _ h => by cases h⟩) xFl_good xXW_ok xc_151_0 (List.all_eq_true.mp xc_151_1)
set_option maxRecDepth 100000 in
theorem xc_152_0 : xchk0 xVV xc_152_m xc_152_u xc_152 xc_152_e 201 = true := by decide +kernel
set_option maxRecDepth 100000 in
theorem xc_152_1 : xc_152_e.all (xchk1 xVV xc_152_m xc_152_u xc_152 xc_152_e 201) = true := by decide +kernel
theorem xv_152 {og : Nat → Option zm_C} : xV xVV xX xW og xc_152 := xchk_ok (n := 201) (MT := xc_152_m) (CT := xc_152_u) (E := xc_152_e) (by
  simp only [xc_152_m, List.forall_mem_cons]
  exact ⟨rfl, rfl, rfl, rfl, rfl, rfl, rfl, fun _ h => by cases h⟩) (by
  simp only [xc_152_u, List.forall_mem_cons]
  exact ⟨xv_39, xv_37, fun _ h => by cases h⟩) xFl_good xXW_ok xc_152_0 (List.all_eq_true.mp xc_152_1)
set_option maxRecDepth 100000 in
theorem xc_153_0 : xchk0 xVV xc_153_m xc_153_u xc_153 xc_153_e 165 = true := by decide +kernel
set_option maxRecDepth 100000 in
theorem xc_153_1 : xc_153_e.all (xchk1 xVV xc_153_m xc_153_u xc_153 xc_153_e 165) = true := by decide +kernel
theorem xv_153 {og : Nat → Option zm_C} : xV xVV xX xW og xc_153 := xchk_ok (n := 165) (MT := xc_153_m) (CT := xc_153_u) (E := xc_153_e) (by
  simp only [xc_153_m, List.forall_mem_cons]
  exact ⟨rfl, rfl, rfl, fun _ h => by cases h⟩) (by
  simp only [xc_153_u, List.forall_mem_cons]
  exact ⟨xv_40, fun _ h => by cases h⟩) xFl_good xXW_ok xc_153_0 (List.all_eq_true.mp xc_153_1)
set_option maxRecDepth 100000 in
theorem xc_154_0 : xchk0 xVV xc_154_m xc_154_u xc_154 xc_154_e 159 = true := by decide +kernel
set_option maxRecDepth 100000 in
theorem xc_154_1 : xc_154_e.all (xchk1 xVV xc_154_m xc_154_u xc_154 xc_154_e 159) = true := by decide +kernel
theorem xv_154 {og : Nat → Option zm_C} : xV xVV xX xW og xc_154 := xchk_ok (n := 159) (MT := xc_154_m) (CT := xc_154_u) (E := xc_154_e) (by
  simp only [xc_154_m, List.forall_mem_cons]
  exact ⟨rfl, rfl, rfl, rfl, rfl, rfl, rfl, fun _ h => by cases h⟩) (by
  simp only [xc_154_u, List.forall_mem_cons]
  exact ⟨xv_125, xv_124, xv_37, fun _ h => by cases h⟩) xFl_good xXW_ok xc_154_0 (List.all_eq_true.mp xc_154_1)
set_option maxRecDepth 100000 in
theorem xc_155_0 : xchk0 xVV xc_155_m xc_155_u xc_155 xc_155_e 103 = true := by decide +kernel
set_option maxRecDepth 100000 in
theorem xc_155_1 : xc_155_e.all (xchk1 xVV xc_155_m xc_155_u xc_155 xc_155_e 103) = true := by decide +kernel
theorem xv_155 {og : Nat → Option zm_C} : xV xVV xX xW og xc_155 := xchk_ok (n := 103) (MT := xc_155_m) (CT := xc_155_u) (E := xc_155_e) (by
  simp only [xc_155_m, List.forall_mem_cons]
  exact ⟨rfl, rfl, fun _ h => by cases h⟩) (by
  simp only [xc_155_u, List.forall_mem_cons]
  exact fun _ h => by cases h) xFl_good xXW_ok xc_155_0 (List.all_eq_true.mp xc_155_1)
set_option maxRecDepth 100000 in
theorem xc_156_0 : xchk0 xVV xc_156_m xc_156_u xc_156 xc_156_e 195 = true := by decide +kernel
set_option maxRecDepth 100000 in
theorem xc_156_1 : xc_156_e.all (xchk1 xVV xc_156_m xc_156_u xc_156 xc_156_e 195) = true := by decide +kernel
theorem xv_156 {og : Nat → Option zm_C} : xV xVV xX xW og xc_156 := xchk_ok (n := 195) (MT := xc_156_m) (CT := xc_156_u) (E := xc_156_e) (by
  simp only [xc_156_m, List.forall_mem_cons]
  exact ⟨rfl, rfl, rfl, rfl, rfl, rfl, fun _ h => by cases h⟩) (by
  simp only [xc_156_u, List.forall_mem_cons]
  exact ⟨xv_128, xv_9, fun _ h => by cases h⟩) xFl_good xXW_ok xc_156_0 (List.all_eq_true.mp xc_156_1)
set_option maxRecDepth 100000 in
theorem xc_157_0 : xchk0 xVV xc_157_m xc_157_u xc_157 xc_157_e 85 = true := by decide +kernel
set_option maxRecDepth 100000 in
theorem xc_157_1 : xc_157_e.all (xchk1 xVV xc_157_m xc_157_u xc_157 xc_157_e 85) = true := by decide +kernel
theorem xv_157 {og : Nat → Option zm_C} : xV xVV xX xW og xc_157 := xchk_ok (n := 85) (MT := xc_157_m) (CT := xc_157_u) (E := xc_157_e) (by
  simp only [xc_157_m, List.forall_mem_cons]
  exact ⟨rfl, rfl, fun _ h => by cases h⟩) (by
  simp only [xc_157_u, List.forall_mem_cons]
  exact fun _ h => by cases h) xFl_good xXW_ok xc_157_0 (List.all_eq_true.mp xc_157_1)
set_option maxRecDepth 100000 in
theorem xc_158_0 : xchk0 xVV xc_158_m xc_158_u xc_158 xc_158_e 201 = true := by decide +kernel
set_option maxRecDepth 100000 in
theorem xc_158_1 : xc_158_e.all (xchk1 xVV xc_158_m xc_158_u xc_158 xc_158_e 201) = true := by decide +kernel
theorem xv_158 {og : Nat → Option zm_C} : xV xVV xX xW og xc_158 := xchk_ok (n := 201) (MT := xc_158_m) (CT := xc_158_u) (E := xc_158_e) (by
  simp only [xc_158_m, List.forall_mem_cons]
  exact ⟨rfl, rfl, rfl, rfl, rfl, rfl, rfl, rfl, fun _ h => by cases h⟩) (by
  simp only [xc_158_u, List.forall_mem_cons]
  exact ⟨xv_123, xv_54, xv_50, xv_13, xv_8, fun _ h => by cases h⟩) xFl_good xXW_ok xc_158_0 (List.all_eq_true.mp xc_158_1)
set_option maxRecDepth 100000 in
theorem xc_159_0 : xchk0 xVV xc_159_m xc_159_u xc_159 xc_159_e 155 = true := by decide +kernel
set_option maxRecDepth 100000 in
theorem xc_159_1 : xc_159_e.all (xchk1 xVV xc_159_m xc_159_u xc_159 xc_159_e 155) = true := by decide +kernel
theorem xv_159 {og : Nat → Option zm_C} : xV xVV xX xW og xc_159 := xchk_ok (n := 155) (MT := xc_159_m) (CT := xc_159_u) (E := xc_159_e) (by
  simp only [xc_159_m, List.forall_mem_cons]
  exact ⟨rfl, rfl, rfl, rfl, rfl, fun _ h => by cases h⟩) (by
  simp only [xc_159_u, List.forall_mem_cons]
  exact ⟨xv_23, xv_19, xv_15, xv_13, fun _ h => by cases h⟩) xFl_good xXW_ok xc_159_0 (List.all_eq_true.mp xc_159_1)
set_option maxRecDepth 100000 in
theorem xc_160_0 : xchk0 xVV xc_160_m xc_160_u xc_160 xc_160_e 199 = true := by decide +kernel
set_option maxRecDepth 100000 in
theorem xc_160_1 : xc_160_e.all (xchk1 xVV xc_160_m xc_160_u xc_160 xc_160_e 199) = true := by decide +kernel
theorem xv_160 {og : Nat → Option zm_C} : xV xVV xX xW og xc_160 := xchk_ok (n := 199) (MT := xc_160_m) (CT := xc_160_u) (E := xc_160_e) (by
  simp only [xc_160_m, List.forall_mem_cons]
  exact ⟨rfl, rfl, rfl, rfl, rfl, rfl, rfl, rfl, fun _ h => by cases h⟩) (by
  simp only [xc_160_u, List.forall_mem_cons]
  exact ⟨xv_43, xv_32, xv_13, fun _ h => by cases h⟩) xFl_good xXW_ok xc_160_0 (List.all_eq_true.mp xc_160_1)
set_option maxRecDepth 100000 in
theorem xc_161_0 : xchk0 xVV xc_161_m xc_161_u xc_161 xc_161_e 192 = true := by decide +kernel
set_option maxRecDepth 100000 in
theorem xc_161_1 : xc_161_e.all (xchk1 xVV xc_161_m xc_161_u xc_161 xc_161_e 192) = true := by decide +kernel
theorem xv_161 {og : Nat → Option zm_C} : xV xVV xX xW og xc_161 := xchk_ok (n := 192) (MT := xc_161_m) (CT := xc_161_u) (E := xc_161_e) (by
  simp only [xc_161_m, List.forall_mem_cons]
  exact ⟨rfl, rfl, rfl, rfl, rfl, fun _ h => by cases h⟩) (by
  simp only [xc_161_u, List.forall_mem_cons]
  exact fun _ h => by cases h) xFl_good xXW_ok xc_161_0 (List.all_eq_true.mp xc_161_1)
set_option maxRecDepth 100000 in
theorem xc_162_0 : xchk0 xVV xc_162_m xc_162_u xc_162 xc_162_e 90 = true := by decide +kernel
set_option maxRecDepth 100000 in
theorem xc_162_1 : xc_162_e.all (xchk1 xVV xc_162_m xc_162_u xc_162 xc_162_e 90) = true := by decide +kernel
theorem xv_162 {og : Nat → Option zm_C} : xV xVV xX xW og xc_162 := xchk_ok (n := 90) (MT := xc_162_m) (CT := xc_162_u) (E := xc_162_e) (by
  simp only [xc_162_m, List.forall_mem_cons]
  exact ⟨rfl, rfl, rfl, fun _ h => by cases h⟩) (by
  simp only [xc_162_u, List.forall_mem_cons]
  exact fun _ h => by cases h) xFl_good xXW_ok xc_162_0 (List.all_eq_true.mp xc_162_1)
set_option maxRecDepth 100000 in
theorem xc_163_0 : xchk0 xVV xc_163_m xc_163_u xc_163 xc_163_e 98 = true := by decide +kernel
set_option maxRecDepth 100000 in
theorem xc_163_1 : xc_163_e.all (xchk1 xVV xc_163_m xc_163_u xc_163 xc_163_e 98) = true := by decide +kernel
theorem xv_163 {og : Nat → Option zm_C} : xV xVV xX xW og xc_163 := xchk_ok (n := 98) (MT := xc_163_m) (CT := xc_163_u) (E := xc_163_e) (by
  simp only [xc_163_m, List.forall_mem_cons]
  exact ⟨rfl, rfl, rfl, rfl, rfl, fun _ h => by cases h⟩) (by
  simp only [xc_163_u, List.forall_mem_cons]
  exact ⟨xv_29, xv_28, xv_27, xv_15, fun _ h => by cases h⟩) xFl_good xXW_ok xc_163_0 (List.all_eq_true.mp xc_163_1)
