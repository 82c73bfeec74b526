/-! The contracts hold, as checked -/
set_option maxRecDepth 100000 in
theorem xc_172_0 : xchk0 xVV xc_172_m xc_172_u xc_172 xc_172_e 115 = true := by decide +kernel
set_option maxRecDepth 100000 in
theorem xc_172_1 : xc_172_e.all (xchk1 xVV xc_172_m xc_172_u xc_172 xc_172_e 115) = true := by decide +kernel
theorem xv_172 {og : Nat → Option zm_C} : xV xVV xX xW og xc_172 := xchk_ok (n := 115) (MT := xc_172_m) (CT := xc_172_u) (E := xc_172_e) (by
  simp only [xc_172_m, List.forall_mem_cons]
  exact ⟨rfl, fun _ h => by cases h⟩) (by
  simp only [xc_172_u, List.forall_mem_cons]
  exact fun _ h => by cases h) xFl_good xXW_ok xc_172_0 (List.all_eq_true.mp xc_172_1)
set_option maxRecDepth 100000 in
theorem xc_173_0 : xchk0 xVV xc_173_m xc_173_u xc_173 xc_173_e 213 = true := by decide +kernel
set_option maxRecDepth 100000 in
theorem xc_173_1 : xc_173_e.all (xchk1 xVV xc_173_m xc_173_u xc_173 xc_173_e 213) = true := by decide +kernel
theorem xv_173 {og : Nat → Option zm_C} : xV xVV xX xW og xc_173 := xchk_ok (n := 213) (MT := xc_173_m) (CT := xc_173_u) (E := xc_173_e) (by
  simp only [xc_173_m, List.forall_mem_cons]
  exact ⟨rfl, rfl, rfl, fun _ h => by cases h⟩) (by
  simp only [xc_173_u, List.forall_mem_cons]
  exact fun _ h => by cases h) xFl_good xXW_ok xc_173_0 (List.all_eq_true.mp xc_173_1)
set_option maxRecDepth 100000 in
theorem xc_175_0 : xchk0 xVV xc_175_m xc_175_u xc_175 xc_175_e 55 = true := by decide +kernel
set_option maxRecDepth 100000 in
theorem xc_175_1 : xc_175_e.all (xchk1 xVV xc_175_m xc_175_u xc_175 xc_175_e 55) = true := by decide +kernel
theorem xv_175 {og : Nat → Option zm_C} : xV xVV xX xW og xc_175 := xchk_ok (n := 55) (MT := xc_175_m) (CT := xc_175_u) (E := xc_175_e) (by
  simp only [xc_175_m, List.forall_mem_cons]
  exact ⟨rfl, fun _ h => by cases h⟩) (by
  simp only [xc_175_u, List.forall_mem_cons]
  exact fun _ h => by cases h) xFl_good xXW_ok xc_175_0 (List.all_eq_true.mp xc_175_1)
set_option maxRecDepth 100000 in
theorem xc_176_0 : xchk0 xVV xc_176_m xc_176_u xc_176 xc_176_e 73 = true := by decide +kernel
set_option maxRecDepth 100000 in
theorem xc_176_1 : xc_176_e.all (xchk1 xVV xc_176_m xc_176_u xc_176 xc_176_e 73) = true := by decide +kernel
theorem xv_176 {og : Nat → Option zm_C} : xV xVV xX xW og xc_176 := xchk_ok (n := 73) (MT := xc_176_m) (CT := xc_176_u) (E := xc_176_e) (by
  simp only [xc_176_m, List.forall_mem_cons]
  exact ⟨rfl, rfl, rfl, fun _ h => by cases h⟩) (by
  simp only [xc_176_u, List.forall_mem_cons]
  exact ⟨xv_175, fun _ h => by cases h⟩) xFl_good xXW_ok xc_176_0 (List.all_eq_true.mp xc_176_1)
set_option maxRecDepth 100000 in
theorem xc_177_0 : xchk0 xVV xc_177_m xc_177_u xc_177 xc_177_e 55 = true := by decide +kernel
set_option maxRecDepth 100000 in
theorem xc_177_1 : xc_177_e.all (xchk1 xVV xc_177_m xc_177_u xc_177 xc_177_e 55) = true := by decide +kernel
theorem xv_177 {og : Nat → Option zm_C} : xV xVV xX xW og xc_177 := xchk_ok (n := 55) (MT := xc_177_m) (CT := xc_177_u) (E := xc_177_e) (by
  simp only [xc_177_m, List.forall_mem_cons]
  exact ⟨rfl, fun _ h => by cases h⟩) (by
  simp only [xc_177_u, List.forall_mem_cons]
  exact fun _ h => by cases h) xFl_good xXW_ok xc_177_0 (List.all_eq_true.mp xc_177_1)
set_option maxRecDepth 100000 in
theorem xc_178_0 : xchk0 xVV xc_178_m xc_178_u xc_178 xc_178_e 100 = true := by decide +kernel
set_option maxRecDepth 100000 in
theorem xc_178_1 : xc_178_e.all (xchk1 xVV xc_178_m xc_178_u xc_178 xc_178_e 100) = true := by decide +kernel
theorem xv_178 {og : Nat → Option zm_C} : xV xVV xX xW og xc_178 := xchk_ok (n := 100) (MT := xc_178_m) (CT := xc_178_u) (E := xc_178_e) (by
  simp only [xc_178_m, List.forall_mem_cons]
  exact ⟨rfl, rfl, rfl, rfl, rfl, fun _ h => by cases h⟩) (by
  simp only [xc_178_u, List.forall_mem_cons]
  exact ⟨xv_177, xv_169, fun _ h => by cases h⟩) xFl_good xXW_ok xc_178_0 (List.all_eq_true.mp xc_178_1)
set_option maxRecDepth 100000 in
theorem xc_179_0 : xchk0 xVV xc_179_m xc_179_u xc_179 xc_179_e 59 = true := by decide +kernel
set_option maxRecDepth 100000 in
theorem xc_179_1 : xc_179_e.all (xchk1 xVV xc_179_m xc_179_u xc_179 xc_179_e 59) = true := by decide +kernel
theorem xv_179 {og : Nat → Option zm_C} : xV xVV xX xW og xc_179 := xchk_ok (n := 59) (MT := xc_179_m) (CT := xc_179_u) (E := xc_179_e) (by
  simp only [xc_179_m, List.forall_mem_cons]
  exact ⟨rfl, rfl, rfl, fun _ h => by cases h⟩) (by
  simp only [xc_179_u, List.forall_mem_cons]
  exact ⟨xv_178, xv_169, fun _ h => by cases h⟩) xFl_good xXW_ok xc_179_0 (List.all_eq_true.mp xc_179_1)
set_option maxRecDepth 100000 in
theorem xc_180_0 : xchk0 xVV xc_180_m xc_180_u xc_180 xc_180_e 55 = true := by decide +kernel
set_option maxRecDepth 100000 in
theorem xc_180_1 : xc_180_e.all (xchk1 xVV xc_180_m xc_180_u xc_180 xc_180_e 55) = true := by decide +kernel
theorem xv_180 {og : Nat → Option zm_C} : xV xVV xX xW og xc_180 := xchk_ok (n := 55) (MT := xc_180_m) (CT := xc_180_u) (E := xc_180_e) (by
  simp only [xc_180_m, List.forall_mem_cons]
  exact ⟨rfl, fun _ h => by cases h⟩) (by
  simp only [xc_180_u, List.forall_mem_cons]
  exact fun _ h => by cases h) xFl_good xXW_ok xc_180_0 (List.all_eq_true.mp xc_180_1)
set_option maxRecDepth 100000 in
theorem xc_181_0 : xchk0 xVV xc_181_m xc_181_u xc_181 xc_181_e 575 = true := by decide +kernel
set_option maxRecDepth 100000 in
theorem xc_181_1 : xc_181_e.all (xchk1 xVV xc_181_m xc_181_u xc_181 xc_181_e 575) = true := by decide +kernel
theorem xv_181 {og : Nat → Option zm_C} : xV xVV xX xW og xc_181 := xchk_ok (n := 575) (MT := xc_181_m) (CT := xc_181_u) (E := xc_181_e) (by
  simp only [xc_181_m, List.forall_mem_cons]
  exact ⟨rfl, rfl, rfl, rfl, rfl, rfl, rfl, rfl, rfl, rfl, rfl, rfl, rfl, rfl, fun _ h => by cases h⟩) (by
  simp only [xc_181_u, List.forall_mem_cons]
  exact ⟨xv_177, xv_173, xv_172, xv_171, xv_170, xv_169, xv_168, fun _ h => by cases h⟩) xFl_good xXW_ok xc_181_0 (List.all_eq_true.mp xc_181_1)
set_option maxRecDepth 100000 in
theorem xc_182_0 : xchk0 xVV xc_182_m xc_182_u xc_182 xc_182_e 509 = true := by decide +kernel
set_option maxRecDepth 100000 in
theorem xc_182_1 : xc_182_e.all (xchk1 xVV xc_182_m xc_182_u xc_182 xc_182_e 509) = true := by decide +kernel
theorem xv_182 {og : Nat → Option zm_C} : xV xVV xX xW og xc_182 := xchk_ok (n := 509) (MT := xc_182_m) (CT := xc_182_u) (E := xc_182_e) (by
  simp only [xc_182_m, List.forall_mem_cons]
  exact ⟨rfl, rfl, rfl, rfl, rfl, fun _ h => by cases h⟩) (by
  simp only [xc_182_u, List.forall_mem_cons]
  exact ⟨xv_181, xv_168, fun _ h => by cases h⟩) xFl_good xXW_ok xc_182_0 (List.all_eq_true.mp xc_182_1)
set_option maxRecDepth 100000 in
theorem xc_183_0 : xchk0 xVV xc_183_m xc_183_u xc_183 xc_183_e 408 = true := by decide +kernel
set_option maxRecDepth 100000 in
theorem xc_183_1 : xc_183_e.all (xchk1 xVV xc_183_m xc_183_u xc_183 xc_183_e 408) = true := by decide +kernel
theorem xv_183 {og : Nat → Option zm_C} : xV xVV xX xW og xc_183 := xchk_ok (n := 408) (MT := xc_183_m) (CT := xc_183_u) (E := xc_183_e) (by
  simp only [xc_183_m, List.forall_mem_cons]
  exact ⟨rfl, rfl, rfl, rfl, rfl, fun _ h => by cases h⟩) (by
  simp only [xc_183_u, List.forall_mem_cons]
  exact ⟨xv_182, xv_168, fun _ h => by cases h⟩) xFl_good xXW_ok xc_183_0 (List.all_eq_true.mp xc_183_1)
set_option maxRecDepth 100000 in
theorem xc_184_0 : xchk0 xVV xc_184_m xc_184_u xc_184 xc_184_e 1204 = true := by decide +kernel
set_option maxRecDepth 100000 in
theorem xc_184_1 : xc_184_e.all (xchk1 xVV xc_184_m xc_184_u xc_184 xc_184_e 1204) = true := by decide +kernel
theorem xv_184 {og : Nat → Option zm_C} : xV xVV xX xW og xc_184 := xchk_ok (n := 1204) (MT := xc_184_m) (CT := xc_184_u) (E := xc_184_e) (by
  simp only [xc_184_m, List.forall_mem_cons]
  exact ⟨rfl, rfl, rfl, rfl, rfl, rfl, rfl, rfl, rfl, rfl, rfl, fun _ h => by cases h⟩) (by
  simp only [xc_184_u, List.forall_mem_cons]
  exact ⟨xv_183, xv_180, xv_169, xv_168, fun _ h => by cases h⟩) xFl_good xXW_ok xc_184_0 (List.all_eq_true.mp xc_184_1)
set_option maxRecDepth 100000 in
theorem xc_185_0 : xchk0 xVV xc_185_m xc_185_u xc_185 xc_185_e 133 = true := by decide +kernel
set_option maxRecDepth 100000 in
theorem xc_185_1 : xc_185_e.all (xchk1 xVV xc_185_m xc_185_u xc_185 xc_185_e 133) = true := by decide +kernel
theorem xv_185 {og : Nat → Option zm_C} : xV xVV xX xW og xc_185 := xchk_ok (n := 133) (MT := xc_185_m) (CT := xc_185_u) (E := xc_185_e) (by
  simp only [xc_185_m, List.forall_mem_cons]
  exact ⟨rfl, rfl, rfl, rfl, fun _ h => by cases h⟩) (by
  simp only [xc_185_u, List.forall_mem_cons]
  exact ⟨xv_184, xv_169, xv_168, fun _ h => by cases h⟩) xFl_good xXW_ok xc_185_0 (List.all_eq_true.mp xc_185_1)
set_option maxRecDepth 100000 in
theorem xc_186_0 : xchk0 xVV xc_186_m xc_186_u xc_186 xc_186_e 140 = true := by decide +kernel
set_option maxRecDepth 100000 in
theorem xc_186_1 : xc_186_e.all (xchk1 xVV xc_186_m xc_186_u xc_186 xc_186_e 140) = true := by decide +kernel
theorem xv_186 {og : Nat → Option zm_C} : xV xVV xX xW og xc_186 := xchk_ok (n := 140) (MT := xc_186_m) (CT := xc_186_u) (E := xc_186_e) (by
  simp only [xc_186_m, List.forall_mem_cons]
  exact ⟨rfl, rfl, rfl, rfl, fun _ h => by cases h⟩) (by
  simp only [xc_186_u, List.forall_mem_cons]
  exact ⟨xv_185, xv_169, xv_168, fun _ h => by cases h⟩) xFl_good xXW_ok xc_186_0 (List.all_eq_true.mp xc_186_1)
set_option maxRecDepth 100000 in
theorem xc_187_0 : xchk0 xVV xc_187_m xc_187_u xc_187 xc_187_e 1165 = true := by decide +kernel
set_option maxRecDepth 100000 in
theorem xc_187_1 : xc_187_e.all (xchk1 xVV xc_187_m xc_187_u xc_187 xc_187_e 1165) = true := by decide +kernel
theorem xv_187 {og : Nat → Option zm_C} : xV xVV xX xW og xc_187 := xchk_ok (n := 1165) (MT := xc_187_m) (CT := xc_187_u) (E := xc_187_e) (by
  simp only [xc_187_m, List.forall_mem_cons]
  exact ⟨rfl, rfl, rfl, rfl, rfl, rfl, rfl, rfl, rfl, rfl, rfl, rfl, rfl, rfl, fun _ h => by cases h⟩) (by
  simp only [xc_187_u, List.forall_mem_cons]
  exact ⟨xv_183, xv_177, xv_173, xv_172, xv_171, xv_170, xv_169, xv_168, fun _ h => by cases h⟩) xFl_good xXW_ok xc_187_0 (List.all_eq_true.mp xc_187_1)
set_option maxRecDepth 100000 in
theorem xc_188_0 : xchk0 xVV xc_188_m xc_188_u xc_188 xc_188_e 509 = true := by decide +kernel
set_option maxRecDepth 100000 in
theorem xc_188_1 : xc_188_e.all (xchk1 xVV xc_188_m xc_188_u xc_188 xc_188_e 509) = true := by decide +kernel
theorem xv_188 {og : Nat → Option zm_C} : xV xVV xX xW og xc_188 := xchk_ok (n := 509) (MT := xc_188_m) (CT := xc_188_u) (E := xc_188_e) (by
  simp only [xc_188_m, List.forall_mem_cons]
  exact ⟨rfl, rfl, rfl, rfl, rfl, fun _ h => by cases h⟩) (by
  simp only [xc_188_u, List.forall_mem_cons]
  exact ⟨xv_187, xv_168, fun _ h => by cases h⟩) xFl_good xXW_ok xc_188_0 (List.all_eq_true.mp xc_188_1)
set_option maxRecDepth 100000 in
theorem xc_189_0 : xchk0 xVV xc_189_m xc_189_u xc_189 xc_189_e 408 = true := by decide +kernel
set_option maxRecDepth 100000 in
theorem xc_189_1 : xc_189_e.all (xchk1 xVV xc_189_m xc_189_u xc_189 xc_189_e 408) = true := by decide +kernel
theorem xv_189 {og : Nat → Option zm_C} : xV xVV xX xW og xc_189 := xchk_ok (n := 408) (MT := xc_189_m) (CT := xc_189_u) (E := xc_189_e) (by
  simp only [xc_189_m, List.forall_mem_cons]
  exact ⟨rfl, rfl, rfl, rfl, rfl, fun _ h => by cases h⟩) (by
  simp only [xc_189_u, List.forall_mem_cons]
  exact ⟨xv_188, xv_168, fun _ h => by cases h⟩) xFl_good xXW_ok xc_189_0 (List.all_eq_true.mp xc_189_1)
set_option maxRecDepth 100000 in
theorem xc_190_0 : xchk0 xVV xc_190_m xc_190_u xc_190 xc_190_e 1705 = true := by decide +kernel
set_option maxRecDepth 100000 in
theorem xc_190_1 : xc_190_e.all (xchk1 xVV xc_190_m xc_190_u xc_190 xc_190_e 1705) = true := by decide +kernel
theorem xv_190 {og : Nat → Option zm_C} : xV xVV xX xW og xc_190 := xchk_ok (n := 1705) (MT := xc_190_m) (CT := xc_190_u) (E := xc_190_e) (by
  simp only [xc_190_m, List.forall_mem_cons]
  exact ⟨rfl, rfl, rfl, rfl, rfl, rfl, rfl, rfl, rfl, rfl, rfl, fun _ h => by cases h⟩) (by
  simp only [xc_190_u, List.forall_mem_cons]
  exact ⟨xv_189, xv_186, xv_180, xv_169, xv_168, fun _ h => by cases h⟩) xFl_good xXW_ok xc_190_0 (List.all_eq_true.mp xc_190_1)
set_option maxRecDepth 100000 in
theorem xc_191_0 : xchk0 xVV xc_191_m xc_191_u xc_191 xc_191_e 133 = true := by decide +kernel
set_option maxRecDepth 100000 in
theorem xc_191_1 : xc_191_e.all (xchk1 xVV xc_191_m xc_191_u xc_191 xc_191_e 133) = true := by decide +kernel
theorem xv_191 {og : Nat → Option zm_C} : xV xVV xX xW og xc_191 := xchk_ok (n := 133) (MT := xc_191_m) (CT := xc_191_u) (E := xc_191_e) (by
  simp only [xc_191_m, List.forall_mem_cons]
  exact ⟨rfl, rfl, rfl, rfl, fun _ h => by cases h⟩) (by
  simp only [xc_191_u, List.forall_mem_cons]
  exact ⟨xv_190, xv_169, xv_168, fun _ h => by cases h⟩) xFl_good xXW_ok xc_191_0 (List.all_eq_true.mp xc_191_1)
set_option maxRecDepth 100000 in
theorem xc_192_0 : xchk0 xVV xc_192_m xc_192_u xc_192 xc_192_e 140 = true := by decide +kernel
set_option maxRecDepth 100000 in
theorem xc_192_1 : xc_192_e.all (xchk1 xVV xc_192_m xc_192_u xc_192 xc_192_e 140) = true := by decide +kernel
theorem xv_192 {og : Nat → Option zm_C} : xV xVV xX xW og xc_192 := xchk_ok (n := 140) (MT := xc_192_m) (CT := xc_192_u) (E := xc_192_e) (by
  simp only [xc_192_m, List.forall_mem_cons]
  exact ⟨rfl, rfl, rfl, rfl, fun _ h => by cases h⟩) (by
  simp only [xc_192_u, List.forall_mem_cons]
  exact ⟨xv_191, xv_169, xv_168, fun _ h => by cases h⟩) xFl_good xXW_ok xc_192_0 (List.all_eq_true.mp xc_192_1)
set_option maxRecDepth 100000 in
theorem xc_193_0 : xchk0 xVV xc_193_m xc_193_u xc_193 xc_193_e 1165 = true := by decide +kernel
set_option maxRecDepth 100000 in
theorem xc_193_1 : xc_193_e.all (xchk1 xVV xc_193_m xc_193_u xc_193 xc_193_e 1165) = true := by decide +kernel
theorem xv_193 {og : Nat → Option zm_C} : xV xVV xX xW og xc_193 := xchk_ok (n := 1165) (MT := xc_193_m) (CT := xc_193_u) (E := xc_193_e) (by
  simp only [xc_193_m, List.forall_mem_cons]
  exact ⟨rfl, rfl, rfl, rfl, rfl, rfl, rfl, rfl, rfl, rfl, rfl, rfl, rfl, rfl, fun _ h => by cases h⟩) (by
  simp only [xc_193_u, List.forall_mem_cons]
  exact ⟨xv_189, xv_177, xv_173, xv_172, xv_171, xv_170, xv_169, xv_168, fun _ h => by cases h⟩) xFl_good xXW_ok xc_193_0 (List.all_eq_true.mp xc_193_1)
