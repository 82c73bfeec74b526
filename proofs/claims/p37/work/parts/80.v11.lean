/-! The contracts hold, as checked -/
set_option maxRecDepth 100000 in
theorem xc_194_0 : xchk0 xVV xc_194_m xc_194_u xc_194 xc_194_e 509 = true := by decide +kernel
set_option maxRecDepth 100000 in
theorem xc_194_1 : xc_194_e.all (xchk1 xVV xc_194_m xc_194_u xc_194 xc_194_e 509) = true := by decide +kernel
theorem xv_194 {og : Nat → Option zm_C} : xV xVV xX xW og xc_194 := xchk_ok (n := 509) (MT := xc_194_m) (CT := xc_194_u) (E := xc_194_e) (by
  simp only [xc_194_m, List.forall_mem_cons]
  exact ⟨rfl, rfl, rfl, rfl, rfl, fun _ h => by cases h⟩) (by
  simp only [xc_194_u, List.forall_mem_cons]
  exact ⟨xv_193, xv_168, fun _ h => by cases h⟩) xFl_good xXW_ok xc_194_0 (List.all_eq_true.mp xc_194_1)
set_option maxRecDepth 100000 in
theorem xc_195_0 : xchk0 xVV xc_195_m xc_195_u xc_195 xc_195_e 408 = true := by decide +kernel
set_option maxRecDepth 100000 in
theorem xc_195_1 : xc_195_e.all (xchk1 xVV xc_195_m xc_195_u xc_195 xc_195_e 408) = true := by decide +kernel
theorem xv_195 {og : Nat → Option zm_C} : xV xVV xX xW og xc_195 := xchk_ok (n := 408) (MT := xc_195_m) (CT := xc_195_u) (E := xc_195_e) (by
  simp only [xc_195_m, List.forall_mem_cons]
  exact ⟨rfl, rfl, rfl, rfl, rfl, fun _ h => by cases h⟩) (by
  simp only [xc_195_u, List.forall_mem_cons]
  exact ⟨xv_194, xv_168, fun _ h => by cases h⟩) xFl_good xXW_ok xc_195_0 (List.all_eq_true.mp xc_195_1)
set_option maxRecDepth 100000 in
theorem xc_196_0 : xchk0 xVV xc_196_m xc_196_u xc_196 xc_196_e 1705 = true := by decide +kernel
set_option maxRecDepth 100000 in
theorem xc_196_1 : xc_196_e.all (xchk1 xVV xc_196_m xc_196_u xc_196 xc_196_e 1705) = true := by decide +kernel
theorem xv_196 {og : Nat → Option zm_C} : xV xVV xX xW og xc_196 := xchk_ok (n := 1705) (MT := xc_196_m) (CT := xc_196_u) (E := xc_196_e) (by
  simp only [xc_196_m, List.forall_mem_cons]
  exact ⟨rfl, rfl, rfl, rfl, rfl, rfl, rfl, rfl, rfl, rfl, rfl, fun _ h => by cases h⟩) (by
  simp only [xc_196_u, List.forall_mem_cons]
  exact ⟨xv_195, xv_192, xv_180, xv_169, xv_168, fun _ h => by cases h⟩) xFl_good xXW_ok xc_196_0 (List.all_eq_true.mp xc_196_1)
set_option maxRecDepth 100000 in
theorem xc_197_0 : xchk0 xVV xc_197_m xc_197_u xc_197 xc_197_e 133 = true := by decide +kernel
set_option maxRecDepth 100000 in
theorem xc_197_1 : xc_197_e.all (xchk1 xVV xc_197_m xc_197_u xc_197 xc_197_e 133) = true := by decide +kernel
theorem xv_197 {og : Nat → Option zm_C} : xV xVV xX xW og xc_197 := xchk_ok (n := 133) (MT := xc_197_m) (CT := xc_197_u) (E := xc_197_e) (by
  simp only [xc_197_m, List.forall_mem_cons]
  exact ⟨rfl, rfl, rfl, rfl, fun _ h => by cases h⟩) (by
  simp only [xc_197_u, List.forall_mem_cons]
  exact ⟨xv_196, xv_169, xv_168, fun _ h => by cases h⟩) xFl_good xXW_ok xc_197_0 (List.all_eq_true.mp xc_197_1)
set_option maxRecDepth 100000 in
theorem xc_198_0 : xchk0 xVV xc_198_m xc_198_u xc_198 xc_198_e 140 = true := by decide +kernel
set_option maxRecDepth 100000 in
theorem xc_198_1 : xc_198_e.all (xchk1 xVV xc_198_m xc_198_u xc_198 xc_198_e 140) = true := by decide +kernel
theorem xv_198 {og : Nat → Option zm_C} : xV xVV xX xW og xc_198 := xchk_ok (n := 140) (MT := xc_198_m) (CT := xc_198_u) (E := xc_198_e) (by
  simp only [xc_198_m, List.forall_mem_cons]
  exact ⟨rfl, rfl, rfl, rfl, fun _ h => by cases h⟩) (by
  simp only [xc_198_u, List.forall_mem_cons]
  exact ⟨xv_197, xv_169, xv_168, fun _ h => by cases h⟩) xFl_good xXW_ok xc_198_0 (List.all_eq_true.mp xc_198_1)
set_option maxRecDepth 100000 in
theorem xc_199_0 : xchk0 xVV xc_199_m xc_199_u xc_199 xc_199_e 1165 = true := by decide +kernel
set_option maxRecDepth 100000 in
theorem xc_199_1 : xc_199_e.all (xchk1 xVV xc_199_m xc_199_u xc_199 xc_199_e 1165) = true := by decide +kernel
theorem xv_199 {og : Nat → Option zm_C} : xV xVV xX xW og xc_199 := xchk_ok (n := 1165) (MT := xc_199_m) (CT := xc_199_u) (E := xc_199_e) (by
  simp only [xc_199_m, List.forall_mem_cons]
  exact ⟨rfl, rfl, rfl, rfl, rfl, rfl, rfl, rfl, rfl, rfl, rfl, rfl, rfl, rfl, fun _ h => by cases h⟩) (by
  simp only [xc_199_u, List.forall_mem_cons]
  exact ⟨xv_195, xv_177, xv_173, xv_172, xv_171, xv_170, xv_169, xv_168, fun _ h => by cases h⟩) xFl_good xXW_ok xc_199_0 (List.all_eq_true.mp xc_199_1)
set_option maxRecDepth 100000 in
theorem xc_200_0 : xchk0 xVV xc_200_m xc_200_u xc_200 xc_200_e 509 = true := by decide +kernel
set_option maxRecDepth 100000 in
theorem xc_200_1 : xc_200_e.all (xchk1 xVV xc_200_m xc_200_u xc_200 xc_200_e 509) = true := by decide +kernel
theorem xv_200 {og : Nat → Option zm_C} : xV xVV xX xW og xc_200 := xchk_ok (n := 509) (MT := xc_200_m) (CT := xc_200_u) (E := xc_200_e) (by
  simp only [xc_200_m, List.forall_mem_cons]
  exact ⟨rfl, rfl, rfl, rfl, rfl, fun _ h => by cases h⟩) (by
  simp only [xc_200_u, List.forall_mem_cons]
  exact ⟨xv_199, xv_168, fun _ h => by cases h⟩) xFl_good xXW_ok xc_200_0 (List.all_eq_true.mp xc_200_1)
set_option maxRecDepth 100000 in
theorem xc_201_0 : xchk0 xVV xc_201_m xc_201_u xc_201 xc_201_e 408 = true := by decide +kernel
set_option maxRecDepth 100000 in
theorem xc_201_1 : xc_201_e.all (xchk1 xVV xc_201_m xc_201_u xc_201 xc_201_e 408) = true := by decide +kernel
theorem xv_201 {og : Nat → Option zm_C} : xV xVV xX xW og xc_201 := xchk_ok (n := 408) (MT := xc_201_m) (CT := xc_201_u) (E := xc_201_e) (by
  simp only [xc_201_m, List.forall_mem_cons]
  exact ⟨rfl, rfl, rfl, rfl, rfl, fun _ h => by cases h⟩) (by
  simp only [xc_201_u, List.forall_mem_cons]
  exact ⟨xv_200, xv_168, fun _ h => by cases h⟩) xFl_good xXW_ok xc_201_0 (List.all_eq_true.mp xc_201_1)
set_option maxRecDepth 100000 in
theorem xc_202_0 : xchk0 xVV xc_202_m xc_202_u xc_202 xc_202_e 1705 = true := by decide +kernel
set_option maxRecDepth 100000 in
theorem xc_202_1 : xc_202_e.all (xchk1 xVV xc_202_m xc_202_u xc_202 xc_202_e 1705) = true := by decide +kernel
theorem xv_202 {og : Nat → Option zm_C} : xV xVV xX xW og xc_202 := xchk_ok (n := 1705) (MT := xc_202_m) (CT := xc_202_u) (E := xc_202_e) (by
  simp only [xc_202_m, List.forall_mem_cons]
  exact ⟨rfl, rfl, rfl, rfl, rfl, rfl, rfl, rfl, rfl, rfl, rfl, fun _ h => by cases h⟩) (by
  simp only [xc_202_u, List.forall_mem_cons]
  exact ⟨xv_201, xv_198, xv_180, xv_169, xv_168, fun _ h => by cases h⟩) xFl_good xXW_ok xc_202_0 (List.all_eq_true.mp xc_202_1)
set_option maxRecDepth 100000 in
theorem xc_203_0 : xchk0 xVV xc_203_m xc_203_u xc_203 xc_203_e 133 = true := by decide +kernel
set_option maxRecDepth 100000 in
theorem xc_203_1 : xc_203_e.all (xchk1 xVV xc_203_m xc_203_u xc_203 xc_203_e 133) = true := by decide +kernel
theorem xv_203 {og : Nat → Option zm_C} : xV xVV xX xW og xc_203 := xchk_ok (n := 133) (MT := xc_203_m) (CT := xc_203_u) (E := xc_203_e) (by
  simp only [xc_203_m, List.forall_mem_cons]
  exact ⟨rfl, rfl, rfl, rfl, fun _ h => by cases h⟩) (by
  simp only [xc_203_u, List.forall_mem_cons]
  exact ⟨xv_202, xv_169, xv_168, fun _ h => by cases h⟩) xFl_good xXW_ok xc_203_0 (List.all_eq_true.mp xc_203_1)
set_option maxRecDepth 100000 in
theorem xc_204_0 : xchk0 xVV xc_204_m xc_204_u xc_204 xc_204_e 140 = true := by decide +kernel
set_option maxRecDepth 100000 in
theorem xc_204_1 : xc_204_e.all (xchk1 xVV xc_204_m xc_204_u xc_204 xc_204_e 140) = true := by decide +kernel
theorem xv_204 {og : Nat → Option zm_C} : xV xVV xX xW og xc_204 := xchk_ok (n := 140) (MT := xc_204_m) (CT := xc_204_u) (E := xc_204_e) (by
  simp only [xc_204_m, List.forall_mem_cons]
  exact ⟨rfl, rfl, rfl, rfl, fun _ h => by cases h⟩) (by
  simp only [xc_204_u, List.forall_mem_cons]
  exact ⟨xv_203, xv_169, xv_168, fun _ h => by cases h⟩) xFl_good xXW_ok xc_204_0 (List.all_eq_true.mp xc_204_1)
set_option maxRecDepth 100000 in
theorem xc_205_0 : xchk0 xVV xc_205_m xc_205_u xc_205 xc_205_e 1165 = true := by decide +kernel
set_option maxRecDepth 100000 in
theorem xc_205_1 : xc_205_e.all (xchk1 xVV xc_205_m xc_205_u xc_205 xc_205_e 1165) = true := by decide +kernel
theorem xv_205 {og : Nat → Option zm_C} : xV xVV xX xW og xc_205 := xchk_ok (n := 1165) (MT := xc_205_m) (CT := xc_205_u) (E := xc_205_e) (by
  simp only [xc_205_m, List.forall_mem_cons]
  exact ⟨rfl, rfl, rfl, rfl, rfl, rfl, rfl, rfl, rfl, rfl, rfl, rfl, rfl, rfl, fun _ h => by cases h⟩) (by
  simp only [xc_205_u, List.forall_mem_cons]
  exact ⟨xv_201, xv_177, xv_173, xv_172, xv_171, xv_170, xv_169, xv_168, fun _ h => by cases h⟩) xFl_good xXW_ok xc_205_0 (List.all_eq_true.mp xc_205_1)
set_option maxRecDepth 100000 in
theorem xc_206_0 : xchk0 xVV xc_206_m xc_206_u xc_206 xc_206_e 509 = true := by decide +kernel
set_option maxRecDepth 100000 in
theorem xc_206_1 : xc_206_e.all (xchk1 xVV xc_206_m xc_206_u xc_206 xc_206_e 509) = true := by decide +kernel
theorem xv_206 {og : Nat → Option zm_C} : xV xVV xX xW og xc_206 := xchk_ok (n := 509) (MT := xc_206_m) (CT := xc_206_u) (E := xc_206_e) (by
  simp only [xc_206_m, List.forall_mem_cons]
  exact ⟨rfl, rfl, rfl, rfl, rfl, fun _ h => by cases h⟩) (by
  simp only [xc_206_u, List.forall_mem_cons]
  exact ⟨xv_205, xv_168, fun _ h => by cases h⟩) xFl_good xXW_ok xc_206_0 (List.all_eq_true.mp xc_206_1)
set_option maxRecDepth 100000 in
theorem xc_207_0 : xchk0 xVV xc_207_m xc_207_u xc_207 xc_207_e 408 = true := by decide +kernel
set_option maxRecDepth 100000 in
theorem xc_207_1 : xc_207_e.all (xchk1 xVV xc_207_m xc_207_u xc_207 xc_207_e 408) = true := by decide +kernel
theorem xv_207 {og : Nat → Option zm_C} : xV xVV xX xW og xc_207 := xchk_ok (n := 408) (MT := xc_207_m) (CT := xc_207_u) (E := xc_207_e) (by
  simp only [xc_207_m, List.forall_mem_cons]
  exact ⟨rfl, rfl, rfl, rfl, rfl, fun _ h => by cases h⟩) (by
  simp only [xc_207_u, List.forall_mem_cons]
  exact ⟨xv_206, xv_168, fun _ h => by cases h⟩) xFl_good xXW_ok xc_207_0 (List.all_eq_true.mp xc_207_1)
