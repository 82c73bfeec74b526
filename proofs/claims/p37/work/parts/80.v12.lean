/-! The contracts hold, as checked -/
set_option maxRecDepth 100000 in
theorem xc_208_0 : xchk0 xVV xc_208_m xc_208_u xc_208 xc_208_e 1705 = true := by decide +kernel
set_option maxRecDepth 100000 in
theorem xc_208_1 : xc_208_e.all (xchk1 xVV xc_208_m xc_208_u xc_208 xc_208_e 1705) = true := by decide +kernel
theorem xv_208 {og : Nat → Option zm_C} : xV xVV xX xW og xc_208 := xchk_ok (n := 1705) (MT := xc_208_m) (CT := xc_208_u) (E := xc_208_e) (by
  simp only [xc_208_m, List.forall_mem_cons]
  exact ⟨rfl, rfl, rfl, rfl, rfl, rfl, rfl, rfl, rfl, rfl, rfl, fun _ h => by cases h⟩) (by
  simp only [xc_208_u, List.forall_mem_cons]
  exact ⟨xv_207, xv_204, xv_180, xv_169, xv_168, fun _ h => by cases h⟩) xFl_good xXW_ok xc_208_0 (List.all_eq_true.mp xc_208_1)
set_option maxRecDepth 100000 in
theorem xc_209_0 : xchk0 xVV xc_209_m xc_209_u xc_209 xc_209_e 133 = true := by decide +kernel
set_option maxRecDepth 100000 in
theorem xc_209_1 : xc_209_e.all (xchk1 xVV xc_209_m xc_209_u xc_209 xc_209_e 133) = true := by decide +kernel
theorem xv_209 {og : Nat → Option zm_C} : xV xVV xX xW og xc_209 := xchk_ok (n := 133) (MT := xc_209_m) (CT := xc_209_u) (E := xc_209_e) (by
  simp only [xc_209_m, List.forall_mem_cons]
  exact ⟨rfl, rfl, rfl, rfl, fun _ h => by cases h⟩) (by
  simp only [xc_209_u, List.forall_mem_cons]
  exact ⟨xv_208, xv_169, xv_168, fun _ h => by cases h⟩) xFl_good xXW_ok xc_209_0 (List.all_eq_true.mp xc_209_1)
set_option maxRecDepth 100000 in
theorem xc_210_0 : xchk0 xVV xc_210_m xc_210_u xc_210 xc_210_e 140 = true := by decide +kernel
set_option maxRecDepth 100000 in
theorem xc_210_1 : xc_210_e.all (xchk1 xVV xc_210_m xc_210_u xc_210 xc_210_e 140) = true := by decide +kernel
theorem xv_210 {og : Nat → Option zm_C} : xV xVV xX xW og xc_210 := xchk_ok (n := 140) (MT := xc_210_m) (CT := xc_210_u) (E := xc_210_e) (by
  simp only [xc_210_m, List.forall_mem_cons]
  exact ⟨rfl, rfl, rfl, rfl, fun _ h => by cases h⟩) (by
  simp only [xc_210_u, List.forall_mem_cons]
  exact ⟨xv_209, xv_169, xv_168, fun _ h => by cases h⟩) xFl_good xXW_ok xc_210_0 (List.all_eq_true.mp xc_210_1)
set_option maxRecDepth 100000 in
theorem xc_211_0 : xchk0 xVV xc_211_m xc_211_u xc_211 xc_211_e 1165 = true := by decide +kernel
set_option maxRecDepth 100000 in
theorem xc_211_1 : xc_211_e.all (xchk1 xVV xc_211_m xc_211_u xc_211 xc_211_e 1165) = true := by decide +kernel
theorem xv_211 {og : Nat → Option zm_C} : xV xVV xX xW og xc_211 := xchk_ok (n := 1165) (MT := xc_211_m) (CT := xc_211_u) (E := xc_211_e) (by
  simp only [xc_211_m, List.forall_mem_cons]
  exact ⟨rfl, rfl, rfl, rfl, rfl, rfl, rfl, rfl, rfl, rfl, rfl, rfl, rfl, rfl, fun _ h => by cases h⟩) (by
  simp only [xc_211_u, List.forall_mem_cons]
  exact ⟨xv_207, xv_177, xv_173, xv_172, xv_171, xv_170, xv_169, xv_168, fun _ h => by cases h⟩) xFl_good xXW_ok xc_211_0 (List.all_eq_true.mp xc_211_1)
set_option maxRecDepth 100000 in
theorem xc_212_0 : xchk0 xVV xc_212_m xc_212_u xc_212 xc_212_e 509 = true := by decide +kernel
set_option maxRecDepth 100000 in
theorem xc_212_1 : xc_212_e.all (xchk1 xVV xc_212_m xc_212_u xc_212 xc_212_e 509) = true := by decide +kernel
theorem xv_212 {og : Nat → Option zm_C} : xV xVV xX xW og xc_212 := xchk_ok (n := 509) (MT := xc_212_m) (CT := xc_212_u) (E := xc_212_e) (by
  simp only [xc_212_m, List.forall_mem_cons]
  exact ⟨rfl, rfl, rfl, rfl, rfl, fun _ h => by cases h⟩) (by
  simp only [xc_212_u, List.forall_mem_cons]
  exact ⟨xv_211, xv_168, fun _ h => by cases h⟩) xFl_good xXW_ok xc_212_0 (List.all_eq_true.mp xc_212_1)
set_option maxRecDepth 100000 in
theorem xc_213_0 : xchk0 xVV xc_213_m xc_213_u xc_213 xc_213_e 408 = true := by decide +kernel
set_option maxRecDepth 100000 in
theorem xc_213_1 : xc_213_e.all (xchk1 xVV xc_213_m xc_213_u xc_213 xc_213_e 408) = true := by decide +kernel
theorem xv_213 {og : Nat → Option zm_C} : xV xVV xX xW og xc_213 := xchk_ok (n := 408) (MT := xc_213_m) (CT := xc_213_u) (E := xc_213_e) (by
  simp only [xc_213_m, List.forall_mem_cons]
  exact ⟨rfl, rfl, rfl, rfl, rfl, fun _ h => by cases h⟩) (by
  simp only [xc_213_u, List.forall_mem_cons]
  exact ⟨xv_212, xv_168, fun _ h => by cases h⟩) xFl_good xXW_ok xc_213_0 (List.all_eq_true.mp xc_213_1)
set_option maxRecDepth 100000 in
theorem xc_214_0 : xchk0 xVV xc_214_m xc_214_u xc_214 xc_214_e 1705 = true := by decide +kernel
set_option maxRecDepth 100000 in
theorem xc_214_1 : xc_214_e.all (xchk1 xVV xc_214_m xc_214_u xc_214 xc_214_e 1705) = true := by decide +kernel
theorem xv_214 {og : Nat → Option zm_C} : xV xVV xX xW og xc_214 := xchk_ok (n := 1705) (MT := xc_214_m) (CT := xc_214_u) (E := xc_214_e) (by
  simp only [xc_214_m, List.forall_mem_cons]
  exact ⟨rfl, rfl, rfl, rfl, rfl, rfl, rfl, rfl, rfl, rfl, rfl, fun _ h => by cases h⟩) (by
  simp only [xc_214_u, List.forall_mem_cons]
  exact ⟨xv_213, xv_210, xv_180, xv_169, xv_168, fun _ h => by cases h⟩) xFl_good xXW_ok xc_214_0 (List.all_eq_true.mp xc_214_1)
set_option maxRecDepth 100000 in
theorem xc_215_0 : xchk0 xVV xc_215_m xc_215_u xc_215 xc_215_e 133 = true := by decide +kernel
set_option maxRecDepth 100000 in
theorem xc_215_1 : xc_215_e.all (xchk1 xVV xc_215_m xc_215_u xc_215 xc_215_e 133) = true := by decide +kernel
theorem xv_215 {og : Nat → Option zm_C} : xV xVV xX xW og xc_215 := xchk_ok (n := 133) (MT := xc_215_m) (CT := xc_215_u) (E := xc_215_e) (by
  simp only [xc_215_m, List.forall_mem_cons]
  exact ⟨rfl, rfl, rfl, rfl, fun _ h => by cases h⟩) (by
  simp only [xc_215_u, List.forall_mem_cons]
  exact ⟨xv_214, xv_169, xv_168, fun _ h => by cases h⟩) xFl_good xXW_ok xc_215_0 (List.all_eq_true.mp xc_215_1)
set_option maxRecDepth 100000 in
theorem xc_216_0 : xchk0 xVV xc_216_m xc_216_u xc_216 xc_216_e 140 = true := by decide +kernel
set_option maxRecDepth 100000 in
theorem xc_216_1 : xc_216_e.all (xchk1 xVV xc_216_m xc_216_u xc_216 xc_216_e 140) = true := by decide +kernel
theorem xv_216 {og : Nat → Option zm_C} : xV xVV xX xW og xc_216 := xchk_ok (n := 140) (MT := xc_216_m) (CT := xc_216_u) (E := xc_216_e) (by
  simp only [xc_216_m, List.forall_mem_cons]
  exact ⟨rfl, rfl, rfl, rfl, fun _ h => by cases h⟩) (by
  simp only [xc_216_u, List.forall_mem_cons]
  exact ⟨xv_215, xv_169, xv_168, fun _ h => by cases h⟩) xFl_good xXW_ok xc_216_0 (List.all_eq_true.mp xc_216_1)
set_option maxRecDepth 100000 in
theorem xc_217_0 : xchk0 xVV xc_217_m xc_217_u xc_217 xc_217_e 1165 = true := by decide +kernel
set_option maxRecDepth 100000 in
theorem xc_217_1 : xc_217_e.all (xchk1 xVV xc_217_m xc_217_u xc_217 xc_217_e 1165) = true := by decide +kernel
theorem xv_217 {og : Nat → Option zm_C} : xV xVV xX xW og xc_217 := xchk_ok (n := 1165) (MT := xc_217_m) (CT := xc_217_u) (E := xc_217_e) (by
  simp only [xc_217_m, List.forall_mem_cons]
  exact ⟨rfl, rfl, rfl, rfl, rfl, rfl, rfl, rfl, rfl, rfl, rfl, rfl, rfl, rfl, fun _ h => by cases h⟩) (by
  simp only [xc_217_u, List.forall_mem_cons]
  exact ⟨xv_213, xv_177, xv_173, xv_172, xv_171, xv_170, xv_169, xv_168, fun _ h => by cases h⟩) xFl_good xXW_ok xc_217_0 (List.all_eq_true.mp xc_217_1)
set_option maxRecDepth 100000 in
theorem xc_218_0 : xchk0 xVV xc_218_m xc_218_u xc_218 xc_218_e 509 = true := by decide +kernel
set_option maxRecDepth 100000 in
theorem xc_218_1 : xc_218_e.all (xchk1 xVV xc_218_m xc_218_u xc_218 xc_218_e 509) = true := by decide +kernel
theorem xv_218 {og : Nat → Option zm_C} : xV xVV xX xW og xc_218 := xchk_ok (n := 509) (MT := xc_218_m) (CT := xc_218_u) (E := xc_218_e) (by
  simp only [xc_218_m, List.forall_mem_cons]
  exact ⟨rfl, rfl, rfl, rfl, rfl, fun _ h => by cases h⟩) (by
  simp only [xc_218_u, List.forall_mem_cons]
  exact ⟨xv_217, xv_168, fun _ h => by cases h⟩) xFl_good xXW_ok xc_218_0 (List.all_eq_true.mp xc_218_1)
set_option maxRecDepth 100000 in
theorem xc_219_0 : xchk0 xVV xc_219_m xc_219_u xc_219 xc_219_e 408 = true := by decide +kernel
set_option maxRecDepth 100000 in
theorem xc_219_1 : xc_219_e.all (xchk1 xVV xc_219_m xc_219_u xc_219 xc_219_e 408) = true := by decide +kernel
theorem xv_219 {og : Nat → Option zm_C} : xV xVV xX xW og xc_219 := xchk_ok (n := 408) (MT := xc_219_m) (CT := xc_219_u) (E := xc_219_e) (by
  simp only [xc_219_m, List.forall_mem_cons]
  exact ⟨rfl, rfl, rfl, rfl, rfl, fun _ h => by cases h⟩) (by
  simp only [xc_219_u, List.forall_mem_cons]
  exact ⟨xv_218, xv_168, fun _ h => by cases h⟩) xFl_good xXW_ok xc_219_0 (List.all_eq_true.mp xc_219_1)
set_option maxRecDepth 100000 in
theorem xc_220_0 : xchk0 xVV xc_220_m xc_220_u xc_220 xc_220_e 1705 = true := by decide +kernel
set_option maxRecDepth 100000 in
theorem xc_220_1 : xc_220_e.all (xchk1 xVV xc_220_m xc_220_u xc_220 xc_220_e 1705) = true := by decide +kernel
theorem xv_220 {og : Nat → Option zm_C} : xV xVV xX xW og xc_220 := xchk_ok (n := 1705) (MT := xc_220_m) (CT := xc_220_u) (E := xc_220_e) (by
  simp only [xc_220_m, List.forall_mem_cons]
  exact ⟨rfl, rfl, rfl, rfl, rfl, rfl, rfl, rfl, rfl, rfl, rfl, fun _ h => by cases h⟩) (by
  simp only [xc_220_u, List.forall_mem_cons]
  exact ⟨xv_219, xv_216, xv_180, xv_169, xv_168, fun _ h => by cases h⟩) xFl_good xXW_ok xc_220_0 (List.all_eq_true.mp xc_220_1)
