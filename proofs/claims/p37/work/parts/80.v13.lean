/-! The contracts hold, as checked -/
set_option maxRecDepth 100000 in
theorem xc_221_0 : xchk0 xVV xc_221_m xc_221_u xc_221 xc_221_e 133 = true := by decide +kernel
set_option maxRecDepth 100000 in
theorem xc_221_1 : xc_221_e.all (xchk1 xVV xc_221_m xc_221_u xc_221 xc_221_e 133) = true := by decide +kernel
theorem xv_221 {og : Nat → Option zm_C} : xV xVV xX xW og xc_221 := xchk_ok (n := 133) (MT := xc_221_m) (CT := xc_221_u) (E := xc_221_e) (by
  simp only [xc_221_m, List.forall_mem_cons]
  exact ⟨rfl, rfl, rfl, rfl, fun _ h => by cases h⟩) (by
  simp only [xc_221_u, List.forall_mem_cons]
  exact ⟨xv_220, xv_169, xv_168, fun _ h => by cases h⟩) xFl_good xXW_ok xc_221_0 (List.all_eq_true.mp xc_221_1)
set_option maxRecDepth 100000 in
theorem xc_222_0 : xchk0 xVV xc_222_m xc_222_u xc_222 xc_222_e 140 = true := by decide +kernel
set_option maxRecDepth 100000 in
theorem xc_222_1 : xc_222_e.all (xchk1 xVV xc_222_m xc_222_u xc_222 xc_222_e 140) = true := by decide +kernel
theorem xv_222 {og : Nat → Option zm_C} : xV xVV xX xW og xc_222 := xchk_ok (n := 140) (MT := xc_222_m) (CT := xc_222_u) (E := xc_222_e) (by
  simp only [xc_222_m, List.forall_mem_cons]
  exact ⟨rfl, rfl, rfl, rfl, fun _ h => by cases h⟩) (by
  simp only [xc_222_u, List.forall_mem_cons]
  exact ⟨xv_221, xv_169, xv_168, fun _ h => by cases h⟩) xFl_good xXW_ok xc_222_0 (List.all_eq_true.mp xc_222_1)
set_option maxRecDepth 100000 in
theorem xc_223_0 : xchk0 xVV xc_223_m xc_223_u xc_223 xc_223_e 1165 = true := by decide +kernel
set_option maxRecDepth 100000 in
theorem xc_223_1 : xc_223_e.all (xchk1 xVV xc_223_m xc_223_u xc_223 xc_223_e 1165) = true := by decide +kernel
theorem xv_223 {og : Nat → Option zm_C} : xV xVV xX xW og xc_223 := xchk_ok (n := 1165) (MT := xc_223_m) (CT := xc_223_u) (E := xc_223_e) (by
  simp only [xc_223_m, List.forall_mem_cons]
  exact ⟨rfl, rfl, rfl, rfl, rfl, rfl, rfl, rfl, rfl, rfl, rfl, rfl, rfl, rfl, fun _ h => by cases h⟩) (by
  simp only [xc_223_u, List.forall_mem_cons]
  exact ⟨xv_219, xv_177, xv_173, xv_172, xv_171, xv_170, xv_169, xv_168, fun _ h => by cases h⟩) xFl_good xXW_ok xc_223_0 (List.all_eq_true.mp xc_223_1)
set_option maxRecDepth 100000 in
theorem xc_224_0 : xchk0 xVV xc_224_m xc_224_u xc_224 xc_224_e 509 = true := by decide +kernel
set_option maxRecDepth 100000 in
theorem xc_224_1 : xc_224_e.all (xchk1 xVV xc_224_m xc_224_u xc_224 xc_224_e 509) = true := by decide +kernel
theorem xv_224 {og : Nat → Option zm_C} : xV xVV xX xW og xc_224 := xchk_ok (n := 509) (MT := xc_224_m) (CT := xc_224_u) (E := xc_224_e) (by
  simp only [xc_224_m, List.forall_mem_cons]
  exact ⟨rfl, rfl, rfl, rfl, rfl, fun _ h => by cases h⟩) (by
  simp only [xc_224_u, List.forall_mem_cons]
  exact ⟨xv_223, xv_168, fun _ h => by cases h⟩) xFl_good xXW_ok xc_224_0 (List.all_eq_true.mp xc_224_1)
set_option maxRecDepth 100000 in
theorem xc_225_0 : xchk0 xVV xc_225_m xc_225_u xc_225 xc_225_e 408 = true := by decide +kernel
set_option maxRecDepth 100000 in
theorem xc_225_1 : xc_225_e.all (xchk1 xVV xc_225_m xc_225_u xc_225 xc_225_e 408) = true := by decide +kernel
theorem xv_225 {og : Nat → Option zm_C} : xV xVV xX xW og xc_225 := xchk_ok (n := 408) (MT := xc_225_m) (CT := xc_225_u) (E := xc_225_e) (by
  simp only [xc_225_m, List.forall_mem_cons]
  exact ⟨rfl, rfl, rfl, rfl, rfl, fun _ h => by cases h⟩) (by
  simp only [xc_225_u, List.forall_mem_cons]
  exact ⟨xv_224, xv_168, fun _ h => by cases h⟩) xFl_good xXW_ok xc_225_0 (List.all_eq_true.mp xc_225_1)
set_option maxRecDepth 100000 in
theorem xc_226_0 : xchk0 xVV xc_226_m xc_226_u xc_226 xc_226_e 1705 = true := by decide +kernel
set_option maxRecDepth 100000 in
theorem xc_226_1 : xc_226_e.all (xchk1 xVV xc_226_m xc_226_u xc_226 xc_226_e 1705) = true := by decide +kernel
theorem xv_226 {og : Nat → Option zm_C} : xV xVV xX xW og xc_226 := xchk_ok (n := 1705) (MT := xc_226_m) (CT := xc_226_u) (E := xc_226_e) (by
  simp only [xc_226_m, List.forall_mem_cons]
  exact ⟨rfl, rfl, rfl, rfl, rfl, rfl, rfl, rfl, rfl, rfl, rfl, fun _ h => by cases h⟩) (by
  simp only [xc_226_u, List.forall_mem_cons]
  exact ⟨xv_225, xv_222, xv_180, xv_169, xv_168, fun _ h => by cases h⟩) xFl_good xXW_ok xc_226_0 (List.all_eq_true.mp xc_226_1)
set_option maxRecDepth 100000 in
theorem xc_227_0 : xchk0 xVV xc_227_m xc_227_u xc_227 xc_227_e 133 = true := by decide +kernel
set_option maxRecDepth 100000 in
theorem xc_227_1 : xc_227_e.all (xchk1 xVV xc_227_m xc_227_u xc_227 xc_227_e 133) = true := by decide +kernel
theorem xv_227 {og : Nat → Option zm_C} : xV xVV xX xW og xc_227 := xchk_ok (n := 133) (MT := xc_227_m) (CT := xc_227_u) (E := xc_227_e) (by
  simp only [xc_227_m, List.forall_mem_cons]
  exact ⟨rfl, rfl, rfl, rfl, fun _ h => by cases h⟩) (by
  simp only [xc_227_u, List.forall_mem_cons]
  exact ⟨xv_226, xv_169, xv_168, fun _ h => by cases h⟩) xFl_good xXW_ok xc_227_0 (List.all_eq_true.mp xc_227_1)
set_option maxRecDepth 100000 in
theorem xc_228_0 : xchk0 xVV xc_228_m xc_228_u xc_228 xc_228_e 140 = true := by decide +kernel
set_option maxRecDepth 100000 in
theorem xc_228_1 : xc_228_e.all (xchk1 xVV xc_228_m xc_228_u xc_228 xc_228_e 140) = true := by decide +kernel
theorem xv_228 {og : Nat → Option zm_C} : xV xVV xX xW og xc_228 := xchk_ok (n := 140) (MT := xc_228_m) (CT := xc_228_u) (E := xc_228_e) (by
  simp only [xc_228_m, List.forall_mem_cons]
  exact ⟨rfl, rfl, rfl, rfl, fun _ h => by cases h⟩) (by
  simp only [xc_228_u, List.forall_mem_cons]
  exact ⟨xv_227, xv_169, xv_168, fun _ h => by cases h⟩) xFl_good xXW_ok xc_228_0 (List.all_eq_true.mp xc_228_1)
set_option maxRecDepth 100000 in
theorem xc_229_0 : xchk0 xVV xc_229_m xc_229_u xc_229 xc_229_e 1165 = true := by decide +kernel
set_option maxRecDepth 100000 in
theorem xc_229_1 : xc_229_e.all (xchk1 xVV xc_229_m xc_229_u xc_229 xc_229_e 1165) = true := by decide +kernel
theorem xv_229 {og : Nat → Option zm_C} : xV xVV xX xW og xc_229 := xchk_ok (n := 1165) (MT := xc_229_m) (CT := xc_229_u) (E := xc_229_e) (by
  simp only [xc_229_m, List.forall_mem_cons]
  exact ⟨rfl, rfl, rfl, rfl, rfl, rfl, rfl, rfl, rfl, rfl, rfl, rfl, rfl, rfl, fun _ h => by cases h⟩) (by
  simp only [xc_229_u, List.forall_mem_cons]
  exact ⟨xv_225, xv_177, xv_173, xv_172, xv_171, xv_170, xv_169, xv_168, fun _ h => by cases h⟩) xFl_good xXW_ok xc_229_0 (List.all_eq_true.mp xc_229_1)
set_option maxRecDepth 100000 in
theorem xc_230_0 : xchk0 xVV xc_230_m xc_230_u xc_230 xc_230_e 509 = true := by decide +kernel
set_option maxRecDepth 100000 in
theorem xc_230_1 : xc_230_e.all (xchk1 xVV xc_230_m xc_230_u xc_230 xc_230_e 509) = true := by decide +kernel
theorem xv_230 {og : Nat → Option zm_C} : xV xVV xX xW og xc_230 := xchk_ok (n := 509) (MT := xc_230_m) (CT := xc_230_u) (E := xc_230_e) (by
  simp only [xc_230_m, List.forall_mem_cons]
  exact ⟨rfl, rfl, rfl, rfl, rfl, fun _ h => by cases h⟩) (by
  simp only [xc_230_u, List.forall_mem_cons]
  exact ⟨xv_229, xv_168, fun _ h => by cases h⟩) xFl_good xXW_ok xc_230_0 (List.all_eq_true.mp xc_230_1)
set_option maxRecDepth 100000 in
theorem xc_231_0 : xchk0 xVV xc_231_m xc_231_u xc_231 xc_231_e 408 = true := by decide +kernel
set_option maxRecDepth 100000 in
theorem xc_231_1 : xc_231_e.all (xchk1 xVV xc_231_m xc_231_u xc_231 xc_231_e 408) = true := by decide +kernel
theorem xv_231 {og : Nat → Option zm_C} : xV xVV xX xW og xc_231 := xchk_ok (n := 408) (MT := xc_231_m) (CT := xc_231_u) (E := xc_231_e) (by
  simp only [xc_231_m, List.forall_mem_cons]
  exact ⟨rfl, rfl, rfl, rfl, rfl, fun _ h => by cases h⟩) (by
  simp only [xc_231_u, List.forall_mem_cons]
  exact ⟨xv_230, xv_168, fun _ h => by cases h⟩) xFl_good xXW_ok xc_231_0 (List.all_eq_true.mp xc_231_1)
set_option maxRecDepth 100000 in
theorem xc_232_0 : xchk0 xVV xc_232_m xc_232_u xc_232 xc_232_e 1705 = true := by decide +kernel
set_option maxRecDepth 100000 in
theorem xc_232_1 : xc_232_e.all (xchk1 xVV xc_232_m xc_232_u xc_232 xc_232_e 1705) = true := by decide +kernel
theorem xv_232 {og : Nat → Option zm_C} : xV xVV xX xW og xc_232 := xchk_ok (n := 1705) (MT := xc_232_m) (CT := xc_232_u) (E := xc_232_e) (by
  simp only [xc_232_m, List.forall_mem_cons]
  exact ⟨rfl, rfl, rfl, rfl, rfl, rfl, rfl, rfl, rfl, rfl, rfl, fun _ h => by cases h⟩) (by
  simp only [xc_232_u, List.forall_mem_cons]
  exact ⟨xv_231, xv_228, xv_180, xv_169, xv_168, fun _ h => by cases h⟩) xFl_good xXW_ok xc_232_0 (List.all_eq_true.mp xc_232_1)
set_option maxRecDepth 100000 in
theorem xc_233_0 : xchk0 xVV xc_233_m xc_233_u xc_233 xc_233_e 133 = true := by decide +kernel
set_option maxRecDepth 100000 in
theorem xc_233_1 : xc_233_e.all (xchk1 xVV xc_233_m xc_233_u xc_233 xc_233_e 133) = true := by decide +kernel
theorem xv_233 {og : Nat → Option zm_C} : xV xVV xX xW og xc_233 := xchk_ok (n := 133) (MT := xc_233_m) (CT := xc_233_u) (E := xc_233_e) (by
  simp only [xc_233_m, List.forall_mem_cons]
  exact ⟨rfl, rfl, rfl, rfl, fun _ h => by cases h⟩) (by
  simp only [xc_233_u, List.forall_mem_cons]
  exact ⟨xv_232, xv_169, xv_168, fun _ h => by cases h⟩) xFl_good xXW_ok xc_233_0 (List.all_eq_true.mp xc_233_1)
set_option maxRecDepth 100000 in
theorem xc_234_0 : xchk0 xVV xc_234_m xc_234_u xc_234 xc_234_e 140 = true := by decide +kernel
set_option maxRecDepth 100000 in
theorem xc_234_1 : xc_234_e.all (xchk1 xVV xc_234_m xc_234_u xc_234 xc_234_e 140) = true := by decide +kernel
theorem xv_234 {og : Nat → Option zm_C} : xV xVV xX xW og xc_234 := xchk_ok (n := 140) (MT := xc_234_m) (CT := xc_234_u) (E := xc_234_e) (by
  simp only [xc_234_m, List.forall_mem_cons]
  exact ⟨rfl, rfl, rfl, rfl, fun _ h => by cases h⟩) (by
  simp only [xc_234_u, List.forall_mem_cons]
  exact ⟨xv_233, xv_169, xv_168, fun _ h => by cases h⟩) xFl_good xXW_ok xc_234_0 (List.all_eq_true.mp xc_234_1)
set_option maxRecDepth 100000 in
theorem xc_235_0 : xchk0 xVV xc_235_m xc_235_u xc_235 xc_235_e 1719 = true := by decide +kernel
set_option maxRecDepth 100000 in
theorem xc_235_1 : xc_235_e.all (xchk1 xVV xc_235_m xc_235_u xc_235 xc_235_e 1719) = true := by decide +kernel
theorem xv_235 {og : Nat → Option zm_C} : xV xVV xX xW og xc_235 := xchk_ok (n := 1719) (MT := xc_235_m) (CT := xc_235_u) (E := xc_235_e) (by
  simp only [xc_235_m, List.forall_mem_cons]
  exact ⟨rfl, rfl, rfl, rfl, rfl, rfl, rfl, fun _ h => by cases h⟩) (by
  simp only [xc_235_u, List.forall_mem_cons]
  exact ⟨xv_234, xv_231, xv_169, xv_168, fun _ h => by cases h⟩) xFl_good xXW_ok xc_235_0 (List.all_eq_true.mp xc_235_1)
