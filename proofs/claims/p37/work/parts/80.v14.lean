/-! The contracts hold, as checked -/
set_option maxRecDepth 100000 in
theorem xc_236_0 : xchk0 xVV xc_236_m xc_236_u xc_236 xc_236_e 303 = true := by decide +kernel
set_option maxRecDepth 100000 in
theorem xc_236_1 : xc_236_e.all (xchk1 xVV xc_236_m xc_236_u xc_236 xc_236_e 303) = true := by decide +kernel
theorem xv_236 {og : Nat → Option zm_C} : xV xVV xX xW og xc_236 := xchk_ok (n := 303) (MT := xc_236_m) (CT := xc_236_u) (E := xc_236_e) (by
  simp only [xc_236_m, List.forall_mem_cons]
  exact ⟨rfl, rfl, rfl, rfl, rfl, rfl, rfl, fun _ h => by cases h⟩) (by
  simp only [xc_236_u, List.forall_mem_cons]
  exact ⟨xv_235, xv_168, fun _ h => by cases h⟩) xFl_good xXW_ok xc_236_0 (List.all_eq_true.mp xc_236_1)
set_option maxRecDepth 100000 in
theorem xc_237_0 : xchk0 xVV xc_237_m xc_237_u xc_237 xc_237_e 3771 = true := by decide +kernel
set_option maxRecDepth 100000 in
theorem xc_237_1 : xc_237_e.all (xchk1 xVV xc_237_m xc_237_u xc_237 xc_237_e 3771) = true := by decide +kernel
theorem xv_237 {og : Nat → Option zm_C} : xV xVV xX xW og xc_237 := xchk_ok (n := 3771) (MT := xc_237_m) (CT := xc_237_u) (E := xc_237_e) (by
  simp only [xc_237_m, List.forall_mem_cons]
  exact ⟨rfl, rfl, rfl, rfl, rfl, rfl, rfl, rfl, rfl, fun _ h => by cases h⟩) (by
  simp only [xc_237_u, List.forall_mem_cons]
  exact ⟨xv_234, xv_231, xv_172, xv_170, xv_169, xv_168, fun _ h => by cases h⟩) xFl_good xXW_ok xc_237_0 (List.all_eq_true.mp xc_237_1)
set_option maxRecDepth 100000 in
theorem xc_238_0 : xchk0 xVV xc_238_m xc_238_u xc_238 xc_238_e 314 = true := by decide +kernel
set_option maxRecDepth 100000 in
theorem xc_238_1 : xc_238_e.all (xchk1 xVV xc_238_m xc_238_u xc_238 xc_238_e 314) = true := by decide +kernel
theorem xv_238 {og : Nat → Option zm_C} : xV xVV xX xW og xc_238 := xchk_ok (n := 314) (MT := xc_238_m) (CT := xc_238_u) (E := xc_238_e) (by
  simp only [xc_238_m, List.forall_mem_cons]
  exact ⟨rfl, fun _ h => by cases h⟩) (by
  simp only [xc_238_u, List.forall_mem_cons]
  exact fun _ h => by cases h) xFl_good xXW_ok xc_238_0 (List.all_eq_true.mp xc_238_1)
set_option maxRecDepth 100000 in
theorem xc_239_0 : xchk0 xVV xc_239_m xc_239_u xc_239 xc_239_e 143 = true := by decide +kernel
set_option maxRecDepth 100000 in
theorem xc_239_1 : xc_239_e.all (xchk1 xVV xc_239_m xc_239_u xc_239 xc_239_e 143) = true := by decide +kernel
theorem xv_239 {og : Nat → Option zm_C} : xV xVV xX xW og xc_239 := xchk_ok (n := 143) (MT := xc_239_m) (CT := xc_239_u) (E := xc_239_e) (by
  simp only [xc_239_m, List.forall_mem_cons]
  exact ⟨rfl, fun _ h => by cases h⟩) (by
  simp only [xc_239_u, List.forall_mem_cons]
  exact fun _ h => by cases h) xFl_good xXW_ok xc_239_0 (List.all_eq_true.mp xc_239_1)
set_option maxRecDepth 100000 in
theorem xc_240_0 : xchk0 xVV xc_240_m xc_240_u xc_240 xc_240_e 90 = true := by decide +kernel
set_option maxRecDepth 100000 in
theorem xc_240_1 : xc_240_e.all (xchk1 xVV xc_240_m xc_240_u xc_240 xc_240_e 90) = true := by decide +kernel
theorem xv_240 {og : Nat → Option zm_C} : xV xVV xX xW og xc_240 := xchk_ok (n := 90) (MT := xc_240_m) (CT := xc_240_u) (E := xc_240_e) (by
  simp only [xc_240_m, List.forall_mem_cons]
  exact ⟨rfl, fun _ h => by cases h⟩) (by
  simp only [xc_240_u, List.forall_mem_cons]
  exact fun _ h => by cases h) xFl_good xXW_ok xc_240_0 (List.all_eq_true.mp xc_240_1)
set_option maxRecDepth 100000 in
theorem xc_241_0 : xchk0 xVV xc_241_m xc_241_u xc_241 xc_241_e 83 = true := by decide +kernel
set_option maxRecDepth 100000 in
theorem xc_241_1 : xc_241_e.all (xchk1 xVV xc_241_m xc_241_u xc_241 xc_241_e 83) = true := by decide +kernel
theorem xv_241 {og : Nat → Option zm_C} : xV xVV xX xW og xc_241 := xchk_ok (n := 83) (MT := xc_241_m) (CT := xc_241_u) (E := xc_241_e) (by
  simp only [xc_241_m, List.forall_mem_cons]
  exact ⟨rfl, fun _ h => by cases h⟩) (by
  simp only [xc_241_u, List.forall_mem_cons]
  exact fun _ h => by cases h) xFl_good xXW_ok xc_241_0 (List.all_eq_true.mp xc_241_1)
set_option maxRecDepth 100000 in
theorem xc_242_0 : xchk0 xVV xc_242_m xc_242_u xc_242 xc_242_e 85 = true := by decide +kernel
set_option maxRecDepth 100000 in
theorem xc_242_1 : xc_242_e.all (xchk1 xVV xc_242_m xc_242_u xc_242 xc_242_e 85) = true := by decide +kernel
theorem xv_242 {og : Nat → Option zm_C} : xV xVV xX xW og xc_242 := xchk_ok (n := 85) (MT := xc_242_m) (CT := xc_242_u) (E := xc_242_e) (by
  simp only [xc_242_m, List.forall_mem_cons]
  exact ⟨rfl, fun _ h => by cases h⟩) (by
  simp only [xc_242_u, List.forall_mem_cons]
  exact fun _ h => by cases h) xFl_good xXW_ok xc_242_0 (List.all_eq_true.mp xc_242_1)
set_option maxRecDepth 100000 in
theorem xc_243_0 : xchk0 xVV xc_243_m xc_243_u xc_243 xc_243_e 77 = true := by decide +kernel
set_option maxRecDepth 100000 in
theorem xc_243_1 : xc_243_e.all (xchk1 xVV xc_243_m xc_243_u xc_243 xc_243_e 77) = true := by decide +kernel
theorem xv_243 {og : Nat → Option zm_C} : xV xVV xX xW og xc_243 := xchk_ok (n := 77) (MT := xc_243_m) (CT := xc_243_u) (E := xc_243_e) (by
  simp only [xc_243_m, List.forall_mem_cons]
  exact ⟨rfl, rfl, fun _ h => by cases h⟩) (by
  simp only [xc_243_u, List.forall_mem_cons]
  exact ⟨xv_236, fun _ h => by cases h⟩) xFl_good xXW_ok xc_243_0 (List.all_eq_true.mp xc_243_1)
set_option maxRecDepth 100000 in
theorem xc_244_0 : xchk0 xVV xc_244_m xc_244_u xc_244 xc_244_e 82 = true := by decide +kernel
set_option maxRecDepth 100000 in
theorem xc_244_1 : xc_244_e.all (xchk1 xVV xc_244_m xc_244_u xc_244 xc_244_e 82) = true := by decide +kernel
theorem xv_244 {og : Nat → Option zm_C} : xV xVV xX xW og xc_244 := xchk_ok (n := 82) (MT := xc_244_m) (CT := xc_244_u) (E := xc_244_e) (by
  simp only [xc_244_m, List.forall_mem_cons]
  exact ⟨rfl, rfl, fun _ h => by cases h⟩) (by
  simp only [xc_244_u, List.forall_mem_cons]
  exact ⟨xv_243, fun _ h => by cases h⟩) xFl_good xXW_ok xc_244_0 (List.all_eq_true.mp xc_244_1)
set_option maxRecDepth 100000 in
theorem xc_245_0 : xchk0 xVV xc_245_m xc_245_u xc_245 xc_245_e 118 = true := by decide +kernel
set_option maxRecDepth 100000 in
theorem xc_245_1 : xc_245_e.all (xchk1 xVV xc_245_m xc_245_u xc_245 xc_245_e 118) = true := by decide +kernel
theorem xv_245 {og : Nat → Option zm_C} : xV xVV xX xW og xc_245 := xchk_ok (n := 118) (MT := xc_245_m) (CT := xc_245_u) (E := xc_245_e) (by
  simp only [xc_245_m, List.forall_mem_cons]
  exact ⟨rfl, rfl, fun _ h => by cases h⟩) (by
  simp only [xc_245_u, List.forall_mem_cons]
  exact ⟨xv_236, fun _ h => by cases h⟩) xFl_good xXW_ok xc_245_0 (List.all_eq_true.mp xc_245_1)
set_option maxRecDepth 100000 in
theorem xc_246_0 : xchk0 xVV xc_246_m xc_246_u xc_246 xc_246_e 70 = true := by decide +kernel
set_option maxRecDepth 100000 in
theorem xc_246_1 : xc_246_e.all (xchk1 xVV xc_246_m xc_246_u xc_246 xc_246_e 70) = true := by decide +kernel
theorem xv_246 {og : Nat → Option zm_C} : xV xVV xX xW og xc_246 := xchk_ok (n := 70) (MT := xc_246_m) (CT := xc_246_u) (E := xc_246_e) (by
  simp only [xc_246_m, List.forall_mem_cons]
  exact ⟨rfl, fun _ h => by cases h⟩) (by
  simp only [xc_246_u, List.forall_mem_cons]
  exact fun _ h => by cases h) xFl_good xXW_ok xc_246_0 (List.all_eq_true.mp xc_246_1)
set_option maxRecDepth 100000 in
theorem xc_247_0 : xchk0 xVV xc_247_m xc_247_u xc_247 xc_247_e 190 = true := by decide +kernel
set_option maxRecDepth 100000 in
theorem xc_247_1 : xc_247_e.all (xchk1 xVV xc_247_m xc_247_u xc_247 xc_247_e 190) = true := by decide +kernel
theorem xv_247 {og : Nat → Option zm_C} : xV xVV xX xW og xc_247 := xchk_ok (n := 190) (MT := xc_247_m) (CT := xc_247_u) (E := xc_247_e) (by
  simp only [xc_247_m, List.forall_mem_cons]
  exact ⟨rfl, fun _ h => by cases h⟩) (by
  simp only [xc_247_u, List.forall_mem_cons]
  exact fun _ h => by cases h) xFl_good xXW_ok xc_247_0 (List.all_eq_true.mp xc_247_1)
set_option maxRecDepth 100000 in
theorem xc_248_0 : xchk0 xVV xc_248_m xc_248_u xc_248 xc_248_e 158 = true := by decide +kernel
set_option maxRecDepth 100000 in
theorem xc_248_1 : xc_248_e.all (xchk1 xVV xc_248_m xc_248_u xc_248 xc_248_e 158) = true := by decide +kernel
theorem xv_248 {og : Nat → Option zm_C} : xV xVV xX xW og xc_248 := xchk_ok (n := 158) (MT := xc_248_m) (CT := xc_248_u) (E := xc_248_e) (by
  simp only [xc_248_m, List.forall_mem_cons]
  exact ⟨rfl, rfl, rfl, rfl, fun _ h => by cases h⟩) (by
  simp only [xc_248_u, List.forall_mem_cons]
  exact ⟨xv_174, fun _ h => by cases h⟩) xFl_good xXW_ok xc_248_0 (List.all_eq_true.mp xc_248_1)
set_option maxRecDepth 100000 in
theorem xc_249_0 : xchk0 xVV xc_249_m xc_249_u xc_249 xc_249_e 158 = true := by decide +kernel
set_option maxRecDepth 100000 in
theorem xc_249_1 : xc_249_e.all (xchk1 xVV xc_249_m xc_249_u xc_249 xc_249_e 158) = true := by decide +kernel
theorem xv_249 {og : Nat → Option zm_C} : xV xVV xX xW og xc_249 := xchk_ok (n := 158) (MT := xc_249_m) (CT := xc_249_u) (E := xc_249_e) (by
  simp only [xc_249_m, List.forall_mem_cons]
  exact ⟨rfl, rfl, rfl, rfl, fun _ h => by cases h⟩) (by
  simp only [xc_249_u, List.forall_mem_cons]
  exact ⟨xv_174, fun _ h => by cases h⟩) xFl_good xXW_ok xc_249_0 (List.all_eq_true.mp xc_249_1)
set_option maxRecDepth 100000 in
theorem xc_250_0 : xchk0 xVV xc_250_m xc_250_u xc_250 xc_250_e 288 = true := by decide +kernel
set_option maxRecDepth 100000 in
theorem xc_250_1 : xc_250_e.all (xchk1 xVV xc_250_m xc_250_u xc_250 xc_250_e 288) = true := by decide +kernel
theorem xv_250 {og : Nat → Option zm_C} : xV xVV xX xW og xc_250 := xchk_ok (n := 288) (MT := xc_250_m) (CT := xc_250_u) (E := xc_250_e) (by
  simp only [xc_250_m, List.forall_mem_cons]
  exact ⟨rfl, rfl, rfl, rfl, rfl, rfl, rfl, rfl, fun _ h => by cases h⟩) (by
  simp only [xc_250_u, List.forall_mem_cons]
  exact ⟨xv_249, xv_248, xv_247, xv_245, xv_243, xv_240, xv_239, xv_238, fun _ h => by cases h⟩) xFl_good xXW_ok xc_250_0 (List.all_eq_true.mp xc_250_1)
set_option maxRecDepth 100000 in
theorem xc_251_0 : xchk0 xVV xc_251_m xc_251_u xc_251 xc_251_e 3249 = true := by decide +kernel
set_option maxRecDepth 100000 in
theorem xc_251_1 : xc_251_e.all (xchk1 xVV xc_251_m xc_251_u xc_251 xc_251_e 3249) = true := by decide +kernel
theorem xv_251 {og : Nat → Option zm_C} : xV xVV xX xW og xc_251 := xchk_ok (n := 3249) (MT := xc_251_m) (CT := xc_251_u) (E := xc_251_e) (by
  simp only [xc_251_m, List.forall_mem_cons]
  exact ⟨rfl, rfl, rfl, rfl, fun _ h => by cases h⟩) (by
  simp only [xc_251_u, List.forall_mem_cons]
  exact fun _ h => by cases h) xFl_good xXW_ok xc_251_0 (List.all_eq_true.mp xc_251_1)
