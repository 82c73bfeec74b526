/-! The contracts hold, as checked -/
set_option maxRecDepth 100000 in
theorem xc_295_0 : xchk0 xVV xc_295_m xc_295_u xc_295 xc_295_e 154 = true := by decide +kernel
set_option maxRecDepth 100000 in
theorem xc_295_1 : xc_295_e.all (xchk1 xVV xc_295_m xc_295_u xc_295 xc_295_e 154) = true := by decide +kernel
theorem xv_295 {og : Nat → Option zm_C} : xV xVV xX xW og xc_295 := xchk_ok (n := 154) (MT := xc_295_m) (CT := xc_295_u) (E := xc_295_e) (by
  simp only [xc_295_m, List.forall_mem_cons]
  exact ⟨rfl, rfl, rfl, rfl, rfl, rfl, rfl, fun _ h => by cases h⟩) (by
  simp only [xc_295_u, List.forall_mem_cons]
  exact ⟨xv_246, xv_239, xv_238, xv_174, fun _ h => by cases h⟩) xFl_good xXW_ok xc_295_0 (List.all_eq_true.mp xc_295_1)
set_option maxRecDepth 100000 in
theorem xc_296_0 : xchk0 xVV xc_296_m xc_296_u xc_296 xc_296_e 237 = true := by decide +kernel
set_option maxRecDepth 100000 in
theorem xc_296_1 : xc_296_e.all (xchk1 xVV xc_296_m xc_296_u xc_296 xc_296_e 237) = true := by decide +kernel
theorem xv_296 {og : Nat → Option zm_C} : xV xVV xX xW og xc_296 := xchk_ok (n := 237) (MT := xc_296_m) (CT := xc_296_u) (E := xc_296_e) (by
  simp only [xc_296_m, List.forall_mem_cons]
  exact ⟨rfl, rfl, rfl, rfl, rfl, rfl, fun _ h => by cases h⟩) (by
  simp only [xc_296_u, List.forall_mem_cons]
  exact fun _ h => by cases h) xFl_good xXW_ok xc_296_0 (List.all_eq_true.mp xc_296_1)
set_option maxRecDepth 100000 in
theorem xc_297_0 : xchk0 xVV xc_297_m xc_297_u xc_297 xc_297_e 96 = true := by decide +kernel
set_option maxRecDepth 100000 in
theorem xc_297_1 : xc_297_e.all (xchk1 xVV xc_297_m xc_297_u xc_297 xc_297_e 96) = true := by decide +kernel
theorem xv_297 {og : Nat → Option zm_C} : xV xVV xX xW og xc_297 := xchk_ok (n := 96) (MT := xc_297_m) (CT := xc_297_u) (E := xc_297_e) (by
  simp only [xc_297_m, List.forall_mem_cons]
  exact ⟨rfl, rfl, rfl, fun _ h => by cases h⟩) (by
  simp only [xc_297_u, List.forall_mem_cons]
  exact fun _ h => by cases h) xFl_good xXW_ok xc_297_0 (List.all_eq_true.mp xc_297_1)
set_option maxRecDepth 100000 in
theorem xc_298_0 : xchk0 xVV xc_298_m xc_298_u xc_298 xc_298_e 149 = true := by decide +kernel
set_option maxRecDepth 100000 in
theorem xc_298_1 : xc_298_e.all (xchk1 xVV xc_298_m xc_298_u xc_298 xc_298_e 149) = true := by decide +kernel
theorem xv_298 {og : Nat → Option zm_C} : xV xVV xX xW og xc_298 := xchk_ok (n := 149) (MT := xc_298_m) (CT := xc_298_u) (E := xc_298_e) (by
  simp only [xc_298_m, List.forall_mem_cons]
  exact ⟨rfl, rfl, rfl, fun _ h => by cases h⟩) (by
  simp only [xc_298_u, List.forall_mem_cons]
  exact fun _ h => by cases h) xFl_good xXW_ok xc_298_0 (List.all_eq_true.mp xc_298_1)
set_option maxRecDepth 100000 in
theorem xc_299_0 : xchk0 xVV xc_299_m xc_299_u xc_299 xc_299_e 99 = true := by decide +kernel
set_option maxRecDepth 100000 in
theorem xc_299_1 : xc_299_e.all (xchk1 xVV xc_299_m xc_299_u xc_299 xc_299_e 99) = true := by decide +kernel
theorem xv_299 {og : Nat → Option zm_C} : xV xVV xX xW og xc_299 := xchk_ok (n := 99) (MT := xc_299_m) (CT := xc_299_u) (E := xc_299_e) (by
  simp only [xc_299_m, List.forall_mem_cons]
  exact ⟨rfl, rfl, rfl, fun _ h => by cases h⟩) (by
  simp only [xc_299_u, List.forall_mem_cons]
  exact fun _ h => by cases h) xFl_good xXW_ok xc_299_0 (List.all_eq_true.mp xc_299_1)
set_option maxRecDepth 100000 in
theorem xc_300_0 : xchk0 xVV xc_300_m xc_300_u xc_300 xc_300_e 177 = true := by decide +kernel
set_option maxRecDepth 100000 in
theorem xc_300_1 : xc_300_e.all (xchk1 xVV xc_300_m xc_300_u xc_300 xc_300_e 177) = true := by decide +kernel
theorem xv_300 {og : Nat → Option zm_C} : xV xVV xX xW og xc_300 := xchk_ok (n := 177) (MT := xc_300_m) (CT := xc_300_u) (E := xc_300_e) (by
  simp only [xc_300_m, List.forall_mem_cons]
  exact ⟨rfl, rfl, rfl, rfl, fun _ h => by cases h⟩) (by
  simp only [xc_300_u, List.forall_mem_cons]
  exact fun _ h => by cases h) xFl_good xXW_ok xc_300_0 (List.all_eq_true.mp xc_300_1)
set_option maxRecDepth 100000 in
theorem xc_301_0 : xchk0 xVV xc_301_m xc_301_u xc_301 xc_301_e 228 = true := by decide +kernel
set_option maxRecDepth 100000 in
theorem xc_301_1 : xc_301_e.all (xchk1 xVV xc_301_m xc_301_u xc_301 xc_301_e 228) = true := by decide +kernel
theorem xv_301 {og : Nat → Option zm_C} : xV xVV xX xW og xc_301 := xchk_ok (n := 228) (MT := xc_301_m) (CT := xc_301_u) (E := xc_301_e) (by
  simp only [xc_301_m, List.forall_mem_cons]
  exact ⟨rfl, rfl, rfl, fun _ h => by cases h⟩) (by
  simp only [xc_301_u, List.forall_mem_cons]
  exact fun _ h => by cases h) xFl_good xXW_ok xc_301_0 (List.all_eq_true.mp xc_301_1)
set_option maxRecDepth 100000 in
theorem xc_302_0 : xchk0 xVV xc_302_m xc_302_u xc_302 xc_302_e 102 = true := by decide +kernel
set_option maxRecDepth 100000 in
theorem xc_302_1 : xc_302_e.all (xchk1 xVV xc_302_m xc_302_u xc_302 xc_302_e 102) = true := by decide +kernel
theorem xv_302 {og : Nat → Option zm_C} : xV xVV xX xW og xc_302 := xchk_ok (n := 102) (MT := xc_302_m) (CT := xc_302_u) (E := xc_302_e) (by
  simp only [xc_302_m, List.forall_mem_cons]
  exact ⟨rfl, fun _ h => by cases h⟩) (by
  simp only [xc_302_u, List.forall_mem_cons]
  exact fun _ h => by cases h) xFl_good xXW_ok xc_302_0 (List.all_eq_true.mp xc_302_1)
set_option maxRecDepth 100000 in
theorem xc_303_0 : xchk0 xVV xc_303_m xc_303_u xc_303 xc_303_e 123 = true := by decide +kernel
set_option maxRecDepth 100000 in
theorem xc_303_1 : xc_303_e.all (xchk1 xVV xc_303_m xc_303_u xc_303 xc_303_e 123) = true := by decide +kernel
theorem xv_303 {og : Nat → Option zm_C} : xV xVV xX xW og xc_303 := xchk_ok (n := 123) (MT := xc_303_m) (CT := xc_303_u) (E := xc_303_e) (by
  simp only [xc_303_m, List.forall_mem_cons]
  exact ⟨rfl, fun _ h => by cases h⟩) (by
  simp only [xc_303_u, List.forall_mem_cons]
  exact fun _ h => by cases h) xFl_good xXW_ok xc_303_0 (List.all_eq_true.mp xc_303_1)
