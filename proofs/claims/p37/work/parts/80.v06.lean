/-! The contracts hold, as checked -/
set_option maxRecDepth 100000 in
theorem xc_110_0 : xchk0 xVV xc_110_m xc_110_u xc_110 xc_110_e 276 = true := by decide +kernel
set_option maxRecDepth 100000 in
theorem xc_110_1 : xc_110_e.all (xchk1 xVV xc_110_m xc_110_u xc_110 xc_110_e 276) = true := by decide +kernel
theorem xv_110 {og : Nat → Option zm_C} : xV xVV xX xW og xc_110 := xchk_ok (n := 276) (MT := xc_110_m) (CT := xc_110_u) (E := xc_110_e) (by
  simp only [xc_110_m, List.forall_mem_cons]
  exact ⟨rfl, rfl, rfl, rfl, fun _ h => by cases h⟩) (by
  simp only [xc_110_u, List.forall_mem_cons]
  exact ⟨xv_109, fun _ h => by cases h⟩) xFl_good xXW_ok xc_110_0 (List.all_eq_true.mp xc_110_1)
set_option maxRecDepth 100000 in
theorem xc_111_0 : xchk0 xVV xc_111_m xc_111_u xc_111 xc_111_e 276 = true := by decide +kernel
set_option maxRecDepth 100000 in
theorem xc_111_1 : xc_111_e.all (xchk1 xVV xc_111_m xc_111_u xc_111 xc_111_e 276) = true := by decide +kernel
theorem xv_111 {og : Nat → Option zm_C} : xV xVV xX xW og xc_111 := xchk_ok (n := 276) (MT := xc_111_m) (CT := xc_111_u) (E := xc_111_e) (by
  simp only [xc_111_m, List.forall_mem_cons]
  exact ⟨rfl, rfl, rfl, rfl, fun _ h => by cases h⟩) (by
  simp only [xc_111_u, List.forall_mem_cons]
  exact ⟨xv_110, fun _ h => by cases h⟩) xFl_good xXW_ok xc_111_0 (List.all_eq_true.mp xc_111_1)
set_option maxRecDepth 100000 in
theorem xc_112_0 : xchk0 xVV xc_112_m xc_112_u xc_112 xc_112_e 3309 = true := by decide +kernel
set_option maxRecDepth 100000 in
theorem xc_112_1 : xc_112_e.all (xchk1 xVV xc_112_m xc_112_u xc_112 xc_112_e 3309) = true := by decide +kernel
theorem xv_112 {og : Nat → Option zm_C} : xV xVV xX xW og xc_112 := xchk_ok (n := 3309) (MT := xc_112_m) (CT := xc_112_u) (E := xc_112_e) (by
  simp only [xc_112_m, List.forall_mem_cons]
  exact ⟨rfl, rfl, rfl, rfl, rfl, rfl, rfl, rfl, rfl, rfl, fun _ h => by cases h⟩) (by
  simp only [xc_112_u, List.forall_mem_cons]
  exact ⟨xv_111, xv_108, fun _ h => by cases h⟩) xFl_good xXW_ok xc_112_0 (List.all_eq_true.mp xc_112_1)
set_option maxRecDepth 100000 in
theorem xc_113_0 : xchk0 xVV xc_113_m xc_113_u xc_113 xc_113_e 166 = true := by decide +kernel
set_option maxRecDepth 100000 in
theorem xc_113_1 : xc_113_e.all (xchk1 xVV xc_113_m xc_113_u xc_113 xc_113_e 166) = true := by decide +kernel
theorem xv_113 {og : Nat → Option zm_C} : xV xVV xX xW og xc_113 := xchk_ok (n := 166) (MT := xc_113_m) (CT := xc_113_u) (E := xc_113_e) (by
  simp only [xc_113_m, List.forall_mem_cons]
  exact ⟨rfl, rfl, rfl, rfl, rfl, fun _ h => by cases h⟩) (by
  simp only [xc_113_u, List.forall_mem_cons]
  exact ⟨xv_112, fun _ h => by cases h⟩) xFl_good xXW_ok xc_113_0 (List.all_eq_true.mp xc_113_1)
set_option maxRecDepth 100000 in
theorem xc_114_0 : xchk0 xVV xc_114_m xc_114_u xc_114 xc_114_e 166 = true := by decide +kernel
set_option maxRecDepth 100000 in
theorem xc_114_1 : xc_114_e.all (xchk1 xVV xc_114_m xc_114_u xc_114 xc_114_e 166) = true := by decide +kernel
theorem xv_114 {og : Nat → Option zm_C} : xV xVV xX xW og xc_114 := xchk_ok (n := 166) (MT := xc_114_m) (CT := xc_114_u) (E := xc_114_e) (by
  simp only [xc_114_m, List.forall_mem_cons]
  exact ⟨rfl, rfl, rfl, rfl, rfl, fun _ h => by cases h⟩) (by
  simp only [xc_114_u, List.forall_mem_cons]
  exact ⟨xv_113, fun _ h => by cases h⟩) xFl_good xXW_ok xc_114_0 (List.all_eq_true.mp xc_114_1)
set_option maxRecDepth 100000 in
theorem xc_115_0 : xchk0 xVV xc_115_m xc_115_u xc_115 xc_115_e 3288 = true := by decide +kernel
set_option maxRecDepth 100000 in
theorem xc_115_1 : xc_115_e.all (xchk1 xVV xc_115_m xc_115_u xc_115 xc_115_e 3288) = true := by decide +kernel
theorem xv_115 {og : Nat → Option zm_C} : xV xVV xX xW og xc_115 := xchk_ok (n := 3288) (MT := xc_115_m) (CT := xc_115_u) (E := xc_115_e) (by
  simp only [xc_115_m, List.forall_mem_cons]
  exact ⟨rfl, rfl, rfl, rfl, rfl, rfl, rfl, rfl, rfl, rfl, rfl, rfl, rfl, fun _ h => by cases h⟩) (by
  simp only [xc_115_u, List.forall_mem_cons]
  exact ⟨xv_111, fun _ h => by cases h⟩) xFl_good xXW_ok xc_115_0 (List.all_eq_true.mp xc_115_1)
set_option maxRecDepth 100000 in
theorem xc_116_0 : xchk0 xVV xc_116_m xc_116_u xc_116 xc_116_e 276 = true := by decide +kernel
set_option maxRecDepth 100000 in
theorem xc_116_1 : xc_116_e.all (xchk1 xVV xc_116_m xc_116_u xc_116 xc_116_e 276) = true := by decide +kernel
theorem xv_116 {og : Nat → Option zm_C} : xV xVV xX xW og xc_116 := xchk_ok (n := 276) (MT := xc_116_m) (CT := xc_116_u) (E := xc_116_e) (by
  simp only [xc_116_m, List.forall_mem_cons]
  exact ⟨rfl, rfl, rfl, rfl, fun _ h => by cases h⟩) (by
  simp only [xc_116_u, List.forall_mem_cons]
  exact ⟨xv_115, fun _ h => by cases h⟩) xFl_good xXW_ok xc_116_0 (List.all_eq_true.mp xc_116_1)
set_option maxRecDepth 100000 in
theorem xc_117_0 : xchk0 xVV xc_117_m xc_117_u xc_117 xc_117_e 276 = true := by decide +kernel
set_option maxRecDepth 100000 in
theorem xc_117_1 : xc_117_e.all (xchk1 xVV xc_117_m xc_117_u xc_117 xc_117_e 276) = true := by decide +kernel
theorem xv_117 {og : Nat → Option zm_C} : xV xVV xX xW og xc_117 := xchk_ok (n := 276) (MT := xc_117_m) (CT := xc_117_u) (E := xc_117_e) (by
  simp only [xc_117_m, List.forall_mem_cons]
  exact ⟨rfl, rfl, rfl, rfl, fun _ h => by cases h⟩) (by
  simp only [xc_117_u, List.forall_mem_cons]
  exact ⟨xv_116, fun _ h => by cases h⟩) xFl_good xXW_ok xc_117_0 (List.all_eq_true.mp xc_117_1)
set_option maxRecDepth 100000 in
theorem xc_118_0 : xchk0 xVV xc_118_m xc_118_u xc_118 xc_118_e 3309 = true := by decide +kernel
set_option maxRecDepth 100000 in
theorem xc_118_1 : xc_118_e.all (xchk1 xVV xc_118_m xc_118_u xc_118 xc_118_e 3309) = true := by decide +kernel
theorem xv_118 {og : Nat → Option zm_C} : xV xVV xX xW og xc_118 := xchk_ok (n := 3309) (MT := xc_118_m) (CT := xc_118_u) (E := xc_118_e) (by
  simp only [xc_118_m, List.forall_mem_cons]
  exact ⟨rfl, rfl, rfl, rfl, rfl, rfl, rfl, rfl, rfl, rfl, fun _ h => by cases h⟩) (by
  simp only [xc_118_u, List.forall_mem_cons]
  exact ⟨xv_117, xv_114, fun _ h => by cases h⟩) xFl_good xXW_ok xc_118_0 (List.all_eq_true.mp xc_118_1)
