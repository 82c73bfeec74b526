/-! The contracts hold, as checked -/
set_option maxRecDepth 100000 in
theorem xc_119_0 : xchk0 xVV xc_119_m xc_119_u xc_119 xc_119_e 166 = true := by decide +kernel
set_option maxRecDepth 100000 in
theorem xc_119_1 : xc_119_e.all (xchk1 xVV xc_119_m xc_119_u xc_119 xc_119_e 166) = true := by decide +kernel
theorem xv_119 {og : Nat → Option zm_C} : xV xVV xX xW og xc_119 := xchk_ok (n := 166) (MT := xc_119_m) (CT := xc_119_u) (E := xc_119_e) (by
  simp only [xc_119_m, List.forall_mem_cons]
  exact ⟨rfl, rfl, rfl, rfl, rfl, fun _ h => by cases h⟩) (by
  simp only [xc_119_u, List.forall_mem_cons]
  exact ⟨xv_118, fun _ h => by cases h⟩) xFl_good xXW_ok xc_119_0 (List.all_eq_true.mp xc_119_1)
set_option maxRecDepth 100000 in
theorem xc_120_0 : xchk0 xVV xc_120_m xc_120_u xc_120 xc_120_e 166 = true := by decide +kernel
set_option maxRecDepth 100000 in
theorem xc_120_1 : xc_120_e.all (xchk1 xVV xc_120_m xc_120_u xc_120 xc_120_e 166) = true := by decide +kernel
theorem xv_120 {og : Nat → Option zm_C} : xV xVV xX xW og xc_120 := xchk_ok (n := 166) (MT := xc_120_m) (CT := xc_120_u) (E := xc_120_e) (by
  simp only [xc_120_m, List.forall_mem_cons]
  exact ⟨rfl, rfl, rfl, rfl, rfl, fun _ h => by cases h⟩) (by
  simp only [xc_120_u, List.forall_mem_cons]
  exact ⟨xv_119, fun _ h => by cases h⟩) xFl_good xXW_ok xc_120_0 (List.all_eq_true.mp xc_120_1)
set_option maxRecDepth 100000 in
theorem xc_121_0 : xchk0 xVV xc_121_m xc_121_u xc_121 xc_121_e 5699 = true := by decide +kernel
set_option maxRecDepth 100000 in
theorem xc_121_1 : xc_121_e.all (xchk1 xVV xc_121_m xc_121_u xc_121 xc_121_e 5699) = true := by decide +kernel
theorem xv_121 {og : Nat → Option zm_C} : xV xVV xX xW og xc_121 := xchk_ok (n := 5699) (MT := xc_121_m) (CT := xc_121_u) (E := xc_121_e) (by
  simp only [xc_121_m, List.forall_mem_cons]
  exact ⟨rfl, rfl, rfl, rfl, rfl, rfl, rfl, rfl, rfl, rfl, rfl, fun _ h => by cases h⟩) (by
  simp only [xc_121_u, List.forall_mem_cons]
  exact ⟨xv_120, xv_117, fun _ h => by cases h⟩) xFl_good xXW_ok xc_121_0 (List.all_eq_true.mp xc_121_1)
set_option maxRecDepth 100000 in
theorem xc_122_0 : xchk0 xVV xc_122_m xc_122_u xc_122 xc_122_e 815 = true := by decide +kernel
set_option maxRecDepth 100000 in
theorem xc_122_1 : xc_122_e.all (xchk1 xVV xc_122_m xc_122_u xc_122 xc_122_e 815) = true := by decide +kernel
theorem xv_122 {og : Nat → Option zm_C} : xV xVV xX xW og xc_122 := xchk_ok (n := 815) (MT := xc_122_m) (CT := xc_122_u) (E := xc_122_e) (by
  simp only [xc_122_m, List.forall_mem_cons]
  exact ⟨rfl, rfl, rfl, rfl, rfl, rfl, fun _ h => by cases h⟩) (by
  simp only [xc_122_u, List.forall_mem_cons]
  exact ⟨xv_117, fun _ h => by cases h⟩) xFl_good xXW_ok xc_122_0 (List.all_eq_true.mp xc_122_1)
set_option maxRecDepth 100000 in
theorem xc_123_0 : xchk0 xVV xc_123_m xc_123_u xc_123 xc_123_e 351 = true := by decide +kernel
set_option maxRecDepth 100000 in
theorem xc_123_1 : xc_123_e.all (xchk1 xVV xc_123_m xc_123_u xc_123 xc_123_e 351) = true := by decide +kernel
theorem xv_123 {og : Nat → Option zm_C} : xV xVV xX xW og xc_123 := xchk_ok (n := 351) (MT := xc_123_m) (CT := xc_123_u) (E := xc_123_e) (by
  simp only [xc_123_m, List.forall_mem_cons]
  exact ⟨rfl, rfl, rfl, rfl, rfl, rfl, rfl, fun _ h => by cases h⟩) (by
  simp only [xc_123_u, List.forall_mem_cons]
  exact ⟨xv_121, xv_66, fun _ h => by cases h⟩) xFl_good xXW_ok xc_123_0 (List.all_eq_true.mp xc_123_1)
set_option maxRecDepth 100000 in
theorem xc_124_0 : xchk0 xVV xc_124_m xc_124_u xc_124 xc_124_e 3469 = true := by decide +kernel
set_option maxRecDepth 100000 in
theorem xc_124_1 : xc_124_e.all (xchk1 xVV xc_124_m xc_124_u xc_124 xc_124_e 3469) = true := by decide +kernel
theorem xv_124 {og : Nat → Option zm_C} : xV xVV xX xW og xc_124 := xchk_ok (n := 3469) (MT := xc_124_m) (CT := xc_124_u) (E := xc_124_e) (by
  simp only [xc_124_m, List.forall_mem_cons]
  exact ⟨rfl, rfl, rfl, rfl, rfl, rfl, rfl, rfl, rfl, rfl, rfl, fun _ h => by cases h⟩) (by
  simp only [xc_124_u, List.forall_mem_cons]
  exact ⟨xv_122, xv_120, xv_66, fun _ h => by cases h⟩) xFl_good xXW_ok xc_124_0 (List.all_eq_true.mp xc_124_1)
