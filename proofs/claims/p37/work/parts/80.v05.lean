/-! The contracts hold, as checked -/
set_option maxRecDepth 100000 in
theorem xc_101_0 : xchk0 xVV xc_101_m xc_101_u xc_101 xc_101_e 166 = true := by decide +kernel
set_option maxRecDepth 100000 in
theorem xc_101_1 : xc_101_e.all (xchk1 xVV xc_101_m xc_101_u xc_101 xc_101_e 166) = true := by decide +kernel
theorem xv_101 {og : Nat → Option zm_C} : xV xVV xX xW og xc_101 := xchk_ok (n := 166) (MT := xc_101_m) (CT := xc_101_u) (E := xc_101_e) (by
  simp only [xc_101_m, List.forall_mem_cons]
  exact ⟨rfl, rfl, rfl, rfl, rfl, fun _ h => by cases h⟩) (by
  simp only [xc_101_u, List.forall_mem_cons]
  exact ⟨xv_100, fun _ h => by cases h⟩) xFl_good xXW_ok xc_101_0 (List.all_eq_true.mp xc_101_1)
set_option maxRecDepth 100000 in
theorem xc_102_0 : xchk0 xVV xc_102_m xc_102_u xc_102 xc_102_e 166 = true := by decide +kernel
set_option maxRecDepth 100000 in
theorem xc_102_1 : xc_102_e.all (xchk1 xVV xc_102_m xc_102_u xc_102 xc_102_e 166) = true := by decide +kernel
theorem xv_102 {og : Nat → Option zm_C} : xV xVV xX xW og xc_102 := xchk_ok (n := 166) (MT := xc_102_m) (CT := xc_102_u) (E := xc_102_e) (by
  simp only [xc_102_m, List.forall_mem_cons]
  exact ⟨rfl, rfl, rfl, rfl, rfl, fun _ h => by cases h⟩) (by
  simp only [xc_102_u, List.forall_mem_cons]
  exact ⟨xv_101, fun _ h => by cases h⟩) xFl_good xXW_ok xc_102_0 (List.all_eq_true.mp xc_102_1)
set_option maxRecDepth 100000 in
theorem xc_103_0 : xchk0 xVV xc_103_m xc_103_u xc_103 xc_103_e 3288 = true := by decide +kernel
set_option maxRecDepth 100000 in
theorem xc_103_1 : xc_103_e.all (xchk1 xVV xc_103_m xc_103_u xc_103 xc_103_e 3288) = true := by decide +kernel
theorem xv_103 {og : Nat → Option zm_C} : xV xVV xX xW og xc_103 := xchk_ok (n := 3288) (MT := xc_103_m) (CT := xc_103_u) (E := xc_103_e) (by
  simp only [xc_103_m, List.forall_mem_cons]
  exact ⟨rfl, rfl, rfl, rfl, rfl, rfl, rfl, rfl, rfl, rfl, rfl, rfl, rfl, fun _ h => by cases h⟩) (by
  simp only [xc_103_u, List.forall_mem_cons]
  exact ⟨xv_99, fun _ h => by cases h⟩) xFl_good xXW_ok xc_103_0 (List.all_eq_true.mp xc_103_1)
set_option maxRecDepth 100000 in
theorem xc_104_0 : xchk0 xVV xc_104_m xc_104_u xc_104 xc_104_e 276 = true := by decide +kernel
set_option maxRecDepth 100000 in
theorem xc_104_1 : xc_104_e.all (xchk1 xVV xc_104_m xc_104_u xc_104 xc_104_e 276) = true := by decide +kernel
theorem xv_104 {og : Nat → Option zm_C} : xV xVV xX xW og xc_104 := xchk_ok (n := 276) (MT := xc_104_m) (CT := xc_104_u) (E := xc_104_e) (by
  simp only [xc_104_m, List.forall_mem_cons]
  exact ⟨rfl, rfl, rfl, rfl, fun _ h => by cases h⟩) (by
  simp only [xc_104_u, List.forall_mem_cons]
  exact ⟨xv_103, fun _ h => by cases h⟩) xFl_good xXW_ok xc_104_0 (List.all_eq_true.mp xc_104_1)
set_option maxRecDepth 100000 in
theorem xc_105_0 : xchk0 xVV xc_105_m xc_105_u xc_105 xc_105_e 276 = true := by decide +kernel
set_option maxRecDepth 100000 in
theorem xc_105_1 : xc_105_e.all (xchk1 xVV xc_105_m xc_105_u xc_105 xc_105_e 276) = true := by decide +kernel
theorem xv_105 {og : Nat → Option zm_C} : xV xVV xX xW og xc_105 := xchk_ok (n := 276) (MT := xc_105_m) (CT := xc_105_u) (E := xc_105_e) (by
  simp only [xc_105_m, List.forall_mem_cons]
  exact ⟨rfl, rfl, rfl, rfl, fun _ h => by cases h⟩) (by
  simp only [xc_105_u, List.forall_mem_cons]
  exact ⟨xv_104, fun _ h => by cases h⟩) xFl_good xXW_ok xc_105_0 (List.all_eq_true.mp xc_105_1)
set_option maxRecDepth 100000 in
theorem xc_106_0 : xchk0 xVV xc_106_m xc_106_u xc_106 xc_106_e 3309 = true := by decide +kernel
set_option maxRecDepth 100000 in
theorem xc_106_1 : xc_106_e.all (xchk1 xVV xc_106_m xc_106_u xc_106 xc_106_e 3309) = true := by decide +kernel
theorem xv_106 {og : Nat → Option zm_C} : xV xVV xX xW og xc_106 := xchk_ok (n := 3309) (MT := xc_106_m) (CT := xc_106_u) (E := xc_106_e) (by
  simp only [xc_106_m, List.forall_mem_cons]
  exact ⟨rfl, rfl, rfl, rfl, rfl, rfl, rfl, rfl, rfl, rfl, fun _ h => by cases h⟩) (by
  simp only [xc_106_u, List.forall_mem_cons]
  exact ⟨xv_105, xv_102, fun _ h => by cases h⟩) xFl_good xXW_ok xc_106_0 (List.all_eq_true.mp xc_106_1)
set_option maxRecDepth 100000 in
theorem xc_107_0 : xchk0 xVV xc_107_m xc_107_u xc_107 xc_107_e 166 = true := by decide +kernel
set_option maxRecDepth 100000 in
theorem xc_107_1 : xc_107_e.all (xchk1 xVV xc_107_m xc_107_u xc_107 xc_107_e 166) = true := by decide +kernel
theorem xv_107 {og : Nat → Option zm_C} : xV xVV xX xW og xc_107 := xchk_ok (n := 166) (MT := xc_107_m) (CT := xc_107_u) (E := xc_107_e) (by
  simp only [xc_107_m, List.forall_mem_cons]
  exact ⟨rfl, rfl, rfl, rfl, rfl, fun _ h => by cases h⟩) (by
  simp only [xc_107_u, List.forall_mem_cons]
  exact ⟨xv_106, fun _ h => by cases h⟩) xFl_good xXW_ok xc_107_0 (List.all_eq_true.mp xc_107_1)
set_option maxRecDepth 100000 in
theorem xc_108_0 : xchk0 xVV xc_108_m xc_108_u xc_108 xc_108_e 166 = true := by decide +kernel
set_option maxRecDepth 100000 in
theorem xc_108_1 : xc_108_e.all (xchk1 xVV xc_108_m xc_108_u xc_108 xc_108_e 166) = true := by decide +kernel
theorem xv_108 {og : Nat → Option zm_C} : xV xVV xX xW og xc_108 := xchk_ok (n := 166) (MT := xc_108_m) (CT := xc_108_u) (E := xc_108_e) (by
  simp only [xc_108_m, List.forall_mem_cons]
  exact ⟨rfl, rfl, rfl, rfl, rfl, fun _ h => by cases h⟩) (by
  simp only [xc_108_u, List.forall_mem_cons]
  exact ⟨xv_107, fun _ h => by cases h⟩) xFl_good xXW_ok xc_108_0 (List.all_eq_true.mp xc_108_1)
set_option maxRecDepth 100000 in
theorem xc_109_0 : xchk0 xVV xc_109_m xc_109_u xc_109 xc_109_e 3288 = true := by decide +kernel
set_option maxRecDepth 100000 in
theorem xc_109_1 : xc_109_e.all (xchk1 xVV xc_109_m xc_109_u xc_109 xc_109_e 3288) = true := by decide +kernel
theorem xv_109 {og : Nat → Option zm_C} : xV xVV xX xW og xc_109 := xchk_ok (n := 3288) (MT := xc_109_m) (CT := xc_109_u) (E := xc_109_e) (by
  simp only [xc_109_m, List.forall_mem_cons]
  exact ⟨rfl, rfl, rfl, rfl, rfl, rfl, rfl, rfl, rfl, rfl, rfl, rfl, rfl, fun _ h => by cases h⟩) (by
  simp only [xc_109_u, List.forall_mem_cons]
  exact ⟨xv_105, fun _ h => by cases h⟩) xFl_good xXW_ok xc_109_0 (List.all_eq_true.mp xc_109_1)
