/-! The contracts hold, as checked -/
set_option maxRecDepth 100000 in
theorem xc_74_0 : xchk0 xVV xc_74_m xc_74_u xc_74 xc_74_e 276 = true := by decide +kernel
set_option maxRecDepth 100000 in
theorem xc_74_1 : xc_74_e.all (xchk1 xVV xc_74_m xc_74_u xc_74 xc_74_e 276) = true := by decide +kernel
theorem xv_74 {og : Nat → Option zm_C} : xV xVV xX xW og xc_74 := xchk_ok (n := 276) (MT := xc_74_m) (CT := xc_74_u) (E := xc_74_e) (by
  simp only [xc_74_m, List.forall_mem_cons]
  exact ⟨rfl, rfl, rfl, rfl, fun _ h => by cases h⟩) (by
  simp only [xc_74_u, List.forall_mem_cons]
  exact ⟨xv_73, fun _ h => by cases h⟩) xFl_good xXW_ok xc_74_0 (List.all_eq_true.mp xc_74_1)
set_option maxRecDepth 100000 in
theorem xc_75_0 : xchk0 xVV xc_75_m xc_75_u xc_75 xc_75_e 276 = true := by decide +kernel
set_option maxRecDepth 100000 in
theorem xc_75_1 : xc_75_e.all (xchk1 xVV xc_75_m xc_75_u xc_75 xc_75_e 276) = true := by decide +kernel
theorem xv_75 {og : Nat → Option zm_C} : xV xVV xX xW og xc_75 := xchk_ok (n := 276) (MT := xc_75_m) (CT := xc_75_u) (E := xc_75_e) (by
  simp only [xc_75_m, List.forall_mem_cons]
  exact ⟨rfl, rfl, rfl, rfl, fun _ h => by cases h⟩) (by
  simp only [xc_75_u, List.forall_mem_cons]
  exact ⟨xv_74, fun _ h => by cases h⟩) xFl_good xXW_ok xc_75_0 (List.all_eq_true.mp xc_75_1)
set_option maxRecDepth 100000 in
theorem xc_76_0 : xchk0 xVV xc_76_m xc_76_u xc_76 xc_76_e 3309 = true := by decide +kernel
set_option maxRecDepth 100000 in
theorem xc_76_1 : xc_76_e.all (xchk1 xVV xc_76_m xc_76_u xc_76 xc_76_e 3309) = true := by decide +kernel
theorem xv_76 {og : Nat → Option zm_C} : xV xVV xX xW og xc_76 := xchk_ok (n := 3309) (MT := xc_76_m) (CT := xc_76_u) (E := xc_76_e) (by
  simp only [xc_76_m, List.forall_mem_cons]
  exact ⟨rfl, rfl, rfl, rfl, rfl, rfl, rfl, rfl, rfl, rfl, fun _ h => by cases h⟩) (by
  simp only [xc_76_u, List.forall_mem_cons]
  exact ⟨xv_75, xv_72, fun _ h => by cases h⟩) xFl_good xXW_ok xc_76_0 (List.all_eq_true.mp xc_76_1)
set_option maxRecDepth 100000 in
theorem xc_77_0 : xchk0 xVV xc_77_m xc_77_u xc_77 xc_77_e 166 = true := by decide +kernel
set_option maxRecDepth 100000 in
theorem xc_77_1 : xc_77_e.all (xchk1 xVV xc_77_m xc_77_u xc_77 xc_77_e 166) = true := by decide +kernel
theorem xv_77 {og : Nat → Option zm_C} : xV xVV xX xW og xc_77 := xchk_ok (n := 166) (MT := xc_77_m) (CT := xc_77_u) (E := xc_77_e) (by
  simp only [xc_77_m, List.forall_mem_cons]
  exact ⟨rfl, rfl, rfl, rfl, rfl, fun _ h => by cases h⟩) (by
  simp only [xc_77_u, List.forall_mem_cons]
  exact ⟨xv_76, fun _ h => by cases h⟩) xFl_good xXW_ok xc_77_0 (List.all_eq_true.mp xc_77_1)
set_option maxRecDepth 100000 in
theorem xc_78_0 : xchk0 xVV xc_78_m xc_78_u xc_78 xc_78_e 166 = true := by decide +kernel
set_option maxRecDepth 100000 in
theorem xc_78_1 : xc_78_e.all (xchk1 xVV xc_78_m xc_78_u xc_78 xc_78_e 166) = true := by decide +kernel
theorem xv_78 {og : Nat → Option zm_C} : xV xVV xX xW og xc_78 := xchk_ok (n := 166) (MT := xc_78_m) (CT := xc_78_u) (E := xc_78_e) (by
  simp only [xc_78_m, List.forall_mem_cons]
  exact ⟨rfl, rfl, rfl, rfl, rfl, fun _ h => by cases h⟩) (by
  simp only [xc_78_u, List.forall_mem_cons]
  exact ⟨xv_77, fun _ h => by cases h⟩) xFl_good xXW_ok xc_78_0 (List.all_eq_true.mp xc_78_1)
set_option maxRecDepth 100000 in
theorem xc_79_0 : xchk0 xVV xc_79_m xc_79_u xc_79 xc_79_e 3288 = true := by decide +kernel
set_option maxRecDepth 100000 in
theorem xc_79_1 : xc_79_e.all (xchk1 xVV xc_79_m xc_79_u xc_79 xc_79_e 3288) = true := by decide +kernel
theorem xv_79 {og : Nat → Option zm_C} : xV xVV xX xW og xc_79 := xchk_ok (n := 3288) (MT := xc_79_m) (CT := xc_79_u) (E := xc_79_e) (by
  simp only [xc_79_m, List.forall_mem_cons]
  exact ⟨rfl, rfl, rfl, rfl, rfl, rfl, rfl, rfl, rfl, rfl, rfl, rfl, rfl, fun _ h => by cases h⟩) (by
  simp only [xc_79_u, List.forall_mem_cons]
  exact ⟨xv_75, fun _ h => by cases h⟩) xFl_good xXW_ok xc_79_0 (List.all_eq_true.mp xc_79_1)
set_option maxRecDepth 100000 in
theorem xc_80_0 : xchk0 xVV xc_80_m xc_80_u xc_80 xc_80_e 276 = true := by decide +kernel
set_option maxRecDepth 100000 in
theorem xc_80_1 : xc_80_e.all (xchk1 xVV xc_80_m xc_80_u xc_80 xc_80_e 276) = true := by decide +kernel
theorem xv_80 {og : Nat → Option zm_C} : xV xVV xX xW og xc_80 := xchk_ok (n := 276) (MT := xc_80_m) (CT := xc_80_u) (E := xc_80_e) (by
  simp only [xc_80_m, List.forall_mem_cons]
  exact ⟨rfl, rfl, rfl, rfl, fun _ h => by cases h⟩) (by
  simp only [xc_80_u, List.forall_mem_cons]
  exact ⟨xv_79, fun _ h => by cases h⟩) xFl_good xXW_ok xc_80_0 (List.all_eq_true.mp xc_80_1)
set_option maxRecDepth 100000 in
theorem xc_81_0 : xchk0 xVV xc_81_m xc_81_u xc_81 xc_81_e 276 = true := by decide +kernel
set_option maxRecDepth 100000 in
theorem xc_81_1 : xc_81_e.all (xchk1 xVV xc_81_m xc_81_u xc_81 xc_81_e 276) = true := by decide +kernel
theorem xv_81 {og : Nat → Option zm_C} : xV xVV xX xW og xc_81 := xchk_ok (n := 276) (MT := xc_81_m) (CT := xc_81_u) (E := xc_81_e) (by
  simp only [xc_81_m, List.forall_mem_cons]
  exact ⟨rfl, rfl, rfl, rfl, fun _ h => by cases h⟩) (by
  simp only [xc_81_u, List.forall_mem_cons]
  exact ⟨xv_80, fun _ h => by cases h⟩) xFl_good xXW_ok xc_81_0 (List.all_eq_true.mp xc_81_1)
set_option maxRecDepth 100000 in
theorem xc_82_0 : xchk0 xVV xc_82_m xc_82_u xc_82 xc_82_e 3309 = true := by decide +kernel
set_option maxRecDepth 100000 in
theorem xc_82_1 : xc_82_e.all (xchk1 xVV xc_82_m xc_82_u xc_82 xc_82_e 3309) = true := by decide +kernel
theorem xv_82 {og : Nat → Option zm_C} : xV xVV xX xW og xc_82 := xchk_ok (n := 3309) (MT := xc_82_m) (CT := xc_82_u) (E := xc_82_e) (by
  simp only [xc_82_m, List.forall_mem_cons]
  exact ⟨rfl, rfl, rfl, rfl, rfl, rfl, rfl, rfl, rfl, rfl, fun _ h => by cases h⟩) (by
  simp only [xc_82_u, List.forall_mem_cons]
  exact ⟨xv_81, xv_78, fun _ h => by cases h⟩) xFl_good xXW_ok xc_82_0 (List.all_eq_true.mp xc_82_1)
