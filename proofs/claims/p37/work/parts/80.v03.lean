/-! The contracts hold, as checked -/
set_option maxRecDepth 100000 in
theorem xc_83_0 : xchk0 xVV xc_83_m xc_83_u xc_83 xc_83_e 166 = true := by decide +kernel
set_option maxRecDepth 100000 in
theorem xc_83_1 : xc_83_e.all (xchk1 xVV xc_83_m xc_83_u xc_83 xc_83_e 166) = true := by decide +kernel
theorem xv_83 {og : Nat → Option zm_C} : xV xVV xX xW og xc_83 := xchk_ok (n := 166) (MT := xc_83_m) (CT := xc_83_u) (E := xc_83_e) (by
  simp only [xc_83_m, List.forall_mem_cons]
  exact ⟨rfl, rfl, rfl, rfl, rfl, fun _ h => by cases h⟩) (by
  simp only [xc_83_u, List.forall_mem_cons]
  exact ⟨xv_82, fun _ h => by cases h⟩) xFl_good xXW_ok xc_83_0 (List.all_eq_true.mp xc_83_1)
set_option maxRecDepth 100000 in
theorem xc_84_0 : xchk0 xVV xc_84_m xc_84_u xc_84 xc_84_e 166 = true := by decide +kernel
set_option maxRecDepth 100000 in
theorem xc_84_1 : xc_84_e.all (xchk1 xVV xc_84_m xc_84_u xc_84 xc_84_e 166) = true := by decide +kernel
theorem xv_84 {og : Nat → Option zm_C} : xV xVV xX xW og xc_84 := xchk_ok (n := 166) (MT := xc_84_m) (CT := xc_84_u) (E := xc_84_e) (by
  simp only [xc_84_m, List.forall_mem_cons]
  exact ⟨rfl, rfl, rfl, rfl, rfl, fun _ h => by cases h⟩) (by
  simp only [xc_84_u, List.forall_mem_cons]
  exact ⟨xv_83, fun _ h => by cases h⟩) xFl_good xXW_ok xc_84_0 (List.all_eq_true.mp xc_84_1)
set_option maxRecDepth 100000 in
theorem xc_85_0 : xchk0 xVV xc_85_m xc_85_u xc_85 xc_85_e 3288 = true := by decide +kernel
set_option maxRecDepth 100000 in
theorem xc_85_1 : xc_85_e.all (xchk1 xVV xc_85_m xc_85_u xc_85 xc_85_e 3288) = true := by decide +kernel
theorem xv_85 {og : Nat → Option zm_C} : xV xVV xX xW og xc_85 := xchk_ok (n := 3288) (MT := xc_85_m) (CT := xc_85_u) (E := xc_85_e) (by
  simp only [xc_85_m, List.forall_mem_cons]
  exact ⟨rfl, rfl, rfl, rfl, rfl, rfl, rfl, rfl, rfl, rfl, rfl, rfl, rfl, fun _ h => by cases h⟩) (by
  simp only [xc_85_u, List.forall_mem_cons]
  exact ⟨xv_81, fun _ h => by cases h⟩) xFl_good xXW_ok xc_85_0 (List.all_eq_true.mp xc_85_1)
set_option maxRecDepth 100000 in
theorem xc_86_0 : xchk0 xVV xc_86_m xc_86_u xc_86 xc_86_e 276 = true := by decide +kernel
set_option maxRecDepth 100000 in
theorem xc_86_1 : xc_86_e.all (xchk1 xVV xc_86_m xc_86_u xc_86 xc_86_e 276) = true := by decide +kernel
theorem xv_86 {og : Nat → Option zm_C} : xV xVV xX xW og xc_86 := xchk_ok (n := 276) (MT := xc_86_m) (CT := xc_86_u) (E := xc_86_e) (by
  simp only [xc_86_m, List.forall_mem_cons]
  exact ⟨rfl, rfl, rfl, rfl, fun _ h => by cases h⟩) (by
  simp only [xc_86_u, List.forall_mem_cons]
  exact ⟨xv_85, fun _ h => by cases h⟩) xFl_good xXW_ok xc_86_0 (List.all_eq_true.mp xc_86_1)
set_option maxRecDepth 100000 in
theorem xc_87_0 : xchk0 xVV xc_87_m xc_87_u xc_87 xc_87_e 276 = true := by decide +kernel
set_option maxRecDepth 100000 in
theorem xc_87_1 : xc_87_e.all (xchk1 xVV xc_87_m xc_87_u xc_87 xc_87_e 276) = true := by decide +kernel
theorem xv_87 {og : Nat → Option zm_C} : xV xVV xX xW og xc_87 := xchk_ok (n := 276) (MT := xc_87_m) (CT := xc_87_u) (E := xc_87_e) (by
  simp only [xc_87_m, List.forall_mem_cons]
  exact ⟨rfl, rfl, rfl, rfl, fun _ h => by cases h⟩) (by
  simp only [xc_87_u, List.forall_mem_cons]
  exact ⟨xv_86, fun _ h => by cases h⟩) xFl_good xXW_ok xc_87_0 (List.all_eq_true.mp xc_87_1)
set_option maxRecDepth 100000 in
theorem xc_88_0 : xchk0 xVV xc_88_m xc_88_u xc_88 xc_88_e 3309 = true := by decide +kernel
set_option maxRecDepth 100000 in
theorem xc_88_1 : xc_88_e.all (xchk1 xVV xc_88_m xc_88_u xc_88 xc_88_e 3309) = true := by decide +kernel
theorem xv_88 {og : Nat → Option zm_C} : xV xVV xX xW og xc_88 := xchk_ok (n := 3309) (MT := xc_88_m) (CT := xc_88_u) (E := xc_88_e) (by
  simp only [xc_88_m, List.forall_mem_cons]
  exact ⟨rfl, rfl, rfl, rfl, rfl, rfl, rfl, rfl, rfl, rfl, fun _ h => by cases h⟩) (by
  simp only [xc_88_u, List.forall_mem_cons]
  exact ⟨xv_87, xv_84, fun _ h => by cases h⟩) xFl_good xXW_ok xc_88_0 (List.all_eq_true.mp xc_88_1)
set_option maxRecDepth 100000 in
theorem xc_89_0 : xchk0 xVV xc_89_m xc_89_u xc_89 xc_89_e 166 = true := by decide +kernel
set_option maxRecDepth 100000 in
theorem xc_89_1 : xc_89_e.all (xchk1 xVV xc_89_m xc_89_u xc_89 xc_89_e 166) = true := by decide +kernel
theorem xv_89 {og : Nat → Option zm_C} : xV xVV xX xW og xc_89 := xchk_ok (n := 166) (MT := xc_89_m) (CT := xc_89_u) (E := xc_89_e) (by
  simp only [xc_89_m, List.forall_mem_cons]
  exact ⟨rfl, rfl, rfl, rfl, rfl, fun _ h => by cases h⟩) (by
  simp only [xc_89_u, List.forall_mem_cons]
  exact ⟨xv_88, fun _ h => by cases h⟩) xFl_good xXW_ok xc_89_0 (List.all_eq_true.mp xc_89_1)
set_option maxRecDepth 100000 in
theorem xc_90_0 : xchk0 xVV xc_90_m xc_90_u xc_90 xc_90_e 166 = true := by decide +kernel
set_option maxRecDepth 100000 in
theorem xc_90_1 : xc_90_e.all (xchk1 xVV xc_90_m xc_90_u xc_90 xc_90_e 166) = true := by decide +kernel
theorem xv_90 {og : Nat → Option zm_C} : xV xVV xX xW og xc_90 := xchk_ok (n := 166) (MT := xc_90_m) (CT := xc_90_u) (E := xc_90_e) (by
  simp only [xc_90_m, List.forall_mem_cons]
  exact ⟨rfl, rfl, rfl, rfl, rfl, fun _ h => by cases h⟩) (by
  simp only [xc_90_u, List.forall_mem_cons]
  exact ⟨xv_89, fun _ h => by cases h⟩) xFl_good xXW_ok xc_90_0 (List.all_eq_true.mp xc_90_1)
set_option maxRecDepth 100000 in
theorem xc_91_0 : xchk0 xVV xc_91_m xc_91_u xc_91 xc_91_e 3288 = true := by decide +kernel
set_option maxRecDepth 100000 in
theorem xc_91_1 : xc_91_e.all (xchk1 xVV xc_91_m xc_91_u xc_91 xc_91_e 3288) = true := by decide +kernel
theorem xv_91 {og : Nat → Option zm_C} : xV xVV xX xW og xc_91 := xchk_ok (n := 3288) (MT := xc_91_m) (CT := xc_91_u) (E := xc_91_e) (by
  simp only [xc_91_m, List.forall_mem_cons]
  exact ⟨rfl, rfl, rfl, rfl, rfl, rfl, rfl, rfl, rfl, rfl, rfl, rfl, rfl, fun _ h => by cases h⟩) (by
  simp only [xc_91_u, List.forall_mem_cons]
  exact ⟨xv_87, fun _ h => by cases h⟩) xFl_good xXW_ok xc_91_0 (List.all_eq_true.mp xc_91_1)
