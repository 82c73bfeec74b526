/-! The contracts hold, as checked -/
set_option maxRecDepth 100000 in
theorem xc_92_0 : xchk0 xVV xc_92_m xc_92_u xc_92 xc_92_e 276 = true := by decide +kernel
set_option maxRecDepth 100000 in
theorem xc_92_1 : xc_92_e.all (xchk1 xVV xc_92_m xc_92_u xc_92 xc_92_e 276) = true := by decide +kernel
theorem xv_92 {og : Nat → Option zm_C} : xV xVV xX xW og xc_92 := xchk_ok (n := 276) (MT := xc_92_m) (CT := xc_92_u) (E := xc_92_e) (by
  simp only [xc_92_m, List.forall_mem_cons]
  exact ⟨rfl, rfl, rfl, rfl, fun _ h => by cases h⟩) (by
  simp only [xc_92_u, List.forall_mem_cons]
  exact ⟨xv_91, fun _ h => by cases h⟩) xFl_good xXW_ok xc_92_0 (List.all_eq_true.mp xc_92_1)
set_option maxRecDepth 100000 in
theorem xc_93_0 : xchk0 xVV xc_93_m xc_93_u xc_93 xc_93_e 276 = true := by decide +kernel
set_option maxRecDepth 100000 in
theorem xc_93_1 : xc_93_e.all (xchk1 xVV xc_93_m xc_93_u xc_93 xc_93_e 276) = true := by decide +kernel
theorem xv_93 {og : Nat → Option zm_C} : xV xVV xX xW og xc_93 := xchk_ok (n := 276) (MT := xc_93_m) (CT := xc_93_u) (E := xc_93_e) (by
  simp only [xc_93_m, List.forall_mem_cons]
  exact ⟨rfl, rfl, rfl, rfl, fun _ h => by cases h⟩) (by
  simp only [xc_93_u, List.forall_mem_cons]
  exact ⟨xv_92, fun _ h => by cases h⟩) xFl_good xXW_ok xc_93_0 (List.all_eq_true.mp xc_93_1)
set_option maxRecDepth 100000 in
theorem xc_94_0 : xchk0 xVV xc_94_m xc_94_u xc_94 xc_94_e 3309 = true := by decide +kernel
set_option maxRecDepth 100000 in
theorem xc_94_1 : xc_94_e.all (xchk1 xVV xc_94_m xc_94_u xc_94 xc_94_e 3309) = true := by decide +kernel
theorem xv_94 {og : Nat → Option zm_C} : xV xVV xX xW og xc_94 := xchk_ok (n := 3309) (MT := xc_94_m) (CT := xc_94_u) (E := xc_94_e) (by
  simp only [xc_94_m, List.forall_mem_cons]
  exact ⟨rfl, rfl, rfl, rfl, rfl, rfl, rfl, rfl, rfl, rfl, fun _ h => by cases h⟩) (by
  simp only [xc_94_u, List.forall_mem_cons]
  exact ⟨xv_93, xv_90, fun _ h => by cases h⟩) xFl_good xXW_ok xc_94_0 (List.all_eq_true.mp xc_94_1)
set_option maxRecDepth 100000 in
theorem xc_95_0 : xchk0 xVV xc_95_m xc_95_u xc_95 xc_95_e 166 = true := by decide +kernel
set_option maxRecDepth 100000 in
theorem xc_95_1 : xc_95_e.all (xchk1 xVV xc_95_m xc_95_u xc_95 xc_95_e 166) = true := by decide +kernel
theorem xv_95 {og : Nat → Option zm_C} : xV xVV xX xW og xc_95 := xchk_ok (n := 166) (MT := xc_95_m) (CT := xc_95_u) (E := xc_95_e) (by
  simp only [xc_95_m, List.forall_mem_cons]
  exact ⟨rfl, rfl, rfl, rfl, rfl, fun _ h => by cases h⟩) (by
  simp only [xc_95_u, List.forall_mem_cons]
  exact ⟨xv_94, fun _ h => by cases h⟩) xFl_good xXW_ok xc_95_0 (List.all_eq_true.mp xc_95_1)
set_option maxRecDepth 100000 in
theorem xc_96_0 : xchk0 xVV xc_96_m xc_96_u xc_96 xc_96_e 166 = true := by decide +kernel
set_option maxRecDepth 100000 in
theorem xc_96_1 : xc_96_e.all (xchk1 xVV xc_96_m xc_96_u xc_96 xc_96_e 166) = true := by decide +kernel
theorem xv_96 {og : Nat → Option zm_C} : xV xVV xX xW og xc_96 := xchk_ok (n := 166) (MT := xc_96_m) (CT := xc_96_u) (E := xc_96_e) (by
  simp only [xc_96_m, List.forall_mem_cons]
  exact ⟨rfl, rfl, rfl, rfl, rfl, fun _ h => by cases h⟩) (by
  simp only [xc_96_u, List.forall_mem_cons]
  exact ⟨xv_95, fun _ h => by cases h⟩) xFl_good xXW_ok xc_96_0 (List.all_eq_true.mp xc_96_1)
set_option maxRecDepth 100000 in
theorem xc_97_0 : xchk0 xVV xc_97_m xc_97_u xc_97 xc_97_e 3288 = true := by decide +kernel
set_option maxRecDepth 100000 in
theorem xc_97_1 : xc_97_e.all (xchk1 xVV xc_97_m xc_97_u xc_97 xc_97_e 3288) = true := by decide +kernel
theorem xv_97 {og : Nat → Option zm_C} : xV xVV xX xW og xc_97 := xchk_ok (n := 3288) (MT := xc_97_m) (CT := xc_97_u) (E := xc_97_e) (by
  simp only [xc_97_m, List.forall_mem_cons]
  exact ⟨rfl, rfl, rfl, rfl, rfl, rfl, rfl, rfl, rfl, rfl, rfl, rfl, rfl, fun _ h => by cases h⟩) (by
  simp only [xc_97_u, List.forall_mem_cons]
  exact ⟨xv_93, fun _ h => by cases h⟩) xFl_good xXW_ok xc_97_0 (List.all_eq_true.mp xc_97_1)
set_option maxRecDepth 100000 in
theorem xc_98_0 : xchk0 xVV xc_98_m xc_98_u xc_98 xc_98_e 276 = true := by decide +kernel
set_option maxRecDepth 100000 in
theorem xc_98_1 : xc_98_e.all (xchk1 xVV xc_98_m xc_98_u xc_98 xc_98_e 276) = true := by decide +kernel
theorem xv_98 {og : Nat → Option zm_C} : xV xVV xX xW og xc_98 := xchk_ok (n := 276) (MT := xc_98_m) (CT := xc_98_u) (E := xc_98_e) (by
  simp only [xc_98_m, List.forall_mem_cons]
  exact ⟨rfl, rfl, rfl, rfl, fun _ h => by cases h⟩) (by
  simp only [xc_98_u, List.forall_mem_cons]
  exact ⟨xv_97, fun _ h => by cases h⟩) xFl_good xXW_ok xc_98_0 (List.all_eq_true.mp xc_98_1)
set_option maxRecDepth 100000 in
theorem xc_99_0 : xchk0 xVV xc_99_m xc_99_u xc_99 xc_99_e 276 = true := by decide +kernel
set_option maxRecDepth 100000 in
theorem xc_99_1 : xc_99_e.all (xchk1 xVV xc_99_m xc_99_u xc_99 xc_99_e 276) = true := by decide +kernel
theorem xv_99 {og : Nat → Option zm_C} : xV xVV xX xW og xc_99 := xchk_ok (n := 276) (MT := xc_99_m) (CT := xc_99_u) (E := xc_99_e) (by
  simp only [xc_99_m, List.forall_mem_cons]
  exact ⟨rfl, rfl, rfl, rfl, fun _ h => by cases h⟩) (by
  simp only [xc_99_u, List.forall_mem_cons]
  exact ⟨xv_98, fun _ h => by cases h⟩) xFl_good xXW_ok xc_99_0 (List.all_eq_true.mp xc_99_1)
set_option maxRecDepth 100000 in
theorem xc_100_0 : xchk0 xVV xc_100_m xc_100_u xc_100 xc_100_e 3309 = true := by decide +kernel
set_option maxRecDepth 100000 in
theorem xc_100_1 : xc_100_e.all (xchk1 xVV xc_100_m xc_100_u xc_100 xc_100_e 3309) = true := by decide +kernel
theorem xv_100 {og : Nat → Option zm_C} : xV xVV xX xW og xc_100 := xchk_ok (n := 3309) (MT := xc_100_m) (CT := xc_100_u) (E := xc_100_e) (by
  simp only [xc_100_m, List.forall_mem_cons]
  exact ⟨rfl, rfl, rfl, rfl, rfl, rfl, rfl, rfl, rfl, rfl, fun _ h => by cases h⟩) (by
  simp only [xc_100_u, List.forall_mem_cons]
  exact ⟨xv_99, xv_96, fun _ h => by cases h⟩) xFl_good xXW_ok xc_100_0 (List.all_eq_true.mp xc_100_1)
