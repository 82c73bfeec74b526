/-! The contracts hold, as checked -/
set_option maxRecDepth 100000 in
theorem xc_49_0 : xchk0 xVV xc_49_m xc_49_u xc_49 xc_49_e 250 = true := by decide +kernel
set_option maxRecDepth 100000 in
theorem xc_49_1 : xc_49_e.all (xchk1 xVV xc_49_m xc_49_u xc_49 xc_49_e 250) = true := by decide +kernel
theorem xv_49 {og : Nat → Option zm_C} : xV xVV xX xW og xc_49 := xchk_ok (n := 250) (MT := xc_49_m) (CT := xc_49_u) (E := xc_49_e) (by
  simp only [xc_49_m, List.forall_mem_cons]
  exact ⟨rfl, rfl, rfl, rfl, rfl, rfl, rfl, rfl, fun _ h => by cases h⟩) (by
  simp only [xc_49_u, List.forall_mem_cons]
  exact ⟨xv_48, xv_47, xv_46, xv_45, xv_44, xv_43, xv_15, xv_13, fun _ h => by cases h⟩) xFl_good xXW_ok xc_49_0 (List.all_eq_true.mp xc_49_1)
set_option maxRecDepth 100000 in
theorem xc_50_0 : xchk0 xVV xc_50_m xc_50_u xc_50 xc_50_e 233 = true := by decide +kernel
set_option maxRecDepth 100000 in
theorem xc_50_1 : xc_50_e.all (xchk1 xVV xc_50_m xc_50_u xc_50 xc_50_e 233) = true := by decide +kernel
theorem xv_50 {og : Nat → Option zm_C} : xV xVV xX xW og xc_50 := xchk_ok (n := 233) (MT := xc_50_m) (CT := xc_50_u) (E := xc_50_e) (by
  simp only [xc_50_m, List.forall_mem_cons]
  exact ⟨rfl, rfl, rfl, rfl, rfl, rfl, rfl, fun _ h => by cases h⟩) (by
  simp only [xc_50_u, List.forall_mem_cons]
  exact ⟨xv_48, xv_46, xv_45, xv_44, xv_43, xv_13, fun _ h => by cases h⟩) xFl_good xXW_ok xc_50_0 (List.all_eq_true.mp xc_50_1)
set_option maxRecDepth 100000 in
theorem xc_51_0 : xchk0 xVV xc_51_m xc_51_u xc_51 xc_51_e 171 = true := by decide +kernel
set_option maxRecDepth 100000 in
theorem xc_51_1 : xc_51_e.all (xchk1 xVV xc_51_m xc_51_u xc_51 xc_51_e 171) = true := by decide +kernel
theorem xv_51 {og : Nat → Option zm_C} : xV xVV xX xW og xc_51 := xchk_ok (n := 171) (MT := xc_51_m) (CT := xc_51_u) (E := xc_51_e) (by
  simp only [xc_51_m, List.forall_mem_cons]
  exact ⟨rfl, rfl, rfl, rfl, rfl, rfl, fun _ h => by cases h⟩) (by
  simp only [xc_51_u, List.forall_mem_cons]
  exact ⟨xv_49, fun _ h => by cases h⟩) xFl_good xXW_ok xc_51_0 (List.all_eq_true.mp xc_51_1)
set_option maxRecDepth 100000 in
theorem xc_52_0 : xchk0 xVV xc_52_m xc_52_u xc_52 xc_52_e 85 = true := by decide +kernel
set_option maxRecDepth 100000 in
theorem xc_52_1 : xc_52_e.all (xchk1 xVV xc_52_m xc_52_u xc_52 xc_52_e 85) = true := by decide +kernel
theorem xv_52 {og : Nat → Option zm_C} : xV xVV xX xW og xc_52 := xchk_ok (n := 85) (MT := xc_52_m) (CT := xc_52_u) (E := xc_52_e) (by
  simp only [xc_52_m, List.forall_mem_cons]
  exact ⟨rfl, rfl, fun _ h => by cases h⟩) (by
  simp only [xc_52_u, List.forall_mem_cons]
  exact fun _ h => by cases h) xFl_good xXW_ok xc_52_0 (List.all_eq_true.mp xc_52_1)
set_option maxRecDepth 100000 in
theorem xc_53_0 : xchk0 xVV xc_53_m xc_53_u xc_53 xc_53_e 77 = true := by decide +kernel
set_option maxRecDepth 100000 in
theorem xc_53_1 : xc_53_e.all (xchk1 xVV xc_53_m xc_53_u xc_53 xc_53_e 77) = true := by decide +kernel
theorem xv_53 {og : Nat → Option zm_C} : xV xVV xX xW og xc_53 := xchk_ok (n := 77) (MT := xc_53_m) (CT := xc_53_u) (E := xc_53_e) (by
  simp only [xc_53_m, List.forall_mem_cons]
  exact ⟨rfl, rfl, fun _ h => by cases h⟩) (by
  simp only [xc_53_u, List.forall_mem_cons]
  exact ⟨xv_14, fun _ h => by cases h⟩) xFl_good xXW_ok xc_53_0 (List.all_eq_true.mp xc_53_1)
set_option maxRecDepth 100000 in
theorem xc_54_0 : xchk0 xVV xc_54_m xc_54_u xc_54 xc_54_e 175 = true := by decide +kernel
set_option maxRecDepth 100000 in
theorem xc_54_1 : xc_54_e.all (xchk1 xVV xc_54_m xc_54_u xc_54 xc_54_e 175) = true := by decide +kernel
theorem xv_54 {og : Nat → Option zm_C} : xV xVV xX xW og xc_54 := xchk_ok (n := 175) (MT := xc_54_m) (CT := xc_54_u) (E := xc_54_e) (by
  simp only [xc_54_m, List.forall_mem_cons]
  exact ⟨rfl, rfl, rfl, rfl, rfl, fun _ h => by cases h⟩) (by
  simp only [xc_54_u, List.forall_mem_cons]
  exact ⟨xv_43, xv_20, xv_19, fun _ h => by cases h⟩) xFl_good xXW_ok xc_54_0 (List.all_eq_true.mp xc_54_1)
set_option maxRecDepth 100000 in
theorem xc_55_0 : xchk0 xVV xc_55_m xc_55_u xc_55 xc_55_e 160 = true := by decide +kernel
set_option maxRecDepth 100000 in
theorem xc_55_1 : xc_55_e.all (xchk1 xVV xc_55_m xc_55_u xc_55 xc_55_e 160) = true := by decide +kernel
theorem xv_55 {og : Nat → Option zm_C} : xV xVV xX xW og xc_55 := xchk_ok (n := 160) (MT := xc_55_m) (CT := xc_55_u) (E := xc_55_e) (by
  simp only [xc_55_m, List.forall_mem_cons]
  exact ⟨rfl, rfl, fun _ h => by cases h⟩) (by
  simp only [xc_55_u, List.forall_mem_cons]
  exact fun _ h => by cases h) xFl_good xXW_ok xc_55_0 (List.all_eq_true.mp xc_55_1)
theorem xv_56 {og : Nat → Option zm_C} : xV xVV xX xW og xc_56 := xv_held xv_55
set_option maxRecDepth 100000 in
theorem xc_63_0 : xchk0 xVV xc_63_m xc_63_u xc_63 xc_63_e 127 = true := by decide +kernel
set_option maxRecDepth 100000 in
theorem xc_63_1 : xc_63_e.all (xchk1 xVV xc_63_m xc_63_u xc_63 xc_63_e 127) = true := by decide +kernel
theorem xv_63 {og : Nat → Option zm_C} : xV xVV xX xW og xc_63 := xchk_ok (n := 127) (MT := xc_63_m) (CT := xc_63_u) (E := xc_63_e) (by
  simp only [xc_63_m, List.forall_mem_cons]
  exact ⟨rfl, rfl, rfl, rfl, fun _ h => by cases h⟩) (by
  simp only [xc_63_u, List.forall_mem_cons]
  exact ⟨xv_61, xv_12, fun _ h => by cases h⟩) xFl_good xXW_ok xc_63_0 (List.all_eq_true.mp xc_63_1)
set_option maxRecDepth 100000 in
theorem xc_64_0 : xchk0 xVV xc_64_m xc_64_u xc_64 xc_64_e 115 = true := by decide +kernel
set_option maxRecDepth 100000 in
theorem xc_64_1 : xc_64_e.all (xchk1 xVV xc_64_m xc_64_u xc_64 xc_64_e 115) = true := by decide +kernel
theorem xv_64 {og : Nat → Option zm_C} : xV xVV xX xW og xc_64 := xchk_ok (n := 115) (MT := xc_64_m) (CT := xc_64_u) (E := xc_64_e) (by
  simp only [xc_64_m, List.forall_mem_cons]
  exact ⟨rfl, rfl, rfl, fun _ h => by cases h⟩) (by
  simp only [xc_64_u, List.forall_mem_cons]
  exact ⟨xv_62, fun _ h => by cases h⟩) xFl_good xXW_ok xc_64_0 (List.all_eq_true.mp xc_64_1)
set_option maxRecDepth 100000 in
theorem xc_65_0 : xchk0 xVV xc_65_m xc_65_u xc_65 xc_65_e 321 = true := by decide +kernel
set_option maxRecDepth 100000 in
theorem xc_65_1 : xc_65_e.all (xchk1 xVV xc_65_m xc_65_u xc_65 xc_65_e 321) = true := by decide +kernel
theorem xv_65 {og : Nat → Option zm_C} : xV xVV xX xW og xc_65 := xchk_ok (n := 321) (MT := xc_65_m) (CT := xc_65_u) (E := xc_65_e) (by
  simp only [xc_65_m, List.forall_mem_cons]
  exact ⟨rfl, rfl, rfl, rfl, rfl, rfl, rfl, fun _ h => by cases h⟩) (by
  simp only [xc_65_u, List.forall_mem_cons]
  exact ⟨xv_64, xv_63, xv_62, fun _ h => by cases h⟩) xFl_good xXW_ok xc_65_0 (List.all_eq_true.mp xc_65_1)
set_option maxRecDepth 100000 in
theorem xc_66_0 : xchk0 xVV xc_66_m xc_66_u xc_66 xc_66_e 109 = true := by decide +kernel
set_option maxRecDepth 100000 in
theorem xc_66_1 : xc_66_e.all (xchk1 xVV xc_66_m xc_66_u xc_66 xc_66_e 109) = true := by decide +kernel
theorem xv_66 {og : Nat → Option zm_C} : xV xVV xX xW og xc_66 := xchk_ok (n := 109) (MT := xc_66_m) (CT := xc_66_u) (E := xc_66_e) (by
  simp only [xc_66_m, List.forall_mem_cons]
  exact ⟨rfl, rfl, rfl, rfl, fun _ h => by cases h⟩) (by
  simp only [xc_66_u, List.forall_mem_cons]
  exact ⟨xv_65, xv_60, fun _ h => by cases h⟩) xFl_good xXW_ok xc_66_0 (List.all_eq_true.mp xc_66_1)
set_option maxRecDepth 100000 in
theorem xc_67_0 : xchk0 xVV xc_67_m xc_67_u xc_67 xc_67_e 1285 = true := by decide +kernel
set_option maxRecDepth 100000 in
theorem xc_67_1 : xc_67_e.all (xchk1 xVV xc_67_m xc_67_u xc_67 xc_67_e 1285) = true := by decide +kernel
theorem xv_67 {og : Nat → Option zm_C} : xV xVV xX xW og xc_67 := xchk_ok (n := 1285) (MT := xc_67_m) (CT := xc_67_u) (E := xc_67_e) (by
  simp only [xc_67_m, List.forall_mem_cons]
  exact ⟨rfl, rfl, rfl, rfl, rfl, rfl, rfl, rfl, rfl, rfl, rfl, rfl, fun _ h => by cases h⟩) (by
  simp only [xc_67_u, List.forall_mem_cons]
  exact fun _ h => by cases h) xFl_good xXW_ok xc_67_0 (List.all_eq_true.mp xc_67_1)
set_option maxRecDepth 100000 in
theorem xc_68_0 : xchk0 xVV xc_68_m xc_68_u xc_68 xc_68_e 276 = true := by decide +kernel
set_option maxRecDepth 100000 in
theorem xc_68_1 : xc_68_e.all (xchk1 xVV xc_68_m xc_68_u xc_68 xc_68_e 276) = true := by decide +kernel
theorem xv_68 {og : Nat → Option zm_C} : xV xVV xX xW og xc_68 := xchk_ok (n := 276) (MT := xc_68_m) (CT := xc_68_u) (E := xc_68_e) (by
  simp only [xc_68_m, List.forall_mem_cons]
  exact ⟨rfl, rfl, rfl, rfl, fun _ h => by cases h⟩) (by
  simp only [xc_68_u, List.forall_mem_cons]
  exact ⟨xv_67, fun _ h => by cases h⟩) xFl_good xXW_ok xc_68_0 (List.all_eq_true.mp xc_68_1)
set_option maxRecDepth 100000 in
theorem xc_69_0 : xchk0 xVV xc_69_m xc_69_u xc_69 xc_69_e 276 = true := by decide +kernel
set_option maxRecDepth 100000 in
theorem xc_69_1 : xc_69_e.all (xchk1 xVV xc_69_m xc_69_u xc_69 xc_69_e 276) = true := by decide +kernel
theorem xv_69 {og : Nat → Option zm_C} : xV xVV xX xW og xc_69 := xchk_ok (n := 276) (MT := xc_69_m) (CT := xc_69_u) (E := xc_69_e) (by
  simp only [xc_69_m, List.forall_mem_cons]
  exact ⟨rfl, rfl, rfl, rfl, fun _ h => by cases h⟩) (by
  simp only [xc_69_u, List.forall_mem_cons]
  exact ⟨xv_68, fun _ h => by cases h⟩) xFl_good xXW_ok xc_69_0 (List.all_eq_true.mp xc_69_1)
set_option maxRecDepth 100000 in
theorem xc_70_0 : xchk0 xVV xc_70_m xc_70_u xc_70 xc_70_e 2861 = true := by decide +kernel
set_option maxRecDepth 100000 in
theorem xc_70_1 : xc_70_e.all (xchk1 xVV xc_70_m xc_70_u xc_70 xc_70_e 2861) = true := by decide +kernel
theorem xv_70 {og : Nat → Option zm_C} : xV xVV xX xW og xc_70 := xchk_ok (n := 2861) (MT := xc_70_m) (CT := xc_70_u) (E := xc_70_e) (by
  simp only [xc_70_m, List.forall_mem_cons]
  exact ⟨rfl, rfl, rfl, rfl, rfl, rfl, rfl, rfl, rfl, fun _ h => by cases h⟩) (by
  simp only [xc_70_u, List.forall_mem_cons]
  exact ⟨xv_69, fun _ h => by cases h⟩) xFl_good xXW_ok xc_70_0 (List.all_eq_true.mp xc_70_1)
set_option maxRecDepth 100000 in
theorem xc_71_0 : xchk0 xVV xc_71_m xc_71_u xc_71 xc_71_e 166 = true := by decide +kernel
set_option maxRecDepth 100000 in
theorem xc_71_1 : xc_71_e.all (xchk1 xVV xc_71_m xc_71_u xc_71 xc_71_e 166) = true := by decide +kernel
theorem xv_71 {og : Nat → Option zm_C} : xV xVV xX xW og xc_71 := xchk_ok (n := 166) (MT := xc_71_m) (CT := xc_71_u) (E := xc_71_e) (by
  simp only [xc_71_m, List.forall_mem_cons]
  exact ⟨rfl, rfl, rfl, rfl, rfl, fun _ h => by cases h⟩) (by
  simp only [xc_71_u, List.forall_mem_cons]
  exact ⟨xv_70, fun _ h => by cases h⟩) xFl_good xXW_ok xc_71_0 (List.all_eq_true.mp xc_71_1)
set_option maxRecDepth 100000 in
theorem xc_72_0 : xchk0 xVV xc_72_m xc_72_u xc_72 xc_72_e 166 = true := by decide +kernel
set_option maxRecDepth 100000 in
theorem xc_72_1 : xc_72_e.all (xchk1 xVV xc_72_m xc_72_u xc_72 xc_72_e 166) = true := by decide +kernel
theorem xv_72 {og : Nat → Option zm_C} : xV xVV xX xW og xc_72 := xchk_ok (n := 166) (MT := xc_72_m) (CT := xc_72_u) (E := xc_72_e) (by
  simp only [xc_72_m, List.forall_mem_cons]
  exact ⟨rfl, rfl, rfl, rfl, rfl, fun _ h => by cases h⟩) (by
  simp only [xc_72_u, List.forall_mem_cons]
  exact ⟨xv_71, fun _ h => by cases h⟩) xFl_good xXW_ok xc_72_0 (List.all_eq_true.mp xc_72_1)
set_option maxRecDepth 100000 in
theorem xc_73_0 : xchk0 xVV xc_73_m xc_73_u xc_73 xc_73_e 3288 = true := by decide +kernel
set_option maxRecDepth 100000 in
theorem xc_73_1 : xc_73_e.all (xchk1 xVV xc_73_m xc_73_u xc_73 xc_73_e 3288) = true := by decide +kernel
theorem xv_73 {og : Nat → Option zm_C} : xV xVV xX xW og xc_73 := xchk_ok (n := 3288) (MT := xc_73_m) (CT := xc_73_u) (E := xc_73_e) (by
  simp only [xc_73_m, List.forall_mem_cons]
  exact ⟨rfl, rfl, rfl, rfl, rfl, rfl, rfl, rfl, rfl, rfl, rfl, rfl, rfl, fun _ h => by cases h⟩) (by
  simp only [xc_73_u, List.forall_mem_cons]
  exact ⟨xv_69, fun _ h => by cases h⟩) xFl_good xXW_ok xc_73_0 (List.all_eq_true.mp xc_73_1)
