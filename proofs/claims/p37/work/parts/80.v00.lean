/-! The contracts hold, as checked -/
set_option maxRecDepth 100000 in
theorem xc_0_0 : xchk0 xVV xc_0_m xc_0_u xc_0 xc_0_e 65 = true := by decide +kernel
set_option maxRecDepth 100000 in
theorem xc_0_1 : xc_0_e.all (xchk1 xVV xc_0_m xc_0_u xc_0 xc_0_e 65) = true := by decide +kernel
theorem xv_0 {og : Nat → Option zm_C} : xV xVV xX xW og xc_0 := xchk_ok (n := 65) (MT := xc_0_m) (CT := xc_0_u) (E := xc_0_e) (by
  simp only [xc_0_m, List.forall_mem_cons]
  exact ⟨rfl, fun _ h => by cases h⟩) (by
  simp only [xc_0_u, List.forall_mem_cons]
  exact fun _ h => by cases h) xFl_good xXW_ok xc_0_0 (List.all_eq_true.mp xc_0_1)
set_option maxRecDepth 100000 in
theorem xc_1_0 : xchk0 xVV xc_1_m xc_1_u xc_1 xc_1_e 65 = true := by decide +kernel
set_option maxRecDepth 100000 in
theorem xc_1_1 : xc_1_e.all (xchk1 xVV xc_1_m xc_1_u xc_1 xc_1_e 65) = true := by decide +kernel
theorem xv_1 {og : Nat → Option zm_C} : xV xVV xX xW og xc_1 := xchk_ok (n := 65) (MT := xc_1_m) (CT := xc_1_u) (E := xc_1_e) (by
  simp only [xc_1_m, List.forall_mem_cons]
  exact ⟨rfl, fun _ h => by cases h⟩) (by
  simp only [xc_1_u, List.forall_mem_cons]
  exact fun _ h => by cases h) xFl_good xXW_ok xc_1_0 (List.all_eq_true.mp xc_1_1)
set_option maxRecDepth 100000 in
theorem xc_2_0 : xchk0 xVV xc_2_m xc_2_u xc_2 xc_2_e 65 = true := by decide +kernel
set_option maxRecDepth 100000 in
theorem xc_2_1 : xc_2_e.all (xchk1 xVV xc_2_m xc_2_u xc_2 xc_2_e 65) = true := by decide +kernel
theorem xv_2 {og : Nat → Option zm_C} : xV xVV xX xW og xc_2 := xchk_ok (n := 65) (MT := xc_2_m) (CT := xc_2_u) (E := xc_2_e) (by
  simp only [xc_2_m, List.forall_mem_cons]
  exact ⟨rfl, fun _ h => by cases h⟩) (by
  simp only [xc_2_u, List.forall_mem_cons]
  exact fun _ h => by cases h) xFl_good xXW_ok xc_2_0 (List.all_eq_true.mp xc_2_1)
set_option maxRecDepth 100000 in
theorem xc_3_0 : xchk0 xVV xc_3_m xc_3_u xc_3 xc_3_e 65 = true := by decide +kernel
set_option maxRecDepth 100000 in
theorem xc_3_1 : xc_3_e.all (xchk1 xVV xc_3_m xc_3_u xc_3 xc_3_e 65) = true := by decide +kernel
theorem xv_3 {og : Nat → Option zm_C} : xV xVV xX xW og xc_3 := xchk_ok (n := 65) (MT := xc_3_m) (CT := xc_3_u) (E := xc_3_e) (by
  simp only [xc_3_m, List.forall_mem_cons]
  exact ⟨rfl, fun _ h => by cases h⟩) (by
  simp only [xc_3_u, List.forall_mem_cons]
  exact fun _ h => by cases h) xFl_good xXW_ok xc_3_0 (List.all_eq_true.mp xc_3_1)
set_option maxRecDepth 100000 in
theorem xc_4_0 : xchk0 xVV xc_4_m xc_4_u xc_4 xc_4_e 65 = true := by decide +kernel
set_option maxRecDepth 100000 in
theorem xc_4_1 : xc_4_e.all (xchk1 xVV xc_4_m xc_4_u xc_4 xc_4_e 65) = true := by decide +kernel
theorem xv_4 {og : Nat → Option zm_C} : xV xVV xX xW og xc_4 := xchk_ok (n := 65) (MT := xc_4_m) (CT := xc_4_u) (E := xc_4_e) (by
  simp only [xc_4_m, List.forall_mem_cons]
  exact ⟨rfl, fun _ h => by cases h⟩) (by
  simp only [xc_4_u, List.forall_mem_cons]
  exact fun _ h => by cases h) xFl_good xXW_ok xc_4_0 (List.all_eq_true.mp xc_4_1)
set_option maxRecDepth 100000 in
theorem xc_5_0 : xchk0 xVV xc_5_m xc_5_u xc_5 xc_5_e 65 = true := by decide +kernel
set_option maxRecDepth 100000 in
theorem xc_5_1 : xc_5_e.all (xchk1 xVV xc_5_m xc_5_u xc_5 xc_5_e 65) = true := by decide +kernel
theorem xv_5 {og : Nat → Option zm_C} : xV xVV xX xW og xc_5 := xchk_ok (n := 65) (MT := xc_5_m) (CT := xc_5_u) (E := xc_5_e) (by
  simp only [xc_5_m, List.forall_mem_cons]
  exact ⟨rfl, fun _ h => by cases h⟩) (by
  simp only [xc_5_u, List.forall_mem_cons]
  exact fun _ h => by cases h) xFl_good xXW_ok xc_5_0 (List.all_eq_true.mp xc_5_1)
set_option maxRecDepth 100000 in
theorem xc_6_0 : xchk0 xVV xc_6_m xc_6_u xc_6 xc_6_e 65 = true := by decide +kernel
set_option maxRecDepth 100000 in
theorem xc_6_1 : xc_6_e.all (xchk1 xVV xc_6_m xc_6_u xc_6 xc_6_e 65) = true := by decide +kernel
theorem xv_6 {og : Nat → Option zm_C} : xV xVV xX xW og xc_6 := xchk_ok (n := 65) (MT := xc_6_m) (CT := xc_6_u) (E := xc_6_e) (by
  simp only [xc_6_m, List.forall_mem_cons]
  exact ⟨rfl, fun _ h => by cases h⟩) (by
  simp only [xc_6_u, List.forall_mem_cons]
  exact fun _ h => by cases h) xFl_good xXW_ok xc_6_0 (List.all_eq_true.mp xc_6_1)
set_option maxRecDepth 100000 in
theorem xc_7_0 : xchk0 xVV xc_7_m xc_7_u xc_7 xc_7_e 65 = true := by decide +kernel
set_option maxRecDepth 100000 in
theorem xc_7_1 : xc_7_e.all (xchk1 xVV xc_7_m xc_7_u xc_7 xc_7_e 65) = true := by decide +kernel
theorem xv_7 {og : Nat → Option zm_C} : xV xVV xX xW og xc_7 := xchk_ok (n := 65) (MT := xc_7_m) (CT := xc_7_u) (E := xc_7_e) (by
  simp only [xc_7_m, List.forall_mem_cons]
  exact ⟨rfl, fun _ h => by cases h⟩) (by
  simp only [xc_7_u, List.forall_mem_cons]
  exact fun _ h => by cases h) xFl_good xXW_ok xc_7_0 (List.all_eq_true.mp xc_7_1)
set_option maxRecDepth 100000 in
theorem xc_8_0 : xchk0 xVV xc_8_m xc_8_u xc_8 xc_8_e 65 = true := by decide +kernel
set_option maxRecDepth 100000 in
theorem xc_8_1 : xc_8_e.all (xchk1 xVV xc_8_m xc_8_u xc_8 xc_8_e 65) = true := by decide +kernel
theorem xv_8 {og : Nat → Option zm_C} : xV xVV xX xW og xc_8 := xchk_ok (n := 65) (MT := xc_8_m) (CT := xc_8_u) (E := xc_8_e) (by
  simp only [xc_8_m, List.forall_mem_cons]
  exact ⟨rfl, fun _ h => by cases h⟩) (by
  simp only [xc_8_u, List.forall_mem_cons]
  exact fun _ h => by cases h) xFl_good xXW_ok xc_8_0 (List.all_eq_true.mp xc_8_1)
set_option maxRecDepth 100000 in
theorem xc_9_0 : xchk0 xVV xc_9_m xc_9_u xc_9 xc_9_e 84 = true := by decide +kernel
set_option maxRecDepth 100000 in
theorem xc_9_1 : xc_9_e.all (xchk1 xVV xc_9_m xc_9_u xc_9 xc_9_e 84) = true := by decide +kernel
theorem xv_9 {og : Nat → Option zm_C} : xV xVV xX xW og xc_9 := xchk_ok (n := 84) (MT := xc_9_m) (CT := xc_9_u) (E := xc_9_e) (by
  simp only [xc_9_m, List.forall_mem_cons]
  exact ⟨rfl, fun _ h => by cases h⟩) (by
  simp only [xc_9_u, List.forall_mem_cons]
  exact fun _ h => by cases h) xFl_good xXW_ok xc_9_0 (List.all_eq_true.mp xc_9_1)
set_option maxRecDepth 100000 in
theorem xc_10_0 : xchk0 xVV xc_10_m xc_10_u xc_10 xc_10_e 124 = true := by decide +kernel
set_option maxRecDepth 100000 in
theorem xc_10_1 : xc_10_e.all (xchk1 xVV xc_10_m xc_10_u xc_10 xc_10_e 124) = true := by decide +kernel
theorem xv_10 {og : Nat → Option zm_C} : xV xVV xX xW og xc_10 := xchk_ok (n := 124) (MT := xc_10_m) (CT := xc_10_u) (E := xc_10_e) (by
  simp only [xc_10_m, List.forall_mem_cons]
  exact ⟨rfl, rfl, fun _ h => by cases h⟩) (by
  simp only [xc_10_u, List.forall_mem_cons]
  exact ⟨xv_9, fun _ h => by cases h⟩) xFl_good xXW_ok xc_10_0 (List.all_eq_true.mp xc_10_1)
set_option maxRecDepth 100000 in
theorem xc_11_0 : xchk0 xVV xc_11_m xc_11_u xc_11 xc_11_e 77 = true := by decide +kernel
set_option maxRecDepth 100000 in
theorem xc_11_1 : xc_11_e.all (xchk1 xVV xc_11_m xc_11_u xc_11 xc_11_e 77) = true := by decide +kernel
theorem xv_11 {og : Nat → Option zm_C} : xV xVV xX xW og xc_11 := xchk_ok (n := 77) (MT := xc_11_m) (CT := xc_11_u) (E := xc_11_e) (by
  simp only [xc_11_m, List.forall_mem_cons]
  exact ⟨rfl, fun _ h => by cases h⟩) (by
  simp only [xc_11_u, List.forall_mem_cons]
  exact fun _ h => by cases h) xFl_good xXW_ok xc_11_0 (List.all_eq_true.mp xc_11_1)
set_option maxRecDepth 100000 in
theorem xc_12_0 : xchk0 xVV xc_12_m xc_12_u xc_12 xc_12_e 84 = true := by decide +kernel
set_option maxRecDepth 100000 in
theorem xc_12_1 : xc_12_e.all (xchk1 xVV xc_12_m xc_12_u xc_12 xc_12_e 84) = true := by decide +kernel
theorem xv_12 {og : Nat → Option zm_C} : xV xVV xX xW og xc_12 := xchk_ok (n := 84) (MT := xc_12_m) (CT := xc_12_u) (E := xc_12_e) (by
  simp only [xc_12_m, List.forall_mem_cons]
  exact ⟨rfl, rfl, rfl, fun _ h => by cases h⟩) (by
  simp only [xc_12_u, List.forall_mem_cons]
  exact ⟨xv_901, xv_900, fun _ h => by cases h⟩) xFl_good xXW_ok xc_12_0 (List.all_eq_true.mp xc_12_1)
set_option maxRecDepth 100000 in
theorem xc_13_0 : xchk0 xVV xc_13_m xc_13_u xc_13 xc_13_e 225 = true := by decide +kernel
set_option maxRecDepth 100000 in
theorem xc_13_1 : xc_13_e.all (xchk1 xVV xc_13_m xc_13_u xc_13 xc_13_e 225) = true := by decide +kernel
theorem xv_13 {og : Nat → Option zm_C} : xV xVV xX xW og xc_13 := xchk_ok (n := 225) (MT := xc_13_m) (CT := xc_13_u) (E := xc_13_e) (by
  simp only [xc_13_m, List.forall_mem_cons]
  exact ⟨rfl, rfl, fun _ h => by cases h⟩) (by
  simp only [xc_13_u, List.forall_mem_cons]
  exact fun _ h => by cases h) xFl_good xXW_ok xc_13_0 (List.all_eq_true.mp xc_13_1)
set_option maxRecDepth 100000 in
theorem xc_14_0 : xchk0 xVV xc_14_m xc_14_u xc_14 xc_14_e 136 = true := by decide +kernel
set_option maxRecDepth 100000 in
theorem xc_14_1 : xc_14_e.all (xchk1 xVV xc_14_m xc_14_u xc_14 xc_14_e 136) = true := by decide +kernel
theorem xv_14 {og : Nat → Option zm_C} : xV xVV xX xW og xc_14 := xchk_ok (n := 136) (MT := xc_14_m) (CT := xc_14_u) (E := xc_14_e) (by
  simp only [xc_14_m, List.forall_mem_cons]
  exact ⟨rfl, rfl, rfl, fun _ h => by cases h⟩) (by
  simp only [xc_14_u, List.forall_mem_cons]
  exact ⟨xv_13, fun _ h => by cases h⟩) xFl_good xXW_ok xc_14_0 (List.all_eq_true.mp xc_14_1)
set_option maxRecDepth 100000 in
theorem xc_15_0 : xchk0 xVV xc_15_m xc_15_u xc_15 xc_15_e 112 = true := by decide +kernel
set_option maxRecDepth 100000 in
theorem xc_15_1 : xc_15_e.all (xchk1 xVV xc_15_m xc_15_u xc_15 xc_15_e 112) = true := by decide +kernel
theorem xv_15 {og : Nat → Option zm_C} : xV xVV xX xW og xc_15 := xchk_ok (n := 112) (MT := xc_15_m) (CT := xc_15_u) (E := xc_15_e) (by
  simp only [xc_15_m, List.forall_mem_cons]
  exact ⟨rfl, fun _ h => by cases h⟩) (by
  simp only [xc_15_u, List.forall_mem_cons]
  exact fun _ h => by cases h) xFl_good xXW_ok xc_15_0 (List.all_eq_true.mp xc_15_1)
set_option maxRecDepth 100000 in
theorem xc_16_0 : xchk0 xVV xc_16_m xc_16_u xc_16 xc_16_e 316 = true := by decide +kernel
set_option maxRecDepth 100000 in
theorem xc_16_1 : xc_16_e.all (xchk1 xVV xc_16_m xc_16_u xc_16 xc_16_e 316) = true := by decide +kernel
theorem xv_16 {og : Nat → Option zm_C} : xV xVV xX xW og xc_16 := xchk_ok (n := 316) (MT := xc_16_m) (CT := xc_16_u) (E := xc_16_e) (by
  simp only [xc_16_m, List.forall_mem_cons]
  exact ⟨rfl, rfl, fun _ h => by cases h⟩) (by
  simp only [xc_16_u, List.forall_mem_cons]
  exact fun _ h => by cases h) xFl_good xXW_ok xc_16_0 (List.all_eq_true.mp xc_16_1)
set_option maxRecDepth 100000 in
theorem xc_17_0 : xchk0 xVV xc_17_m xc_17_u xc_17 xc_17_e 286 = true := by decide +kernel
set_option maxRecDepth 100000 in
theorem xc_17_1 : xc_17_e.all (xchk1 xVV xc_17_m xc_17_u xc_17 xc_17_e 286) = true := by decide +kernel
theorem xv_17 {og : Nat → Option zm_C} : xV xVV xX xW og xc_17 := xchk_ok (n := 286) (MT := xc_17_m) (CT := xc_17_u) (E := xc_17_e) (by
  simp only [xc_17_m, List.forall_mem_cons]
  exact ⟨rfl, rfl, rfl, rfl, rfl, rfl, rfl, fun _ h => by cases h⟩) (by
  simp only [xc_17_u, List.forall_mem_cons]
  exact ⟨xv_16, xv_0, fun _ h => by cases h⟩) xFl_good xXW_ok xc_17_0 (List.all_eq_true.mp xc_17_1)
set_option maxRecDepth 100000 in
theorem xc_18_0 : xchk0 xVV xc_18_m xc_18_u xc_18 xc_18_e 173 = true := by decide +kernel
set_option maxRecDepth 100000 in
theorem xc_18_1 : xc_18_e.all (xchk1 xVV xc_18_m xc_18_u xc_18 xc_18_e 173) = true := by decide +kernel
theorem xv_18 {og : Nat → Option zm_C} : xV xVV xX xW og xc_18 := xchk_ok (n := 173) (MT := xc_18_m) (CT := xc_18_u) (E := xc_18_e) (by
  simp only [xc_18_m, List.forall_mem_cons]
  exact ⟨rfl, rfl, rfl, rfl, rfl, fun _ h => by cases h⟩) (by
  simp only [xc_18_u, List.forall_mem_cons]
  exact ⟨xv_16, xv_0, fun _ h => by cases h⟩) xFl_good xXW_ok xc_18_0 (List.all_eq_true.mp xc_18_1)
set_option maxRecDepth 100000 in
theorem xc_19_0 : xchk0 xVV xc_19_m xc_19_u xc_19 xc_19_e 83 = true := by decide +kernel
set_option maxRecDepth 100000 in
theorem xc_19_1 : xc_19_e.all (xchk1 xVV xc_19_m xc_19_u xc_19 xc_19_e 83) = true := by decide +kernel
theorem xv_19 {og : Nat → Option zm_C} : xV xVV xX xW og xc_19 := xchk_ok (n := 83) (MT := xc_19_m) (CT := xc_19_u) (E := xc_19_e) (by
  simp only [xc_19_m, List.forall_mem_cons]
  exact ⟨rfl, rfl, fun _ h => by cases h⟩) (by
  simp only [xc_19_u, List.forall_mem_cons]
  exact ⟨xv_17, fun _ h => by cases h⟩) xFl_good xXW_ok xc_19_0 (List.all_eq_true.mp xc_19_1)
set_option maxRecDepth 100000 in
theorem xc_20_0 : xchk0 xVV xc_20_m xc_20_u xc_20 xc_20_e 452 = true := by decide +kernel
set_option maxRecDepth 100000 in
theorem xc_20_1 : xc_20_e.all (xchk1 xVV xc_20_m xc_20_u xc_20 xc_20_e 452) = true := by decide +kernel
theorem xv_20 {og : Nat → Option zm_C} : xV xVV xX xW og xc_20 := xchk_ok (n := 452) (MT := xc_20_m) (CT := xc_20_u) (E := xc_20_e) (by
  simp only [xc_20_m, List.forall_mem_cons]
  exact ⟨rfl, rfl, rfl, rfl, rfl, fun _ h => by cases h⟩) (by
  simp only [xc_20_u, List.forall_mem_cons]
  exact ⟨xv_18, xv_16, fun _ h => by cases h⟩) xFl_good xXW_ok xc_20_0 (List.all_eq_true.mp xc_20_1)
set_option maxRecDepth 100000 in
theorem xc_21_0 : xchk0 xVV xc_21_m xc_21_u xc_21 xc_21_e 164 = true := by decide +kernel
set_option maxRecDepth 100000 in
theorem xc_21_1 : xc_21_e.all (xchk1 xVV xc_21_m xc_21_u xc_21 xc_21_e 164) = true := by decide +kernel
theorem xv_21 {og : Nat → Option zm_C} : xV xVV xX xW og xc_21 := xchk_ok (n := 164) (MT := xc_21_m) (CT := xc_21_u) (E := xc_21_e) (by
  simp only [xc_21_m, List.forall_mem_cons]
  exact ⟨rfl, rfl, rfl, rfl, fun _ h => by cases h⟩) (by
  simp only [xc_21_u, List.forall_mem_cons]
  exact ⟨xv_0, fun _ h => by cases h⟩) xFl_good xXW_ok xc_21_0 (List.all_eq_true.mp xc_21_1)
set_option maxRecDepth 100000 in
theorem xc_22_0 : xchk0 xVV xc_22_m xc_22_u xc_22 xc_22_e 114 = true := by decide +kernel
set_option maxRecDepth 100000 in
theorem xc_22_1 : xc_22_e.all (xchk1 xVV xc_22_m xc_22_u xc_22 xc_22_e 114) = true := by decide +kernel
theorem xv_22 {og : Nat → Option zm_C} : xV xVV xX xW og xc_22 := xchk_ok (n := 114) (MT := xc_22_m) (CT := xc_22_u) (E := xc_22_e) (by
  simp only [xc_22_m, List.forall_mem_cons]
  exact ⟨rfl, rfl, rfl, fun _ h => by cases h⟩) (by
  simp only [xc_22_u, List.forall_mem_cons]
  exact ⟨xv_0, fun _ h => by cases h⟩) xFl_good xXW_ok xc_22_0 (List.all_eq_true.mp xc_22_1)
set_option maxRecDepth 100000 in
theorem xc_23_0 : xchk0 xVV xc_23_m xc_23_u xc_23 xc_23_e 83 = true := by decide +kernel
set_option maxRecDepth 100000 in
theorem xc_23_1 : xc_23_e.all (xchk1 xVV xc_23_m xc_23_u xc_23 xc_23_e 83) = true := by decide +kernel
theorem xv_23 {og : Nat → Option zm_C} : xV xVV xX xW og xc_23 := xchk_ok (n := 83) (MT := xc_23_m) (CT := xc_23_u) (E := xc_23_e) (by
  simp only [xc_23_m, List.forall_mem_cons]
  exact ⟨rfl, rfl, fun _ h => by cases h⟩) (by
  simp only [xc_23_u, List.forall_mem_cons]
  exact ⟨xv_21, fun _ h => by cases h⟩) xFl_good xXW_ok xc_23_0 (List.all_eq_true.mp xc_23_1)
set_option maxRecDepth 100000 in
theorem xc_24_0 : xchk0 xVV xc_24_m xc_24_u xc_24 xc_24_e 94 = true := by decide +kernel
set_option maxRecDepth 100000 in
theorem xc_24_1 : xc_24_e.all (xchk1 xVV xc_24_m xc_24_u xc_24 xc_24_e 94) = true := by decide +kernel
theorem xv_24 {og : Nat → Option zm_C} : xV xVV xX xW og xc_24 := xchk_ok (n := 94) (MT := xc_24_m) (CT := xc_24_u) (E := xc_24_e) (by
  simp only [xc_24_m, List.forall_mem_cons]
  exact ⟨rfl, rfl, fun _ h => by cases h⟩) (by
  simp only [xc_24_u, List.forall_mem_cons]
  exact ⟨xv_22, fun _ h => by cases h⟩) xFl_good xXW_ok xc_24_0 (List.all_eq_true.mp xc_24_1)
set_option maxRecDepth 100000 in
theorem xc_25_0 : xchk0 xVV xc_25_m xc_25_u xc_25 xc_25_e 1462 = true := by decide +kernel
set_option maxRecDepth 100000 in
theorem xc_25_1 : xc_25_e.all (xchk1 xVV xc_25_m xc_25_u xc_25 xc_25_e 1462) = true := by decide +kernel
theorem xv_25 {og : Nat → Option zm_C} : xV xVV xX xW og xc_25 := xchk_ok (n := 1462) (MT := xc_25_m) (CT := xc_25_u) (E := xc_25_e) (by
  simp only [xc_25_m, List.forall_mem_cons]
  exact ⟨rfl, rfl, rfl, fun _ h => by cases h⟩) (by
  simp only [xc_25_u, List.forall_mem_cons]
  exact fun _ h => by cases h) xFl_good xXW_ok xc_25_0 (List.all_eq_true.mp xc_25_1)
set_option maxRecDepth 100000 in
theorem xc_26_0 : xchk0 xVV xc_26_m xc_26_u xc_26 xc_26_e 161 = true := by decide +kernel
set_option maxRecDepth 100000 in
theorem xc_26_1 : xc_26_e.all (xchk1 xVV xc_26_m xc_26_u xc_26 xc_26_e 161) = true := by decide +kernel
theorem xv_26 {og : Nat → Option zm_C} : xV xVV xX xW og xc_26 := xchk_ok (n := 161) (MT := xc_26_m) (CT := xc_26_u) (E := xc_26_e) (by
  simp only [xc_26_m, List.forall_mem_cons]
  exact ⟨rfl, rfl, fun _ h => by cases h⟩) (by
  simp only [xc_26_u, List.forall_mem_cons]
  exact fun _ h => by cases h) xFl_good xXW_ok xc_26_0 (List.all_eq_true.mp xc_26_1)
set_option maxRecDepth 100000 in
theorem xc_27_0 : xchk0 xVV xc_27_m xc_27_u xc_27 xc_27_e 100 = true := by decide +kernel
set_option maxRecDepth 100000 in
theorem xc_27_1 : xc_27_e.all (xchk1 xVV xc_27_m xc_27_u xc_27 xc_27_e 100) = true := by decide +kernel
theorem xv_27 {og : Nat → Option zm_C} : xV xVV xX xW og xc_27 := xchk_ok (n := 100) (MT := xc_27_m) (CT := xc_27_u) (E := xc_27_e) (by
  simp only [xc_27_m, List.forall_mem_cons]
  exact ⟨rfl, rfl, fun _ h => by cases h⟩) (by
  simp only [xc_27_u, List.forall_mem_cons]
  exact fun _ h => by cases h) xFl_good xXW_ok xc_27_0 (List.all_eq_true.mp xc_27_1)
set_option maxRecDepth 100000 in
theorem xc_28_0 : xchk0 xVV xc_28_m xc_28_u xc_28 xc_28_e 87 = true := by decide +kernel
set_option maxRecDepth 100000 in
theorem xc_28_1 : xc_28_e.all (xchk1 xVV xc_28_m xc_28_u xc_28 xc_28_e 87) = true := by decide +kernel
theorem xv_28 {og : Nat → Option zm_C} : xV xVV xX xW og xc_28 := xchk_ok (n := 87) (MT := xc_28_m) (CT := xc_28_u) (E := xc_28_e) (by
  simp only [xc_28_m, List.forall_mem_cons]
  exact ⟨rfl, rfl, fun _ h => by cases h⟩) (by
  simp only [xc_28_u, List.forall_mem_cons]
  exact fun _ h => by cases h) xFl_good xXW_ok xc_28_0 (List.all_eq_true.mp xc_28_1)
set_option maxRecDepth 100000 in
theorem xc_29_0 : xchk0 xVV xc_29_m xc_29_u xc_29 xc_29_e 93 = true := by decide +kernel
set_option maxRecDepth 100000 in
theorem xc_29_1 : xc_29_e.all (xchk1 xVV xc_29_m xc_29_u xc_29 xc_29_e 93) = true := by decide +kernel
theorem xv_29 {og : Nat → Option zm_C} : xV xVV xX xW og xc_29 := xchk_ok (n := 93) (MT := xc_29_m) (CT := xc_29_u) (E := xc_29_e) (by
  simp only [xc_29_m, List.forall_mem_cons]
  exact ⟨rfl, fun _ h => by cases h⟩) (by
  simp only [xc_29_u, List.forall_mem_cons]
  exact fun _ h => by cases h) xFl_good xXW_ok xc_29_0 (List.all_eq_true.mp xc_29_1)
set_option maxRecDepth 100000 in
theorem xc_30_0 : xchk0 xVV xc_30_m xc_30_u xc_30 xc_30_e 105 = true := by decide +kernel
set_option maxRecDepth 100000 in
theorem xc_30_1 : xc_30_e.all (xchk1 xVV xc_30_m xc_30_u xc_30 xc_30_e 105) = true := by decide +kernel
theorem xv_30 {og : Nat → Option zm_C} : xV xVV xX xW og xc_30 := xchk_ok (n := 105) (MT := xc_30_m) (CT := xc_30_u) (E := xc_30_e) (by
  simp only [xc_30_m, List.forall_mem_cons]
  exact ⟨rfl, rfl, fun _ h => by cases h⟩) (by
  simp only [xc_30_u, List.forall_mem_cons]
  exact fun _ h => by cases h) xFl_good xXW_ok xc_30_0 (List.all_eq_true.mp xc_30_1)
set_option maxRecDepth 100000 in
theorem xc_31_0 : xchk0 xVV xc_31_m xc_31_u xc_31 xc_31_e 131 = true := by decide +kernel
set_option maxRecDepth 100000 in
theorem xc_31_1 : xc_31_e.all (xchk1 xVV xc_31_m xc_31_u xc_31 xc_31_e 131) = true := by decide +kernel
theorem xv_31 {og : Nat → Option zm_C} : xV xVV xX xW og xc_31 := xchk_ok (n := 131) (MT := xc_31_m) (CT := xc_31_u) (E := xc_31_e) (by
  simp only [xc_31_m, List.forall_mem_cons]
  exact ⟨rfl, rfl, rfl, rfl, rfl, fun _ h => by cases h⟩) (by
  simp only [xc_31_u, List.forall_mem_cons]
  exact ⟨xv_30, xv_26, fun _ h => by cases h⟩) xFl_good xXW_ok xc_31_0 (List.all_eq_true.mp xc_31_1)
set_option maxRecDepth 100000 in
theorem xc_32_0 : xchk0 xVV xc_32_m xc_32_u xc_32 xc_32_e 74 = true := by decide +kernel
set_option maxRecDepth 100000 in
theorem xc_32_1 : xc_32_e.all (xchk1 xVV xc_32_m xc_32_u xc_32 xc_32_e 74) = true := by decide +kernel
theorem xv_32 {og : Nat → Option zm_C} : xV xVV xX xW og xc_32 := xchk_ok (n := 74) (MT := xc_32_m) (CT := xc_32_u) (E := xc_32_e) (by
  simp only [xc_32_m, List.forall_mem_cons]
  exact ⟨rfl, fun _ h => by cases h⟩) (by
  simp only [xc_32_u, List.forall_mem_cons]
  exact fun _ h => by cases h) xFl_good xXW_ok xc_32_0 (List.all_eq_true.mp xc_32_1)
set_option maxRecDepth 100000 in
theorem xc_33_0 : xchk0 xVV xc_33_m xc_33_u xc_33 xc_33_e 145 = true := by decide +kernel
set_option maxRecDepth 100000 in
theorem xc_33_1 : xc_33_e.all (xchk1 xVV xc_33_m xc_33_u xc_33 xc_33_e 145) = true := by decide +kernel
theorem xv_33 {og : Nat → Option zm_C} : xV xVV xX xW og xc_33 := xchk_ok (n := 145) (MT := xc_33_m) (CT := xc_33_u) (E := xc_33_e) (by
  simp only [xc_33_m, List.forall_mem_cons]
  exact ⟨rfl, rfl, rfl, rfl, fun _ h => by cases h⟩) (by
  simp only [xc_33_u, List.forall_mem_cons]
  exact ⟨xv_32, xv_20, xv_18, fun _ h => by cases h⟩) xFl_good xXW_ok xc_33_0 (List.all_eq_true.mp xc_33_1)
set_option maxRecDepth 100000 in
theorem xc_34_0 : xchk0 xVV xc_34_m xc_34_u xc_34 xc_34_e 130 = true := by decide +kernel
set_option maxRecDepth 100000 in
theorem xc_34_1 : xc_34_e.all (xchk1 xVV xc_34_m xc_34_u xc_34 xc_34_e 130) = true := by decide +kernel
theorem xv_34 {og : Nat → Option zm_C} : xV xVV xX xW og xc_34 := xchk_ok (n := 130) (MT := xc_34_m) (CT := xc_34_u) (E := xc_34_e) (by
  simp only [xc_34_m, List.forall_mem_cons]
  exact ⟨rfl, rfl, rfl, rfl, fun _ h => by cases h⟩) (by
  simp only [xc_34_u, List.forall_mem_cons]
  exact ⟨xv_32, xv_24, xv_22, fun _ h => by cases h⟩) xFl_good xXW_ok xc_34_0 (List.all_eq_true.mp xc_34_1)
set_option maxRecDepth 100000 in
theorem xc_35_0 : xchk0 xVV xc_35_m xc_35_u xc_35 xc_35_e 164 = true := by decide +kernel
set_option maxRecDepth 100000 in
theorem xc_35_1 : xc_35_e.all (xchk1 xVV xc_35_m xc_35_u xc_35 xc_35_e 164) = true := by decide +kernel
theorem xv_35 {og : Nat → Option zm_C} : xV xVV xX xW og xc_35 := xchk_ok (n := 164) (MT := xc_35_m) (CT := xc_35_u) (E := xc_35_e) (by
  simp only [xc_35_m, List.forall_mem_cons]
  exact ⟨rfl, rfl, rfl, rfl, rfl, rfl, rfl, rfl, fun _ h => by cases h⟩) (by
  simp only [xc_35_u, List.forall_mem_cons]
  exact ⟨xv_34, xv_33, xv_23, xv_19, xv_15, xv_13, fun _ h => by cases h⟩) xFl_good xXW_ok xc_35_0 (List.all_eq_true.mp xc_35_1)
set_option maxRecDepth 100000 in
theorem xc_36_0 : xchk0 xVV xc_36_m xc_36_u xc_36 xc_36_e 89 = true := by decide +kernel
set_option maxRecDepth 100000 in
theorem xc_36_1 : xc_36_e.all (xchk1 xVV xc_36_m xc_36_u xc_36 xc_36_e 89) = true := by decide +kernel
theorem xv_36 {og : Nat → Option zm_C} : xV xVV xX xW og xc_36 := xchk_ok (n := 89) (MT := xc_36_m) (CT := xc_36_u) (E := xc_36_e) (by
  simp only [xc_36_m, List.forall_mem_cons]
  exact ⟨rfl, fun _ h => by cases h⟩) (by
  simp only [xc_36_u, List.forall_mem_cons]
  exact fun _ h => by cases h) xFl_good xXW_ok xc_36_0 (List.all_eq_true.mp xc_36_1)
set_option maxRecDepth 100000 in
theorem xc_37_0 : xchk0 xVV xc_37_m xc_37_u xc_37 xc_37_e 88 = true := by decide +kernel
set_option maxRecDepth 100000 in
theorem xc_37_1 : xc_37_e.all (xchk1 xVV xc_37_m xc_37_u xc_37 xc_37_e 88) = true := by decide +kernel
theorem xv_37 {og : Nat → Option zm_C} : xV xVV xX xW og xc_37 := xchk_ok (n := 88) (MT := xc_37_m) (CT := xc_37_u) (E := xc_37_e) (by
  simp only [xc_37_m, List.forall_mem_cons]
  exact ⟨rfl, rfl, fun _ h => by cases h⟩) (by
  simp only [xc_37_u, List.forall_mem_cons]
  exact ⟨xv_6, fun _ h => by cases h⟩) xFl_good xXW_ok xc_37_0 (List.all_eq_true.mp xc_37_1)
set_option maxRecDepth 100000 in
theorem xc_38_0 : xchk0 xVV xc_38_m xc_38_u xc_38 xc_38_e 82 = true := by decide +kernel
set_option maxRecDepth 100000 in
theorem xc_38_1 : xc_38_e.all (xchk1 xVV xc_38_m xc_38_u xc_38 xc_38_e 82) = true := by decide +kernel
theorem xv_38 {og : Nat → Option zm_C} : xV xVV xX xW og xc_38 := xchk_ok (n := 82) (MT := xc_38_m) (CT := xc_38_u) (E := xc_38_e) (by
  simp only [xc_38_m, List.forall_mem_cons]
  exact ⟨rfl, rfl, fun _ h => by cases h⟩) (by
  simp only [xc_38_u, List.forall_mem_cons]
  exact fun _ h => by cases h) xFl_good xXW_ok xc_38_0 (List.all_eq_true.mp xc_38_1)
set_option maxRecDepth 100000 in
theorem xc_39_0 : xchk0 xVV xc_39_m xc_39_u xc_39 xc_39_e 179 = true := by decide +kernel
set_option maxRecDepth 100000 in
theorem xc_39_1 : xc_39_e.all (xchk1 xVV xc_39_m xc_39_u xc_39 xc_39_e 179) = true := by decide +kernel
theorem xv_39 {og : Nat → Option zm_C} : xV xVV xX xW og xc_39 := xchk_ok (n := 179) (MT := xc_39_m) (CT := xc_39_u) (E := xc_39_e) (by
  simp only [xc_39_m, List.forall_mem_cons]
  exact ⟨rfl, rfl, fun _ h => by cases h⟩) (by
  simp only [xc_39_u, List.forall_mem_cons]
  exact fun _ h => by cases h) xFl_good xXW_ok xc_39_0 (List.all_eq_true.mp xc_39_1)
set_option maxRecDepth 100000 in
theorem xc_40_0 : xchk0 xVV xc_40_m xc_40_u xc_40 xc_40_e 227 = true := by decide +kernel
set_option maxRecDepth 100000 in
theorem xc_40_1 : xc_40_e.all (xchk1 xVV xc_40_m xc_40_u xc_40 xc_40_e 227) = true := by decide +kernel
theorem xv_40 {og : Nat → Option zm_C} : xV xVV xX xW og xc_40 := xchk_ok (n := 227) (MT := xc_40_m) (CT := xc_40_u) (E := xc_40_e) (by
  simp only [xc_40_m, List.forall_mem_cons]
  exact ⟨rfl, rfl, rfl, fun _ h => by cases h⟩) (by
  simp only [xc_40_u, List.forall_mem_cons]
  exact ⟨xv_6, fun _ h => by cases h⟩) xFl_good xXW_ok xc_40_0 (List.all_eq_true.mp xc_40_1)
set_option maxRecDepth 100000 in
theorem xc_41_0 : xchk0 xVV xc_41_m xc_41_u xc_41 xc_41_e 106 = true := by decide +kernel
set_option maxRecDepth 100000 in
theorem xc_41_1 : xc_41_e.all (xchk1 xVV xc_41_m xc_41_u xc_41 xc_41_e 106) = true := by decide +kernel
theorem xv_41 {og : Nat → Option zm_C} : xV xVV xX xW og xc_41 := xchk_ok (n := 106) (MT := xc_41_m) (CT := xc_41_u) (E := xc_41_e) (by
  simp only [xc_41_m, List.forall_mem_cons]
  exact ⟨rfl, fun _ h => by cases h⟩) (by
  simp only [xc_41_u, List.forall_mem_cons]
  exact fun _ h => by cases h) xFl_good xXW_ok xc_41_0 (List.all_eq_true.mp xc_41_1)
set_option maxRecDepth 100000 in
theorem xc_42_0 : xchk0 xVV xc_42_m xc_42_u xc_42 xc_42_e 196 = true := by decide +kernel
set_option maxRecDepth 100000 in
theorem xc_42_1 : xc_42_e.all (xchk1 xVV xc_42_m xc_42_u xc_42 xc_42_e 196) = true := by decide +kernel
theorem xv_42 {og : Nat → Option zm_C} : xV xVV xX xW og xc_42 := xchk_ok (n := 196) (MT := xc_42_m) (CT := xc_42_u) (E := xc_42_e) (by
  simp only [xc_42_m, List.forall_mem_cons]
  exact ⟨rfl, rfl, rfl, fun _ h => by cases h⟩) (by
  simp only [xc_42_u, List.forall_mem_cons]
  exact ⟨xv_41, fun _ h => by cases h⟩) xFl_good xXW_ok xc_42_0 (List.all_eq_true.mp xc_42_1)
set_option maxRecDepth 100000 in
theorem xc_43_0 : xchk0 xVV xc_43_m xc_43_u xc_43 xc_43_e 128 = true := by decide +kernel
set_option maxRecDepth 100000 in
theorem xc_43_1 : xc_43_e.all (xchk1 xVV xc_43_m xc_43_u xc_43 xc_43_e 128) = true := by decide +kernel
theorem xv_43 {og : Nat → Option zm_C} : xV xVV xX xW og xc_43 := xchk_ok (n := 128) (MT := xc_43_m) (CT := xc_43_u) (E := xc_43_e) (by
  simp only [xc_43_m, List.forall_mem_cons]
  exact ⟨rfl, fun _ h => by cases h⟩) (by
  simp only [xc_43_u, List.forall_mem_cons]
  exact fun _ h => by cases h) xFl_good xXW_ok xc_43_0 (List.all_eq_true.mp xc_43_1)
set_option maxRecDepth 100000 in
theorem xc_44_0 : xchk0 xVV xc_44_m xc_44_u xc_44 xc_44_e 117 = true := by decide +kernel
set_option maxRecDepth 100000 in
theorem xc_44_1 : xc_44_e.all (xchk1 xVV xc_44_m xc_44_u xc_44 xc_44_e 117) = true := by decide +kernel
theorem xv_44 {og : Nat → Option zm_C} : xV xVV xX xW og xc_44 := xchk_ok (n := 117) (MT := xc_44_m) (CT := xc_44_u) (E := xc_44_e) (by
  simp only [xc_44_m, List.forall_mem_cons]
  exact ⟨rfl, fun _ h => by cases h⟩) (by
  simp only [xc_44_u, List.forall_mem_cons]
  exact fun _ h => by cases h) xFl_good xXW_ok xc_44_0 (List.all_eq_true.mp xc_44_1)
set_option maxRecDepth 100000 in
theorem xc_45_0 : xchk0 xVV xc_45_m xc_45_u xc_45 xc_45_e 239 = true := by decide +kernel
set_option maxRecDepth 100000 in
theorem xc_45_1 : xc_45_e.all (xchk1 xVV xc_45_m xc_45_u xc_45 xc_45_e 239) = true := by decide +kernel
theorem xv_45 {og : Nat → Option zm_C} : xV xVV xX xW og xc_45 := xchk_ok (n := 239) (MT := xc_45_m) (CT := xc_45_u) (E := xc_45_e) (by
  simp only [xc_45_m, List.forall_mem_cons]
  exact ⟨rfl, rfl, fun _ h => by cases h⟩) (by
  simp only [xc_45_u, List.forall_mem_cons]
  exact fun _ h => by cases h) xFl_good xXW_ok xc_45_0 (List.all_eq_true.mp xc_45_1)
set_option maxRecDepth 100000 in
theorem xc_46_0 : xchk0 xVV xc_46_m xc_46_u xc_46 xc_46_e 767 = true := by decide +kernel
set_option maxRecDepth 100000 in
theorem xc_46_1 : xc_46_e.all (xchk1 xVV xc_46_m xc_46_u xc_46 xc_46_e 767) = true := by decide +kernel
theorem xv_46 {og : Nat → Option zm_C} : xV xVV xX xW og xc_46 := xchk_ok (n := 767) (MT := xc_46_m) (CT := xc_46_u) (E := xc_46_e) (by
  simp only [xc_46_m, List.forall_mem_cons]
  exact ⟨rfl, rfl, rfl, fun _ h => by cases h⟩) (by
  simp only [xc_46_u, List.forall_mem_cons]
  exact ⟨xv_20, xv_17, fun _ h => by cases h⟩) xFl_good xXW_ok xc_46_0 (List.all_eq_true.mp xc_46_1)
set_option maxRecDepth 100000 in
theorem xc_47_0 : xchk0 xVV xc_47_m xc_47_u xc_47 xc_47_e 767 = true := by decide +kernel
set_option maxRecDepth 100000 in
theorem xc_47_1 : xc_47_e.all (xchk1 xVV xc_47_m xc_47_u xc_47 xc_47_e 767) = true := by decide +kernel
theorem xv_47 {og : Nat → Option zm_C} : xV xVV xX xW og xc_47 := xchk_ok (n := 767) (MT := xc_47_m) (CT := xc_47_u) (E := xc_47_e) (by
  simp only [xc_47_m, List.forall_mem_cons]
  exact ⟨rfl, rfl, rfl, fun _ h => by cases h⟩) (by
  simp only [xc_47_u, List.forall_mem_cons]
  exact ⟨xv_24, xv_21, fun _ h => by cases h⟩) xFl_good xXW_ok xc_47_0 (List.all_eq_true.mp xc_47_1)
