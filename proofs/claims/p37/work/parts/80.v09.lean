/-! The contracts hold, as checked -/
set_option maxRecDepth 100000 in
theorem xc_164_0 : xchk0 xVV xc_164_m xc_164_u xc_164 xc_164_e 137 = true := by decide +kernel
set_option maxRecDepth 100000 in
theorem xc_164_1 : xc_164_e.all (xchk1 xVV xc_164_m xc_164_u xc_164 xc_164_e 137) = true := by decide +kernel
theorem xv_164 {og : Nat → Option zm_C} : xV xVV xX xW og xc_164 := xchk_ok (n := 137) (MT := xc_164_m) (CT := xc_164_u) (E := xc_164_e) (by
  simp only [xc_164_m, List.forall_mem_cons]
  exact ⟨rfl, rfl, rfl, rfl, rfl, fun _ h => by cases h⟩) (by
  simp only [xc_164_u, List.forall_mem_cons]
  exact ⟨xv_3, fun _ h => by cases h⟩) xFl_good xXW_ok xc_164_0 (List.all_eq_true.mp xc_164_1)
set_option maxRecDepth 100000 in
theorem xc_165_0 : xchk0 xVV xc_165_m xc_165_u xc_165 xc_165_e 106 = true := by decide +kernel
set_option maxRecDepth 100000 in
theorem xc_165_1 : xc_165_e.all (xchk1 xVV xc_165_m xc_165_u xc_165 xc_165_e 106) = true := by decide +kernel
theorem xv_165 {og : Nat → Option zm_C} : xV xVV xX xW og xc_165 := xchk_ok (n := 106) (MT := xc_165_m) (CT := xc_165_u) (E := xc_165_e) (by
  simp only [xc_165_m, List.forall_mem_cons]
  exact ⟨rfl, rfl, rfl, rfl, fun _ h => by cases h⟩) (by
  simp only [xc_165_u, List.forall_mem_cons]
  exact fun _ h => by cases h) xFl_good xXW_ok xc_165_0 (List.all_eq_true.mp xc_165_1)
set_option maxRecDepth 100000 in
theorem xc_166_0 : xchk0 xVV xc_166_m xc_166_u xc_166 xc_166_e 171 = true := by decide +kernel
set_option maxRecDepth 100000 in
theorem xc_166_1 : xc_166_e.all (xchk1 xVV xc_166_m xc_166_u xc_166 xc_166_e 171) = true := by decide +kernel
theorem xv_166 {og : Nat → Option zm_C} : xV xVV xX xW og xc_166 := xchk_ok (n := 171) (MT := xc_166_m) (CT := xc_166_u) (E := xc_166_e) (by
  simp only [xc_166_m, List.forall_mem_cons]
  exact ⟨rfl, rfl, rfl, rfl, rfl, fun _ h => by cases h⟩) (by
  simp only [xc_166_u, List.forall_mem_cons]
  exact fun _ h => by cases h) xFl_good xXW_ok xc_166_0 (List.all_eq_true.mp xc_166_1)
set_option maxRecDepth 100000 in
theorem xc_167_0 : xchk0 xVV xc_167_m xc_167_u xc_167 xc_167_e 254 = true := by decide +kernel
set_option maxRecDepth 100000 in
theorem xc_167_1 : xc_167_e.all (xchk1 xVV xc_167_m xc_167_u xc_167 xc_167_e 254) = true := by decide +kernel
theorem xv_167 {og : Nat → Option zm_C} : xV xVV xX xW og xc_167 := xchk_ok (n := 254) (MT := xc_167_m) (CT := xc_167_u) (E := xc_167_e) (by
  simp only [xc_167_m, List.forall_mem_cons]
  exact ⟨rfl, rfl, rfl, rfl, rfl, fun _ h => by cases h⟩) (by
  simp only [xc_167_u, List.forall_mem_cons]
  exact fun _ h => by cases h) xFl_good xXW_ok xc_167_0 (List.all_eq_true.mp xc_167_1)
set_option maxRecDepth 100000 in
theorem xc_168_0 : xchk0 xVV xc_168_m xc_168_u xc_168 xc_168_e 1951 = true := by decide +kernel
set_option maxRecDepth 100000 in
theorem xc_168_1 : xc_168_e.all (xchk1 xVV xc_168_m xc_168_u xc_168 xc_168_e 1951) = true := by decide +kernel
theorem xv_168 {og : Nat → Option zm_C} : xV xVV xX xW og xc_168 := xchk_ok (n := 1951) (MT := xc_168_m) (CT := xc_168_u) (E := xc_168_e) (by
  simp only [xc_168_m, List.forall_mem_cons]
  exact ⟨rfl, rfl, rfl, rfl, rfl, fun _ h => by cases h⟩) (by
  simp only [xc_168_u, List.forall_mem_cons]
  exact fun _ h => by cases h) xFl_good xXW_ok xc_168_0 (List.all_eq_true.mp xc_168_1)
set_option maxRecDepth 100000 in
theorem xc_169_0 : xchk0 xVV xc_169_m xc_169_u xc_169 xc_169_e 153 = true := by decide +kernel
set_option maxRecDepth 100000 in
theorem xc_169_1 : xc_169_e.all (xchk1 xVV xc_169_m xc_169_u xc_169 xc_169_e 153) = true := by decide +kernel
theorem xv_169 {og : Nat → Option zm_C} : xV xVV xX xW og xc_169 := xchk_ok (n := 153) (MT := xc_169_m) (CT := xc_169_u) (E := xc_169_e) (by
  simp only [xc_169_m, List.forall_mem_cons]
  exact ⟨rfl, rfl, rfl, rfl, fun _ h => by cases h⟩) (by
  simp only [xc_169_u, List.forall_mem_cons]
  exact ⟨xv_901, xv_900, fun _ h => by cases h⟩) xFl_good xXW_ok xc_169_0 (List.all_eq_true.mp xc_169_1)
set_option maxRecDepth 100000 in
theorem xc_170_0 : xchk0 xVV xc_170_m xc_170_u xc_170 xc_170_e 3304 = true := by decide +kernel
set_option maxRecDepth 100000 in
theorem xc_170_1 : xc_170_e.all (xchk1 xVV xc_170_m xc_170_u xc_170 xc_170_e 3304) = true := by decide +kernel
theorem xv_170 {og : Nat → Option zm_C} : xV xVV xX xW og xc_170 := xchk_ok (n := 3304) (MT := xc_170_m) (CT := xc_170_u) (E := xc_170_e) (by
  simp only [xc_170_m, List.forall_mem_cons]
  exact ⟨rfl, rfl, rfl, rfl, rfl, rfl, rfl, rfl, rfl, rfl, rfl, rfl, fun _ h => by cases h⟩) (by
  simp only [xc_170_u, List.forall_mem_cons]
  exact ⟨xv_900, fun _ h => by cases h⟩) xFl_good xXW_ok xc_170_0 (List.all_eq_true.mp xc_170_1)
set_option maxRecDepth 100000 in
theorem xc_171_0 : xchk0 xVV xc_171_m xc_171_u xc_171 xc_171_e 4441 = true := by decide +kernel
set_option maxRecDepth 100000 in
theorem xc_171_1 : xc_171_e.all (xchk1 xVV xc_171_m xc_171_u xc_171 xc_171_e 4441) = true := by decide +kernel
theorem xv_171 {og : Nat → Option zm_C} : xV xVV xX xW og xc_171 := xchk_ok (n := 4441) (MT := xc_171_m) (CT := xc_171_u) (E := xc_171_e) (by
  simp only [xc_171_m, List.forall_mem_cons]
  exact ⟨rfl, rfl, rfl, rfl, rfl, rfl, rfl, rfl, rfl, rfl, rfl, rfl, fun _ h => by cases h⟩) (by
  simp only [xc_171_u, List.forall_mem_cons]
  exact ⟨xv_900, fun _ h => by cases h⟩) xFl_good xXW_ok xc_171_0 (List.all_eq_true.mp xc_171_1)
