/-! What row answers, by its arguments alone (made by a program) -/
def xOE (τ : List Nat) (h : zm_H) (v : Int32) (g : Nat) (r : Option Value) (h' : zm_H) : Prop := r = some (.int v) ∧ ∃ τ', xHI xKT xSG τ' h' ∧ xX τ' h' ∧ xW h' ≤ xW h + g
def xc_1000 : xCo := (173, ([(0, (3, xk 0, 0)), (1, (0, (.ofNat 0, [(0, .ofNat 1)]), 0)), (2, (0, (.ofNat 0, [(1, .ofNat 1)]), 0)), (3, (0, (.ofNat 0, [(2, .ofNat 1)]), 0))], [], ((([(0, .negSucc 2147483647, .negSucc 0), (1, .negSucc 2147483647, .ofNat 2147483647), (2, .negSucc 2147483647, .ofNat 2147483647)], []), 3), [], [], [], 0)), [(some (0, (.ofNat 0, [(3, .ofNat 1)]), 0), ((([(3, .negSucc 1, .negSucc 1)], []), 4), [], [], [], 0))], [], 0, 2)
def xc_1000_e : List xEn := []
def xc_1000_m : List (Nat × zm_M) := [(10, zm_m10), (19, zm_m19), (173, zm_m173)]
def xc_1000_u : List xCo := []
set_option maxRecDepth 100000 in
theorem xc_1000_0 : xchk0 xVV xc_1000_m xc_1000_u xc_1000 xc_1000_e 65 = true := by decide +kernel
set_option maxRecDepth 100000 in
theorem xc_1000_1 : xc_1000_e.all (xchk1 xVV xc_1000_m xc_1000_u xc_1000 xc_1000_e 65) = true := by decide +kernel
theorem xv_1000 {og : Nat → Option zm_C} : xV xVV xX xW og xc_1000 := xchk_ok (n := 65) (MT := xc_1000_m) (CT := xc_1000_u) (E := xc_1000_e) (by
  simp only [xc_1000_m, List.forall_mem_cons]
  exact ⟨rfl, rfl, rfl, fun _ h => by cases h⟩) (by
  simp only [xc_1000_u, List.forall_mem_cons]
  exact fun _ h => by cases h) xFl_good xXW_ok xc_1000_0 (List.all_eq_true.mp xc_1000_1)
def xc_1001 : xCo := (173, ([(0, (3, xk 0, 0)), (1, (0, (.ofNat 0, [(0, .ofNat 1)]), 0)), (2, (0, (.ofNat 0, [(1, .ofNat 1)]), 0)), (3, (0, (.ofNat 0, [(2, .ofNat 1)]), 0))], [], ((([(0, .ofNat 4, .ofNat 2147483647), (1, .negSucc 2147483647, .ofNat 2147483647), (2, .negSucc 2147483647, .ofNat 2147483647)], []), 3), [], [], [], 0)), [(some (0, (.ofNat 0, [(3, .ofNat 1)]), 0), ((([(3, .negSucc 1, .negSucc 1)], []), 4), [], [], [], 0))], [], 0, 2)
def xc_1001_e : List xEn := []
def xc_1001_m : List (Nat × zm_M) := [(10, zm_m10), (19, zm_m19), (173, zm_m173)]
def xc_1001_u : List xCo := []
set_option maxRecDepth 100000 in
theorem xc_1001_0 : xchk0 xVV xc_1001_m xc_1001_u xc_1001 xc_1001_e 68 = true := by decide +kernel
set_option maxRecDepth 100000 in
theorem xc_1001_1 : xc_1001_e.all (xchk1 xVV xc_1001_m xc_1001_u xc_1001 xc_1001_e 68) = true := by decide +kernel
theorem xv_1001 {og : Nat → Option zm_C} : xV xVV xX xW og xc_1001 := xchk_ok (n := 68) (MT := xc_1001_m) (CT := xc_1001_u) (E := xc_1001_e) (by
  simp only [xc_1001_m, List.forall_mem_cons]
  exact ⟨rfl, rfl, rfl, fun _ h => by cases h⟩) (by
  simp only [xc_1001_u, List.forall_mem_cons]
  exact fun _ h => by cases h) xFl_good xXW_ok xc_1001_0 (List.all_eq_true.mp xc_1001_1)
def xc_1002 : xCo := (173, ([(0, (3, xk 0, 0)), (1, (0, (.ofNat 0, [(0, .ofNat 1)]), 0)), (2, (0, (.ofNat 0, [(1, .ofNat 1)]), 0)), (3, (0, (.ofNat 0, [(2, .ofNat 1)]), 0))], [], ((([(0, .ofNat 0, .ofNat 3), (1, .negSucc 2147483647, .negSucc 0), (2, .negSucc 2147483647, .ofNat 2147483647)], []), 3), [], [], [], 0)), [(some (0, (.ofNat 0, [(3, .ofNat 1)]), 0), ((([(3, .negSucc 1, .negSucc 1)], []), 4), [], [], [], 0))], [], 0, 2)
def xc_1002_e : List xEn := []
def xc_1002_m : List (Nat × zm_M) := [(10, zm_m10), (19, zm_m19), (173, zm_m173)]
def xc_1002_u : List xCo := []
set_option maxRecDepth 100000 in
theorem xc_1002_0 : xchk0 xVV xc_1002_m xc_1002_u xc_1002 xc_1002_e 79 = true := by decide +kernel
set_option maxRecDepth 100000 in
theorem xc_1002_1 : xc_1002_e.all (xchk1 xVV xc_1002_m xc_1002_u xc_1002 xc_1002_e 79) = true := by decide +kernel
theorem xv_1002 {og : Nat → Option zm_C} : xV xVV xX xW og xc_1002 := xchk_ok (n := 79) (MT := xc_1002_m) (CT := xc_1002_u) (E := xc_1002_e) (by
  simp only [xc_1002_m, List.forall_mem_cons]
  exact ⟨rfl, rfl, rfl, fun _ h => by cases h⟩) (by
  simp only [xc_1002_u, List.forall_mem_cons]
  exact fun _ h => by cases h) xFl_good xXW_ok xc_1002_0 (List.all_eq_true.mp xc_1002_1)
def xc_1003 : xCo := (173, ([(0, (3, xk 0, 0)), (1, (0, (.ofNat 0, [(0, .ofNat 1)]), 0)), (2, (0, (.ofNat 0, [(1, .ofNat 1)]), 0)), (3, (0, (.ofNat 0, [(2, .ofNat 1)]), 0))], [], ((([(0, .ofNat 0, .ofNat 3), (1, .ofNat 4, .ofNat 2147483647), (2, .negSucc 2147483647, .ofNat 2147483647)], []), 3), [], [], [], 0)), [(some (0, (.ofNat 0, [(3, .ofNat 1)]), 0), ((([(3, .negSucc 1, .negSucc 1)], []), 4), [], [], [], 0))], [], 0, 2)
def xc_1003_e : List xEn := []
def xc_1003_m : List (Nat × zm_M) := [(10, zm_m10), (19, zm_m19), (173, zm_m173)]
def xc_1003_u : List xCo := []
set_option maxRecDepth 100000 in
theorem xc_1003_0 : xchk0 xVV xc_1003_m xc_1003_u xc_1003 xc_1003_e 82 = true := by decide +kernel
set_option maxRecDepth 100000 in
theorem xc_1003_1 : xc_1003_e.all (xchk1 xVV xc_1003_m xc_1003_u xc_1003 xc_1003_e 82) = true := by decide +kernel
theorem xv_1003 {og : Nat → Option zm_C} : xV xVV xX xW og xc_1003 := xchk_ok (n := 82) (MT := xc_1003_m) (CT := xc_1003_u) (E := xc_1003_e) (by
  simp only [xc_1003_m, List.forall_mem_cons]
  exact ⟨rfl, rfl, rfl, fun _ h => by cases h⟩) (by
  simp only [xc_1003_u, List.forall_mem_cons]
  exact fun _ h => by cases h) xFl_good xXW_ok xc_1003_0 (List.all_eq_true.mp xc_1003_1)
def xc_1004 : xCo := (173, ([(0, (3, xk 0, 0)), (1, (0, (.ofNat 0, [(0, .ofNat 1)]), 0)), (2, (0, (.ofNat 0, [(1, .ofNat 1)]), 0)), (3, (0, (.ofNat 0, [(2, .ofNat 1)]), 0))], [], ((([(0, .ofNat 0, .ofNat 3), (1, .ofNat 0, .ofNat 3), (2, .ofNat 61, .ofNat 2147483647)], []), 3), [], [], [], 0)), [(some (0, (.ofNat 0, [(3, .ofNat 1)]), 0), ((([(3, .negSucc 1, .negSucc 1)], []), 4), [], [], [], 0))], [], 0, 2)
def xc_1004_e : List xEn := []
def xc_1004_m : List (Nat × zm_M) := [(10, zm_m10), (19, zm_m19), (173, zm_m173)]
def xc_1004_u : List xCo := []
set_option maxRecDepth 100000 in
theorem xc_1004_0 : xchk0 xVV xc_1004_m xc_1004_u xc_1004 xc_1004_e 86 = true := by decide +kernel
set_option maxRecDepth 100000 in
theorem xc_1004_1 : xc_1004_e.all (xchk1 xVV xc_1004_m xc_1004_u xc_1004 xc_1004_e 86) = true := by decide +kernel
theorem xv_1004 {og : Nat → Option zm_C} : xV xVV xX xW og xc_1004 := xchk_ok (n := 86) (MT := xc_1004_m) (CT := xc_1004_u) (E := xc_1004_e) (by
  simp only [xc_1004_m, List.forall_mem_cons]
  exact ⟨rfl, rfl, rfl, fun _ h => by cases h⟩) (by
  simp only [xc_1004_u, List.forall_mem_cons]
  exact fun _ h => by cases h) xFl_good xXW_ok xc_1004_0 (List.all_eq_true.mp xc_1004_1)
def xc_1005 : xCo := (173, ([(0, (3, xk 0, 0)), (1, (0, (.ofNat 0, [(0, .ofNat 1)]), 0)), (2, (0, (.ofNat 0, [(1, .ofNat 1)]), 0)), (3, (0, (.ofNat 0, [(2, .ofNat 1)]), 0))], [], ((([(0, .ofNat 0, .ofNat 3), (1, .ofNat 0, .ofNat 3), (2, .negSucc 2147483647, .negSucc 0)], []), 3), [], [], [], 0)), [(some (0, (.ofNat 0, [(3, .ofNat 1)]), 0), ((([(3, .negSucc 2, .negSucc 2)], []), 4), [], [], [], 0))], [], 0, 2)
def xc_1005_e : List xEn := []
def xc_1005_m : List (Nat × zm_M) := [(10, zm_m10), (19, zm_m19), (173, zm_m173)]
def xc_1005_u : List xCo := []
set_option maxRecDepth 100000 in
theorem xc_1005_0 : xchk0 xVV xc_1005_m xc_1005_u xc_1005 xc_1005_e 88 = true := by decide +kernel
set_option maxRecDepth 100000 in
theorem xc_1005_1 : xc_1005_e.all (xchk1 xVV xc_1005_m xc_1005_u xc_1005 xc_1005_e 88) = true := by decide +kernel
theorem xv_1005 {og : Nat → Option zm_C} : xV xVV xX xW og xc_1005 := xchk_ok (n := 88) (MT := xc_1005_m) (CT := xc_1005_u) (E := xc_1005_e) (by
  simp only [xc_1005_m, List.forall_mem_cons]
  exact ⟨rfl, rfl, rfl, fun _ h => by cases h⟩) (by
  simp only [xc_1005_u, List.forall_mem_cons]
  exact fun _ h => by cases h) xFl_good xXW_ok xc_1005_0 (List.all_eq_true.mp xc_1005_1)
def xc_1006 : xCo := (173, ([(0, (3, xk 0, 0)), (1, (0, (.ofNat 0, [(0, .ofNat 1)]), 0)), (2, (0, (.ofNat 0, [(1, .ofNat 1)]), 0)), (3, (0, (.ofNat 0, [(2, .ofNat 1)]), 0))], [], ((([(0, .ofNat 0, .ofNat 3), (1, .ofNat 0, .ofNat 3), (2, .ofNat 0, .ofNat 60)], []), 3), [], [], [], 0)), [(some (0, (.ofNat 0, [(3, .ofNat 1)]), 0), ((([(3, .ofNat 0, .ofNat 0)], []), 4), [], [], [], 0))], [(51, 0), (52, 0), (211, 0)], 0, 2)
def xc_1006_e : List xEn := []
def xc_1006_m : List (Nat × zm_M) := [(10, zm_m10), (19, zm_m19), (78, zm_m78), (173, zm_m173), (174, zm_m174)]
def xc_1006_u : List xCo := [xc_3]
set_option maxRecDepth 100000 in
theorem xc_1006_0 : xchk0 xVV xc_1006_m xc_1006_u xc_1006 xc_1006_e 111 = true := by decide +kernel
set_option maxRecDepth 100000 in
theorem xc_1006_1 : xc_1006_e.all (xchk1 xVV xc_1006_m xc_1006_u xc_1006 xc_1006_e 111) = true := by decide +kernel
theorem xv_1006 {og : Nat → Option zm_C} : xV xVV xX xW og xc_1006 := xchk_ok (n := 111) (MT := xc_1006_m) (CT := xc_1006_u) (E := xc_1006_e) (by
  simp only [xc_1006_m, List.forall_mem_cons]
  exact ⟨rfl, rfl, rfl, rfl, rfl, fun _ h => by cases h⟩) (by
  simp only [xc_1006_u, List.forall_mem_cons]
  exact ⟨xv_3, fun _ h => by cases h⟩) xFl_good xXW_ok xc_1006_0 (List.all_eq_true.mp xc_1006_1)
def xc_1100 : xCo := (181, ([(0, (3, xk 0, 55)), (1, (0, (.ofNat 0, [(0, .ofNat 1)]), 0)), (2, (0, (.ofNat 0, [(1, .ofNat 1)]), 0)), (3, (0, (.ofNat 0, [(2, .ofNat 1)]), 0))], [], ((([(0, .negSucc 2147483647, .negSucc 0), (1, .negSucc 2147483647, .ofNat 2147483647), (2, .negSucc 2147483647, .ofNat 2147483647)], []), 3), [], [], [], 0)), [(some (0, (.ofNat 0, [(3, .ofNat 1)]), 0), ((([(3, .negSucc 1, .negSucc 1)], []), 4), [], [], [], 0))], [(55, 0)], 0, 2)
def xc_1100_e : List xEn := []
def xc_1100_m : List (Nat × zm_M) := [(181, zm_m181), (182, zm_m182), (183, zm_m183)]
def xc_1100_u : List xCo := []
set_option maxRecDepth 100000 in
theorem xc_1100_0 : xchk0 xVV xc_1100_m xc_1100_u xc_1100 xc_1100_e 70 = true := by decide +kernel
set_option maxRecDepth 100000 in
theorem xc_1100_1 : xc_1100_e.all (xchk1 xVV xc_1100_m xc_1100_u xc_1100 xc_1100_e 70) = true := by decide +kernel
theorem xv_1100 {og : Nat → Option zm_C} : xV xVV xX xW og xc_1100 := xchk_ok (n := 70) (MT := xc_1100_m) (CT := xc_1100_u) (E := xc_1100_e) (by
  simp only [xc_1100_m, List.forall_mem_cons]
  exact ⟨rfl, rfl, rfl, fun _ h => by cases h⟩) (by
  simp only [xc_1100_u, List.forall_mem_cons]
  exact fun _ h => by cases h) xFl_good xXW_ok xc_1100_0 (List.all_eq_true.mp xc_1100_1)
def xc_1101 : xCo := (181, ([(0, (3, xk 0, 55)), (1, (0, (.ofNat 0, [(0, .ofNat 1)]), 0)), (2, (0, (.ofNat 0, [(1, .ofNat 1)]), 0)), (3, (0, (.ofNat 0, [(2, .ofNat 1)]), 0))], [], ((([(0, .ofNat 4, .ofNat 2147483647), (1, .negSucc 2147483647, .ofNat 2147483647), (2, .negSucc 2147483647, .ofNat 2147483647)], []), 3), [], [], [], 0)), [(some (0, (.ofNat 0, [(3, .ofNat 1)]), 0), ((([(3, .negSucc 1, .negSucc 1)], []), 4), [], [], [], 0))], [(55, 0)], 0, 2)
def xc_1101_e : List xEn := []
def xc_1101_m : List (Nat × zm_M) := [(181, zm_m181), (182, zm_m182), (183, zm_m183)]
def xc_1101_u : List xCo := []
set_option maxRecDepth 100000 in
theorem xc_1101_0 : xchk0 xVV xc_1101_m xc_1101_u xc_1101 xc_1101_e 74 = true := by decide +kernel
set_option maxRecDepth 100000 in
theorem xc_1101_1 : xc_1101_e.all (xchk1 xVV xc_1101_m xc_1101_u xc_1101 xc_1101_e 74) = true := by decide +kernel
theorem xv_1101 {og : Nat → Option zm_C} : xV xVV xX xW og xc_1101 := xchk_ok (n := 74) (MT := xc_1101_m) (CT := xc_1101_u) (E := xc_1101_e) (by
  simp only [xc_1101_m, List.forall_mem_cons]
  exact ⟨rfl, rfl, rfl, fun _ h => by cases h⟩) (by
  simp only [xc_1101_u, List.forall_mem_cons]
  exact fun _ h => by cases h) xFl_good xXW_ok xc_1101_0 (List.all_eq_true.mp xc_1101_1)
def xc_1102 : xCo := (181, ([(0, (3, xk 0, 55)), (1, (0, (.ofNat 0, [(0, .ofNat 1)]), 0)), (2, (0, (.ofNat 0, [(1, .ofNat 1)]), 0)), (3, (0, (.ofNat 0, [(2, .ofNat 1)]), 0))], [], ((([(0, .ofNat 0, .ofNat 3), (1, .negSucc 2147483647, .negSucc 0), (2, .negSucc 2147483647, .ofNat 2147483647)], []), 3), [], [], [], 0)), [(some (0, (.ofNat 0, [(3, .ofNat 1)]), 0), ((([(3, .negSucc 1, .negSucc 1)], []), 4), [], [], [], 0))], [(55, 0)], 0, 2)
def xc_1102_e : List xEn := []
def xc_1102_m : List (Nat × zm_M) := [(181, zm_m181), (182, zm_m182), (183, zm_m183)]
def xc_1102_u : List xCo := []
set_option maxRecDepth 100000 in
theorem xc_1102_0 : xchk0 xVV xc_1102_m xc_1102_u xc_1102 xc_1102_e 87 = true := by decide +kernel
set_option maxRecDepth 100000 in
theorem xc_1102_1 : xc_1102_e.all (xchk1 xVV xc_1102_m xc_1102_u xc_1102 xc_1102_e 87) = true := by decide +kernel
theorem xv_1102 {og : Nat → Option zm_C} : xV xVV xX xW og xc_1102 := xchk_ok (n := 87) (MT := xc_1102_m) (CT := xc_1102_u) (E := xc_1102_e) (by
  simp only [xc_1102_m, List.forall_mem_cons]
  exact ⟨rfl, rfl, rfl, fun _ h => by cases h⟩) (by
  simp only [xc_1102_u, List.forall_mem_cons]
  exact fun _ h => by cases h) xFl_good xXW_ok xc_1102_0 (List.all_eq_true.mp xc_1102_1)
def xc_1103 : xCo := (181, ([(0, (3, xk 0, 55)), (1, (0, (.ofNat 0, [(0, .ofNat 1)]), 0)), (2, (0, (.ofNat 0, [(1, .ofNat 1)]), 0)), (3, (0, (.ofNat 0, [(2, .ofNat 1)]), 0))], [], ((([(0, .ofNat 0, .ofNat 3), (1, .ofNat 4, .ofNat 2147483647), (2, .negSucc 2147483647, .ofNat 2147483647)], []), 3), [], [], [], 0)), [(some (0, (.ofNat 0, [(3, .ofNat 1)]), 0), ((([(3, .negSucc 1, .negSucc 1)], []), 4), [], [], [], 0))], [(55, 0)], 0, 2)
def xc_1103_e : List xEn := []
def xc_1103_m : List (Nat × zm_M) := [(181, zm_m181), (182, zm_m182), (183, zm_m183)]
def xc_1103_u : List xCo := []
set_option maxRecDepth 100000 in
theorem xc_1103_0 : xchk0 xVV xc_1103_m xc_1103_u xc_1103 xc_1103_e 91 = true := by decide +kernel
set_option maxRecDepth 100000 in
theorem xc_1103_1 : xc_1103_e.all (xchk1 xVV xc_1103_m xc_1103_u xc_1103 xc_1103_e 91) = true := by decide +kernel
theorem xv_1103 {og : Nat → Option zm_C} : xV xVV xX xW og xc_1103 := xchk_ok (n := 91) (MT := xc_1103_m) (CT := xc_1103_u) (E := xc_1103_e) (by
  simp only [xc_1103_m, List.forall_mem_cons]
  exact ⟨rfl, rfl, rfl, fun _ h => by cases h⟩) (by
  simp only [xc_1103_u, List.forall_mem_cons]
  exact fun _ h => by cases h) xFl_good xXW_ok xc_1103_0 (List.all_eq_true.mp xc_1103_1)
def xc_1104 : xCo := (181, ([(0, (3, xk 0, 55)), (1, (0, (.ofNat 0, [(0, .ofNat 1)]), 0)), (2, (0, (.ofNat 0, [(1, .ofNat 1)]), 0)), (3, (0, (.ofNat 0, [(2, .ofNat 1)]), 0))], [], ((([(0, .ofNat 0, .ofNat 3), (1, .ofNat 0, .ofNat 3), (2, .ofNat 61, .ofNat 2147483647)], []), 3), [], [], [], 0)), [(some (0, (.ofNat 0, [(3, .ofNat 1)]), 0), ((([(3, .negSucc 1, .negSucc 1)], []), 4), [], [], [], 0))], [(55, 0)], 0, 2)
def xc_1104_e : List xEn := []
def xc_1104_m : List (Nat × zm_M) := [(181, zm_m181), (182, zm_m182), (183, zm_m183)]
def xc_1104_u : List xCo := []
set_option maxRecDepth 100000 in
theorem xc_1104_0 : xchk0 xVV xc_1104_m xc_1104_u xc_1104 xc_1104_e 95 = true := by decide +kernel
set_option maxRecDepth 100000 in
theorem xc_1104_1 : xc_1104_e.all (xchk1 xVV xc_1104_m xc_1104_u xc_1104 xc_1104_e 95) = true := by decide +kernel
theorem xv_1104 {og : Nat → Option zm_C} : xV xVV xX xW og xc_1104 := xchk_ok (n := 95) (MT := xc_1104_m) (CT := xc_1104_u) (E := xc_1104_e) (by
  simp only [xc_1104_m, List.forall_mem_cons]
  exact ⟨rfl, rfl, rfl, fun _ h => by cases h⟩) (by
  simp only [xc_1104_u, List.forall_mem_cons]
  exact fun _ h => by cases h) xFl_good xXW_ok xc_1104_0 (List.all_eq_true.mp xc_1104_1)
def xc_1105 : xCo := (181, ([(0, (3, xk 0, 55)), (1, (0, (.ofNat 0, [(0, .ofNat 1)]), 0)), (2, (0, (.ofNat 0, [(1, .ofNat 1)]), 0)), (3, (0, (.ofNat 0, [(2, .ofNat 1)]), 0))], [], ((([(0, .ofNat 0, .ofNat 3), (1, .ofNat 0, .ofNat 3), (2, .negSucc 2147483647, .negSucc 0)], []), 3), [], [], [], 0)), [(some (0, (.ofNat 0, [(3, .ofNat 1)]), 0), ((([(3, .negSucc 2, .negSucc 2)], []), 4), [], [], [], 0))], [(55, 0)], 0, 2)
def xc_1105_e : List xEn := []
def xc_1105_m : List (Nat × zm_M) := [(181, zm_m181), (182, zm_m182), (183, zm_m183)]
def xc_1105_u : List xCo := []
set_option maxRecDepth 100000 in
theorem xc_1105_0 : xchk0 xVV xc_1105_m xc_1105_u xc_1105 xc_1105_e 97 = true := by decide +kernel
set_option maxRecDepth 100000 in
theorem xc_1105_1 : xc_1105_e.all (xchk1 xVV xc_1105_m xc_1105_u xc_1105 xc_1105_e 97) = true := by decide +kernel
theorem xv_1105 {og : Nat → Option zm_C} : xV xVV xX xW og xc_1105 := xchk_ok (n := 97) (MT := xc_1105_m) (CT := xc_1105_u) (E := xc_1105_e) (by
  simp only [xc_1105_m, List.forall_mem_cons]
  exact ⟨rfl, rfl, rfl, fun _ h => by cases h⟩) (by
  simp only [xc_1105_u, List.forall_mem_cons]
  exact fun _ h => by cases h) xFl_good xXW_ok xc_1105_0 (List.all_eq_true.mp xc_1105_1)
def xc_1106 : xCo := (181, ([(0, (3, xk 0, 55)), (1, (0, (.ofNat 0, [(0, .ofNat 1)]), 0)), (2, (0, (.ofNat 0, [(1, .ofNat 1)]), 0)), (3, (0, (.ofNat 0, [(2, .ofNat 1)]), 0))], [], ((([(0, .ofNat 0, .ofNat 3), (1, .ofNat 0, .ofNat 3), (2, .ofNat 0, .ofNat 60)], []), 3), [], [], [], 0)), [(some (0, (.ofNat 0, [(3, .ofNat 1)]), 0), ((([(3, .ofNat 0, .ofNat 0)], []), 4), [], [], [], 0))], [(55, 0), (56, 0), (57, 0), (58, 0)], 0, 2)
def xc_1106_e : List xEn := [(57, ([(0, (3, xk 0, 55)), (1, (0, (.ofNat 0, [(0, .ofNat 1)]), 0)), (4, (0, (.ofNat 0, [(3, .ofNat 1)]), 0))], [], ((([(0, .ofNat 0, .ofNat 3), (1, .ofNat 0, .ofNat 3), (2, .ofNat 0, .ofNat 60), (3, .ofNat 0, .ofNat 60), (4, .ofNat 0, .ofNat 0)], []), 5), [], [((3, xk 0, 55), 0, (0, (.ofNat 0, [(4, .ofNat 1)]), 0)), ((3, xk 0, 55), 1, (3, xk 0, 56)), ((3, xk 0, 55), 2, (3, xk 0, 57))], [((3, xk 0, 57), (.ofNat 0, [(0, .ofNat 1)]), (0, (.ofNat 0, [(2, .ofNat 1)]), 0)), ((3, xk 0, 56), (.ofNat 0, [(0, .ofNat 1)]), (0, (.ofNat 0, [(1, .ofNat 1)]), 0))], 0)), (.ofNat 60, [(3, .negSucc 0)]))]
def xc_1106_m : List (Nat × zm_M) := [(181, zm_m181), (182, zm_m182), (183, zm_m183)]
def xc_1106_u : List xCo := []
set_option maxRecDepth 100000 in
theorem xc_1106_0 : xchk0 xVV xc_1106_m xc_1106_u xc_1106 xc_1106_e 123 = true := by decide +kernel
set_option maxRecDepth 100000 in
theorem xc_1106_1 : xc_1106_e.all (xchk1 xVV xc_1106_m xc_1106_u xc_1106 xc_1106_e 123) = true := by decide +kernel
theorem xv_1106 {og : Nat → Option zm_C} : xV xVV xX xW og xc_1106 := xchk_ok (n := 123) (MT := xc_1106_m) (CT := xc_1106_u) (E := xc_1106_e) (by
  simp only [xc_1106_m, List.forall_mem_cons]
  exact ⟨rfl, rfl, rfl, fun _ h => by cases h⟩) (by
  simp only [xc_1106_u, List.forall_mem_cons]
  exact fun _ h => by cases h) xFl_good xXW_ok xc_1106_0 (List.all_eq_true.mp xc_1106_1)
theorem xOE_of {c : xCo} {np : Nat} {v : Int32} {ρ : List Int} {τ : List Nat} {h h' : zm_H} {r : Option Value} (hc : c.2.2.1 = [(some (0, (.ofNat 0, [(np, .ofNat 1)]), 0), ((([(np, v.toInt, v.toInt)], []), np + 1), [], [], [], 0))]) (hg : c.2.2.2.2.1 = 0) (hq : xQc xVV xX xW c ρ [] τ h r h') : xOE τ h v 0 r h' := by
  obtain ⟨τ', h1, h2, -, h4, p, hp, r', s', h5, h6⟩ := hq
  rw [hc] at hp
  have hp := List.mem_singleton.mp hp
  subst hp
  rw [hg] at h4
  refine ⟨?_, τ', h1, h2, h4⟩
  cases r with
  | none => cases h6
  | some w =>
    obtain ⟨i, rfl, h7⟩ := h6
    obtain ⟨x, x1, x2, x3⟩ := h5.1.1.1 _ List.mem_cons_self
    have x1 : (ρ ++ r')[np]? = some x := x1
    have h7 : xe (ρ ++ r') (.ofNat 0, [(np, .ofNat 1)]) = some i.toInt := h7
    have h8 : xe (ρ ++ r') (.ofNat 0, [(np, .ofNat 1)]) = some x := xe_sym (s := np) x1
    rw [h8] at h7
    have e := Option.some.inj h7
    have x2 : v.toInt ≤ x := x2
    have x3 : x ≤ v.toInt := x3
    have : i = v := Int32.toInt_inj.mp (by omega)
    rw [this]
theorem xb_x_0 {og : Nat → Option zm_C} {τ : List Nat} {h : zm_H} {a1 a2 a3 : Int32} (hH : xHI xKT xSG τ h) (hX : xX τ h) (i1 : (-2147483648) ≤ a1.toInt ∧ a1.toInt ≤ (-1)) (i2 : (-2147483648) ≤ a2.toInt ∧ a2.toInt ≤ 2147483647) (i3 : (-2147483648) ≤ a3.toInt ∧ a3.toInt ≤ 2147483647) : zm_Y og 2 173 0 [(0, .ref 0), (1, .int a1), (2, .int a2), (3, .int a3)] [] h (xOE τ h (-2) 0) := by
  refine ((xv_1000 (og := og) [a1.toInt, a2.toInt, a3.toInt] [] τ h _ hH hX ⟨⟨⟨?_, fun q hq => by cases hq⟩, rfl⟩, ⟨rfl, fun k kd hk => by simp [xc_1000] at hk⟩, (fun q hq => by cases hq), (fun q hq => by cases hq)⟩ ?_).deep (Nat.le_of_ble_eq_true rfl)).mono (fun r h' hq => xOE_of (c := xc_1000) (np := 3) (v := (-2)) rfl rfl hq)
  · intro q hq
    simp only [xc_1000, List.mem_cons, List.not_mem_nil, or_false] at hq
    rcases hq with rfl | rfl | rfl
    · exact ⟨_, rfl, i1.1, i1.2⟩
    · exact ⟨_, rfl, i2.1, i2.2⟩
    · exact ⟨_, rfl, i3.1, i3.2⟩
  · intro q hq
    simp only [xc_1000, List.mem_cons, List.not_mem_nil, or_false] at hq
    rcases hq with rfl | rfl | rfl | rfl
    · exact ⟨_, rfl, rfl⟩
    · exact ⟨_, rfl, a1, rfl, xe_sym (s := 0) rfl⟩
    · exact ⟨_, rfl, a2, rfl, xe_sym (s := 1) rfl⟩
    · exact ⟨_, rfl, a3, rfl, xe_sym (s := 2) rfl⟩
theorem xb_m_0 {og : Nat → Option zm_C} {τ : List Nat} {h : zm_H} {a1 a2 a3 : Int32} (hH : xHI xKT xSG τ h) (hX : xX τ h) (i1 : (-2147483648) ≤ a1.toInt ∧ a1.toInt ≤ (-1)) (i2 : (-2147483648) ≤ a2.toInt ∧ a2.toInt ≤ 2147483647) (i3 : (-2147483648) ≤ a3.toInt ∧ a3.toInt ≤ 2147483647) : zm_Y og 2 181 0 [(0, .ref 55), (1, .int a1), (2, .int a2), (3, .int a3)] [] h (xOE τ h (-2) 0) := by
  refine ((xv_1100 (og := og) [a1.toInt, a2.toInt, a3.toInt] [] τ h _ hH hX ⟨⟨⟨?_, fun q hq => by cases hq⟩, rfl⟩, ⟨rfl, fun k kd hk => by simp [xc_1100] at hk⟩, (fun q hq => by cases hq), (fun q hq => by cases hq)⟩ ?_).deep (Nat.le_of_ble_eq_true rfl)).mono (fun r h' hq => xOE_of (c := xc_1100) (np := 3) (v := (-2)) rfl rfl hq)
  · intro q hq
    simp only [xc_1100, List.mem_cons, List.not_mem_nil, or_false] at hq
    rcases hq with rfl | rfl | rfl
    · exact ⟨_, rfl, i1.1, i1.2⟩
    · exact ⟨_, rfl, i2.1, i2.2⟩
    · exact ⟨_, rfl, i3.1, i3.2⟩
  · intro q hq
    simp only [xc_1100, List.mem_cons, List.not_mem_nil, or_false] at hq
    rcases hq with rfl | rfl | rfl | rfl
    · exact ⟨_, rfl, rfl⟩
    · exact ⟨_, rfl, a1, rfl, xe_sym (s := 0) rfl⟩
    · exact ⟨_, rfl, a2, rfl, xe_sym (s := 1) rfl⟩
    · exact ⟨_, rfl, a3, rfl, xe_sym (s := 2) rfl⟩
theorem xb_x_1 {og : Nat → Option zm_C} {τ : List Nat} {h : zm_H} {a1 a2 a3 : Int32} (hH : xHI xKT xSG τ h) (hX : xX τ h) (i1 : 4 ≤ a1.toInt ∧ a1.toInt ≤ 2147483647) (i2 : (-2147483648) ≤ a2.toInt ∧ a2.toInt ≤ 2147483647) (i3 : (-2147483648) ≤ a3.toInt ∧ a3.toInt ≤ 2147483647) : zm_Y og 2 173 0 [(0, .ref 0), (1, .int a1), (2, .int a2), (3, .int a3)] [] h (xOE τ h (-2) 0) := by
  refine ((xv_1001 (og := og) [a1.toInt, a2.toInt, a3.toInt] [] τ h _ hH hX ⟨⟨⟨?_, fun q hq => by cases hq⟩, rfl⟩, ⟨rfl, fun k kd hk => by simp [xc_1001] at hk⟩, (fun q hq => by cases hq), (fun q hq => by cases hq)⟩ ?_).deep (Nat.le_of_ble_eq_true rfl)).mono (fun r h' hq => xOE_of (c := xc_1001) (np := 3) (v := (-2)) rfl rfl hq)
  · intro q hq
    simp only [xc_1001, List.mem_cons, List.not_mem_nil, or_false] at hq
    rcases hq with rfl | rfl | rfl
    · exact ⟨_, rfl, i1.1, i1.2⟩
    · exact ⟨_, rfl, i2.1, i2.2⟩
    · exact ⟨_, rfl, i3.1, i3.2⟩
  · intro q hq
    simp only [xc_1001, List.mem_cons, List.not_mem_nil, or_false] at hq
    rcases hq with rfl | rfl | rfl | rfl
    · exact ⟨_, rfl, rfl⟩
    · exact ⟨_, rfl, a1, rfl, xe_sym (s := 0) rfl⟩
    · exact ⟨_, rfl, a2, rfl, xe_sym (s := 1) rfl⟩
    · exact ⟨_, rfl, a3, rfl, xe_sym (s := 2) rfl⟩
theorem xb_m_1 {og : Nat → Option zm_C} {τ : List Nat} {h : zm_H} {a1 a2 a3 : Int32} (hH : xHI xKT xSG τ h) (hX : xX τ h) (i1 : 4 ≤ a1.toInt ∧ a1.toInt ≤ 2147483647) (i2 : (-2147483648) ≤ a2.toInt ∧ a2.toInt ≤ 2147483647) (i3 : (-2147483648) ≤ a3.toInt ∧ a3.toInt ≤ 2147483647) : zm_Y og 2 181 0 [(0, .ref 55), (1, .int a1), (2, .int a2), (3, .int a3)] [] h (xOE τ h (-2) 0) := by
  refine ((xv_1101 (og := og) [a1.toInt, a2.toInt, a3.toInt] [] τ h _ hH hX ⟨⟨⟨?_, fun q hq => by cases hq⟩, rfl⟩, ⟨rfl, fun k kd hk => by simp [xc_1101] at hk⟩, (fun q hq => by cases hq), (fun q hq => by cases hq)⟩ ?_).deep (Nat.le_of_ble_eq_true rfl)).mono (fun r h' hq => xOE_of (c := xc_1101) (np := 3) (v := (-2)) rfl rfl hq)
  · intro q hq
    simp only [xc_1101, List.mem_cons, List.not_mem_nil, or_false] at hq
    rcases hq with rfl | rfl | rfl
    · exact ⟨_, rfl, i1.1, i1.2⟩
    · exact ⟨_, rfl, i2.1, i2.2⟩
    · exact ⟨_, rfl, i3.1, i3.2⟩
  · intro q hq
    simp only [xc_1101, List.mem_cons, List.not_mem_nil, or_false] at hq
    rcases hq with rfl | rfl | rfl | rfl
    · exact ⟨_, rfl, rfl⟩
    · exact ⟨_, rfl, a1, rfl, xe_sym (s := 0) rfl⟩
    · exact ⟨_, rfl, a2, rfl, xe_sym (s := 1) rfl⟩
    · exact ⟨_, rfl, a3, rfl, xe_sym (s := 2) rfl⟩
theorem xb_x_2 {og : Nat → Option zm_C} {τ : List Nat} {h : zm_H} {a1 a2 a3 : Int32} (hH : xHI xKT xSG τ h) (hX : xX τ h) (i1 : 0 ≤ a1.toInt ∧ a1.toInt ≤ 3) (i2 : (-2147483648) ≤ a2.toInt ∧ a2.toInt ≤ (-1)) (i3 : (-2147483648) ≤ a3.toInt ∧ a3.toInt ≤ 2147483647) : zm_Y og 2 173 0 [(0, .ref 0), (1, .int a1), (2, .int a2), (3, .int a3)] [] h (xOE τ h (-2) 0) := by
  refine ((xv_1002 (og := og) [a1.toInt, a2.toInt, a3.toInt] [] τ h _ hH hX ⟨⟨⟨?_, fun q hq => by cases hq⟩, rfl⟩, ⟨rfl, fun k kd hk => by simp [xc_1002] at hk⟩, (fun q hq => by cases hq), (fun q hq => by cases hq)⟩ ?_).deep (Nat.le_of_ble_eq_true rfl)).mono (fun r h' hq => xOE_of (c := xc_1002) (np := 3) (v := (-2)) rfl rfl hq)
  · intro q hq
    simp only [xc_1002, List.mem_cons, List.not_mem_nil, or_false] at hq
    rcases hq with rfl | rfl | rfl
    · exact ⟨_, rfl, i1.1, i1.2⟩
    · exact ⟨_, rfl, i2.1, i2.2⟩
    · exact ⟨_, rfl, i3.1, i3.2⟩
  · intro q hq
    simp only [xc_1002, List.mem_cons, List.not_mem_nil, or_false] at hq
    rcases hq with rfl | rfl | rfl | rfl
    · exact ⟨_, rfl, rfl⟩
    · exact ⟨_, rfl, a1, rfl, xe_sym (s := 0) rfl⟩
    · exact ⟨_, rfl, a2, rfl, xe_sym (s := 1) rfl⟩
    · exact ⟨_, rfl, a3, rfl, xe_sym (s := 2) rfl⟩
theorem xb_m_2 {og : Nat → Option zm_C} {τ : List Nat} {h : zm_H} {a1 a2 a3 : Int32} (hH : xHI xKT xSG τ h) (hX : xX τ h) (i1 : 0 ≤ a1.toInt ∧ a1.toInt ≤ 3) (i2 : (-2147483648) ≤ a2.toInt ∧ a2.toInt ≤ (-1)) (i3 : (-2147483648) ≤ a3.toInt ∧ a3.toInt ≤ 2147483647) : zm_Y og 2 181 0 [(0, .ref 55), (1, .int a1), (2, .int a2), (3, .int a3)] [] h (xOE τ h (-2) 0) := by
  refine ((xv_1102 (og := og) [a1.toInt, a2.toInt, a3.toInt] [] τ h _ hH hX ⟨⟨⟨?_, fun q hq => by cases hq⟩, rfl⟩, ⟨rfl, fun k kd hk => by simp [xc_1102] at hk⟩, (fun q hq => by cases hq), (fun q hq => by cases hq)⟩ ?_).deep (Nat.le_of_ble_eq_true rfl)).mono (fun r h' hq => xOE_of (c := xc_1102) (np := 3) (v := (-2)) rfl rfl hq)
  · intro q hq
    simp only [xc_1102, List.mem_cons, List.not_mem_nil, or_false] at hq
    rcases hq with rfl | rfl | rfl
    · exact ⟨_, rfl, i1.1, i1.2⟩
    · exact ⟨_, rfl, i2.1, i2.2⟩
    · exact ⟨_, rfl, i3.1, i3.2⟩
  · intro q hq
    simp only [xc_1102, List.mem_cons, List.not_mem_nil, or_false] at hq
    rcases hq with rfl | rfl | rfl | rfl
    · exact ⟨_, rfl, rfl⟩
    · exact ⟨_, rfl, a1, rfl, xe_sym (s := 0) rfl⟩
    · exact ⟨_, rfl, a2, rfl, xe_sym (s := 1) rfl⟩
    · exact ⟨_, rfl, a3, rfl, xe_sym (s := 2) rfl⟩
theorem xb_x_3 {og : Nat → Option zm_C} {τ : List Nat} {h : zm_H} {a1 a2 a3 : Int32} (hH : xHI xKT xSG τ h) (hX : xX τ h) (i1 : 0 ≤ a1.toInt ∧ a1.toInt ≤ 3) (i2 : 4 ≤ a2.toInt ∧ a2.toInt ≤ 2147483647) (i3 : (-2147483648) ≤ a3.toInt ∧ a3.toInt ≤ 2147483647) : zm_Y og 2 173 0 [(0, .ref 0), (1, .int a1), (2, .int a2), (3, .int a3)] [] h (xOE τ h (-2) 0) := by
  refine ((xv_1003 (og := og) [a1.toInt, a2.toInt, a3.toInt] [] τ h _ hH hX ⟨⟨⟨?_, fun q hq => by cases hq⟩, rfl⟩, ⟨rfl, fun k kd hk => by simp [xc_1003] at hk⟩, (fun q hq => by cases hq), (fun q hq => by cases hq)⟩ ?_).deep (Nat.le_of_ble_eq_true rfl)).mono (fun r h' hq => xOE_of (c := xc_1003) (np := 3) (v := (-2)) rfl rfl hq)
  · intro q hq
    simp only [xc_1003, List.mem_cons, List.not_mem_nil, or_false] at hq
    rcases hq with rfl | rfl | rfl
    · exact ⟨_, rfl, i1.1, i1.2⟩
    · exact ⟨_, rfl, i2.1, i2.2⟩
    · exact ⟨_, rfl, i3.1, i3.2⟩
  · intro q hq
    simp only [xc_1003, List.mem_cons, List.not_mem_nil, or_false] at hq
    rcases hq with rfl | rfl | rfl | rfl
    · exact ⟨_, rfl, rfl⟩
    · exact ⟨_, rfl, a1, rfl, xe_sym (s := 0) rfl⟩
    · exact ⟨_, rfl, a2, rfl, xe_sym (s := 1) rfl⟩
    · exact ⟨_, rfl, a3, rfl, xe_sym (s := 2) rfl⟩
theorem xb_m_3 {og : Nat → Option zm_C} {τ : List Nat} {h : zm_H} {a1 a2 a3 : Int32} (hH : xHI xKT xSG τ h) (hX : xX τ h) (i1 : 0 ≤ a1.toInt ∧ a1.toInt ≤ 3) (i2 : 4 ≤ a2.toInt ∧ a2.toInt ≤ 2147483647) (i3 : (-2147483648) ≤ a3.toInt ∧ a3.toInt ≤ 2147483647) : zm_Y og 2 181 0 [(0, .ref 55), (1, .int a1), (2, .int a2), (3, .int a3)] [] h (xOE τ h (-2) 0) := by
  refine ((xv_1103 (og := og) [a1.toInt, a2.toInt, a3.toInt] [] τ h _ hH hX ⟨⟨⟨?_, fun q hq => by cases hq⟩, rfl⟩, ⟨rfl, fun k kd hk => by simp [xc_1103] at hk⟩, (fun q hq => by cases hq), (fun q hq => by cases hq)⟩ ?_).deep (Nat.le_of_ble_eq_true rfl)).mono (fun r h' hq => xOE_of (c := xc_1103) (np := 3) (v := (-2)) rfl rfl hq)
  · intro q hq
    simp only [xc_1103, List.mem_cons, List.not_mem_nil, or_false] at hq
    rcases hq with rfl | rfl | rfl
    · exact ⟨_, rfl, i1.1, i1.2⟩
    · exact ⟨_, rfl, i2.1, i2.2⟩
    · exact ⟨_, rfl, i3.1, i3.2⟩
  · intro q hq
    simp only [xc_1103, List.mem_cons, List.not_mem_nil, or_false] at hq
    rcases hq with rfl | rfl | rfl | rfl
    · exact ⟨_, rfl, rfl⟩
    · exact ⟨_, rfl, a1, rfl, xe_sym (s := 0) rfl⟩
    · exact ⟨_, rfl, a2, rfl, xe_sym (s := 1) rfl⟩
    · exact ⟨_, rfl, a3, rfl, xe_sym (s := 2) rfl⟩
theorem xb_x_4 {og : Nat → Option zm_C} {τ : List Nat} {h : zm_H} {a1 a2 a3 : Int32} (hH : xHI xKT xSG τ h) (hX : xX τ h) (i1 : 0 ≤ a1.toInt ∧ a1.toInt ≤ 3) (i2 : 0 ≤ a2.toInt ∧ a2.toInt ≤ 3) (i3 : 61 ≤ a3.toInt ∧ a3.toInt ≤ 2147483647) : zm_Y og 2 173 0 [(0, .ref 0), (1, .int a1), (2, .int a2), (3, .int a3)] [] h (xOE τ h (-2) 0) := by
  refine ((xv_1004 (og := og) [a1.toInt, a2.toInt, a3.toInt] [] τ h _ hH hX ⟨⟨⟨?_, fun q hq => by cases hq⟩, rfl⟩, ⟨rfl, fun k kd hk => by simp [xc_1004] at hk⟩, (fun q hq => by cases hq), (fun q hq => by cases hq)⟩ ?_).deep (Nat.le_of_ble_eq_true rfl)).mono (fun r h' hq => xOE_of (c := xc_1004) (np := 3) (v := (-2)) rfl rfl hq)
  · intro q hq
    simp only [xc_1004, List.mem_cons, List.not_mem_nil, or_false] at hq
    rcases hq with rfl | rfl | rfl
    · exact ⟨_, rfl, i1.1, i1.2⟩
    · exact ⟨_, rfl, i2.1, i2.2⟩
    · exact ⟨_, rfl, i3.1, i3.2⟩
  · intro q hq
    simp only [xc_1004, List.mem_cons, List.not_mem_nil, or_false] at hq
    rcases hq with rfl | rfl | rfl | rfl
    · exact ⟨_, rfl, rfl⟩
    · exact ⟨_, rfl, a1, rfl, xe_sym (s := 0) rfl⟩
    · exact ⟨_, rfl, a2, rfl, xe_sym (s := 1) rfl⟩
    · exact ⟨_, rfl, a3, rfl, xe_sym (s := 2) rfl⟩
theorem xb_m_4 {og : Nat → Option zm_C} {τ : List Nat} {h : zm_H} {a1 a2 a3 : Int32} (hH : xHI xKT xSG τ h) (hX : xX τ h) (i1 : 0 ≤ a1.toInt ∧ a1.toInt ≤ 3) (i2 : 0 ≤ a2.toInt ∧ a2.toInt ≤ 3) (i3 : 61 ≤ a3.toInt ∧ a3.toInt ≤ 2147483647) : zm_Y og 2 181 0 [(0, .ref 55), (1, .int a1), (2, .int a2), (3, .int a3)] [] h (xOE τ h (-2) 0) := by
  refine ((xv_1104 (og := og) [a1.toInt, a2.toInt, a3.toInt] [] τ h _ hH hX ⟨⟨⟨?_, fun q hq => by cases hq⟩, rfl⟩, ⟨rfl, fun k kd hk => by simp [xc_1104] at hk⟩, (fun q hq => by cases hq), (fun q hq => by cases hq)⟩ ?_).deep (Nat.le_of_ble_eq_true rfl)).mono (fun r h' hq => xOE_of (c := xc_1104) (np := 3) (v := (-2)) rfl rfl hq)
  · intro q hq
    simp only [xc_1104, List.mem_cons, List.not_mem_nil, or_false] at hq
    rcases hq with rfl | rfl | rfl
    · exact ⟨_, rfl, i1.1, i1.2⟩
    · exact ⟨_, rfl, i2.1, i2.2⟩
    · exact ⟨_, rfl, i3.1, i3.2⟩
  · intro q hq
    simp only [xc_1104, List.mem_cons, List.not_mem_nil, or_false] at hq
    rcases hq with rfl | rfl | rfl | rfl
    · exact ⟨_, rfl, rfl⟩
    · exact ⟨_, rfl, a1, rfl, xe_sym (s := 0) rfl⟩
    · exact ⟨_, rfl, a2, rfl, xe_sym (s := 1) rfl⟩
    · exact ⟨_, rfl, a3, rfl, xe_sym (s := 2) rfl⟩
theorem xb_x_5 {og : Nat → Option zm_C} {τ : List Nat} {h : zm_H} {a1 a2 a3 : Int32} (hH : xHI xKT xSG τ h) (hX : xX τ h) (i1 : 0 ≤ a1.toInt ∧ a1.toInt ≤ 3) (i2 : 0 ≤ a2.toInt ∧ a2.toInt ≤ 3) (i3 : (-2147483648) ≤ a3.toInt ∧ a3.toInt ≤ (-1)) : zm_Y og 2 173 0 [(0, .ref 0), (1, .int a1), (2, .int a2), (3, .int a3)] [] h (xOE τ h (-3) 0) := by
  refine ((xv_1005 (og := og) [a1.toInt, a2.toInt, a3.toInt] [] τ h _ hH hX ⟨⟨⟨?_, fun q hq => by cases hq⟩, rfl⟩, ⟨rfl, fun k kd hk => by simp [xc_1005] at hk⟩, (fun q hq => by cases hq), (fun q hq => by cases hq)⟩ ?_).deep (Nat.le_of_ble_eq_true rfl)).mono (fun r h' hq => xOE_of (c := xc_1005) (np := 3) (v := (-3)) rfl rfl hq)
  · intro q hq
    simp only [xc_1005, List.mem_cons, List.not_mem_nil, or_false] at hq
    rcases hq with rfl | rfl | rfl
    · exact ⟨_, rfl, i1.1, i1.2⟩
    · exact ⟨_, rfl, i2.1, i2.2⟩
    · exact ⟨_, rfl, i3.1, i3.2⟩
  · intro q hq
    simp only [xc_1005, List.mem_cons, List.not_mem_nil, or_false] at hq
    rcases hq with rfl | rfl | rfl | rfl
    · exact ⟨_, rfl, rfl⟩
    · exact ⟨_, rfl, a1, rfl, xe_sym (s := 0) rfl⟩
    · exact ⟨_, rfl, a2, rfl, xe_sym (s := 1) rfl⟩
    · exact ⟨_, rfl, a3, rfl, xe_sym (s := 2) rfl⟩
theorem xb_m_5 {og : Nat → Option zm_C} {τ : List Nat} {h : zm_H} {a1 a2 a3 : Int32} (hH : xHI xKT xSG τ h) (hX : xX τ h) (i1 : 0 ≤ a1.toInt ∧ a1.toInt ≤ 3) (i2 : 0 ≤ a2.toInt ∧ a2.toInt ≤ 3) (i3 : (-2147483648) ≤ a3.toInt ∧ a3.toInt ≤ (-1)) : zm_Y og 2 181 0 [(0, .ref 55), (1, .int a1), (2, .int a2), (3, .int a3)] [] h (xOE τ h (-3) 0) := by
  refine ((xv_1105 (og := og) [a1.toInt, a2.toInt, a3.toInt] [] τ h _ hH hX ⟨⟨⟨?_, fun q hq => by cases hq⟩, rfl⟩, ⟨rfl, fun k kd hk => by simp [xc_1105] at hk⟩, (fun q hq => by cases hq), (fun q hq => by cases hq)⟩ ?_).deep (Nat.le_of_ble_eq_true rfl)).mono (fun r h' hq => xOE_of (c := xc_1105) (np := 3) (v := (-3)) rfl rfl hq)
  · intro q hq
    simp only [xc_1105, List.mem_cons, List.not_mem_nil, or_false] at hq
    rcases hq with rfl | rfl | rfl
    · exact ⟨_, rfl, i1.1, i1.2⟩
    · exact ⟨_, rfl, i2.1, i2.2⟩
    · exact ⟨_, rfl, i3.1, i3.2⟩
  · intro q hq
    simp only [xc_1105, List.mem_cons, List.not_mem_nil, or_false] at hq
    rcases hq with rfl | rfl | rfl | rfl
    · exact ⟨_, rfl, rfl⟩
    · exact ⟨_, rfl, a1, rfl, xe_sym (s := 0) rfl⟩
    · exact ⟨_, rfl, a2, rfl, xe_sym (s := 1) rfl⟩
    · exact ⟨_, rfl, a3, rfl, xe_sym (s := 2) rfl⟩
theorem xb_x_6 {og : Nat → Option zm_C} {τ : List Nat} {h : zm_H} {a1 a2 a3 : Int32} (hH : xHI xKT xSG τ h) (hX : xX τ h) (i1 : 0 ≤ a1.toInt ∧ a1.toInt ≤ 3) (i2 : 0 ≤ a2.toInt ∧ a2.toInt ≤ 3) (i3 : 0 ≤ a3.toInt ∧ a3.toInt ≤ 60) : zm_Y og 2 173 0 [(0, .ref 0), (1, .int a1), (2, .int a2), (3, .int a3)] [] h (xOE τ h 0 0) := by
  refine ((xv_1006 (og := og) [a1.toInt, a2.toInt, a3.toInt] [] τ h _ hH hX ⟨⟨⟨?_, fun q hq => by cases hq⟩, rfl⟩, ⟨rfl, fun k kd hk => by simp [xc_1006] at hk⟩, (fun q hq => by cases hq), (fun q hq => by cases hq)⟩ ?_).deep (Nat.le_of_ble_eq_true rfl)).mono (fun r h' hq => xOE_of (c := xc_1006) (np := 3) (v := 0) rfl rfl hq)
  · intro q hq
    simp only [xc_1006, List.mem_cons, List.not_mem_nil, or_false] at hq
    rcases hq with rfl | rfl | rfl
    · exact ⟨_, rfl, i1.1, i1.2⟩
    · exact ⟨_, rfl, i2.1, i2.2⟩
    · exact ⟨_, rfl, i3.1, i3.2⟩
  · intro q hq
    simp only [xc_1006, List.mem_cons, List.not_mem_nil, or_false] at hq
    rcases hq with rfl | rfl | rfl | rfl
    · exact ⟨_, rfl, rfl⟩
    · exact ⟨_, rfl, a1, rfl, xe_sym (s := 0) rfl⟩
    · exact ⟨_, rfl, a2, rfl, xe_sym (s := 1) rfl⟩
    · exact ⟨_, rfl, a3, rfl, xe_sym (s := 2) rfl⟩
theorem xb_m_6 {og : Nat → Option zm_C} {τ : List Nat} {h : zm_H} {a1 a2 a3 : Int32} (hH : xHI xKT xSG τ h) (hX : xX τ h) (i1 : 0 ≤ a1.toInt ∧ a1.toInt ≤ 3) (i2 : 0 ≤ a2.toInt ∧ a2.toInt ≤ 3) (i3 : 0 ≤ a3.toInt ∧ a3.toInt ≤ 60) : zm_Y og 2 181 0 [(0, .ref 55), (1, .int a1), (2, .int a2), (3, .int a3)] [] h (xOE τ h 0 0) := by
  refine ((xv_1106 (og := og) [a1.toInt, a2.toInt, a3.toInt] [] τ h _ hH hX ⟨⟨⟨?_, fun q hq => by cases hq⟩, rfl⟩, ⟨rfl, fun k kd hk => by simp [xc_1106] at hk⟩, (fun q hq => by cases hq), (fun q hq => by cases hq)⟩ ?_).deep (Nat.le_of_ble_eq_true rfl)).mono (fun r h' hq => xOE_of (c := xc_1106) (np := 3) (v := 0) rfl rfl hq)
  · intro q hq
    simp only [xc_1106, List.mem_cons, List.not_mem_nil, or_false] at hq
    rcases hq with rfl | rfl | rfl
    · exact ⟨_, rfl, i1.1, i1.2⟩
    · exact ⟨_, rfl, i2.1, i2.2⟩
    · exact ⟨_, rfl, i3.1, i3.2⟩
  · intro q hq
    simp only [xc_1106, List.mem_cons, List.not_mem_nil, or_false] at hq
    rcases hq with rfl | rfl | rfl | rfl
    · exact ⟨_, rfl, rfl⟩
    · exact ⟨_, rfl, a1, rfl, xe_sym (s := 0) rfl⟩
    · exact ⟨_, rfl, a2, rfl, xe_sym (s := 1) rfl⟩
    · exact ⟨_, rfl, a3, rfl, xe_sym (s := 2) rfl⟩
/-- both answer the same -/
theorem xb_both {og : Nat → Option zm_C} (a1 a2 a3 : Int32) : ∃ v : Int32, (∀ (τ : List Nat) (h : zm_H), xHI xKT xSG τ h → xX τ h → zm_Y og 2 173 0 [(0, .ref 0), (1, .int a1), (2, .int a2), (3, .int a3)] [] h (xOE τ h v 0)) ∧ ∀ (τ : List Nat) (h : zm_H), xHI xKT xSG τ h → xX τ h → zm_Y og 2 181 0 [(0, .ref 55), (1, .int a1), (2, .int a2), (3, .int a3)] [] h (xOE τ h v 0) := by
  have r1 := xb_rng a1
  have r2 := xb_rng a2
  have r3 := xb_rng a3
  have ea : xI32a = -2147483648 := rfl
  have eb : xI32b = 2147483647 := rfl
  rw [ea, eb] at r1 r2 r3
  by_cases c0 : a1.toInt ≤ (-1)
  · exact ⟨_, fun τ h p q => xb_x_0 p q (by omega) (by omega) (by omega), fun τ h p q => xb_m_0 p q (by omega) (by omega) (by omega)⟩
  by_cases c1 : 4 ≤ a1.toInt
  · exact ⟨_, fun τ h p q => xb_x_1 p q (by omega) (by omega) (by omega), fun τ h p q => xb_m_1 p q (by omega) (by omega) (by omega)⟩
  by_cases c2 : 0 ≤ a1.toInt ∧ a1.toInt ≤ 3 ∧ a2.toInt ≤ (-1)
  · exact ⟨_, fun τ h p q => xb_x_2 p q (by omega) (by omega) (by omega), fun τ h p q => xb_m_2 p q (by omega) (by omega) (by omega)⟩
  by_cases c3 : 0 ≤ a1.toInt ∧ 4 ≤ a2.toInt ∧ a1.toInt ≤ 3
  · exact ⟨_, fun τ h p q => xb_x_3 p q (by omega) (by omega) (by omega), fun τ h p q => xb_m_3 p q (by omega) (by omega) (by omega)⟩
  by_cases c4 : 0 ≤ a1.toInt ∧ 0 ≤ a2.toInt ∧ 61 ≤ a3.toInt ∧ a1.toInt ≤ 3 ∧ a2.toInt ≤ 3
  · exact ⟨_, fun τ h p q => xb_x_4 p q (by omega) (by omega) (by omega), fun τ h p q => xb_m_4 p q (by omega) (by omega) (by omega)⟩
  by_cases c5 : 0 ≤ a1.toInt ∧ 0 ≤ a2.toInt ∧ a1.toInt ≤ 3 ∧ a2.toInt ≤ 3 ∧ a3.toInt ≤ (-1)
  · exact ⟨_, fun τ h p q => xb_x_5 p q (by omega) (by omega) (by omega), fun τ h p q => xb_m_5 p q (by omega) (by omega) (by omega)⟩
  exact ⟨_, fun τ h p q => xb_x_6 p q (by omega) (by omega) (by omega), fun τ h p q => xb_m_6 p q (by omega) (by omega) (by omega)⟩
