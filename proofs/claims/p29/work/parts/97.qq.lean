/-! Calls that the hands make, and what they leave (made by a program) -/
def xOF (τ : List Nat) (h : zm_H) (g : Nat) (ms : List (Nat × Nat)) (P : Option Value → List Nat → zm_H → Prop) (r : Option Value) (h' : zm_H) : Prop := ∃ τ', P r τ' h' ∧ xHI xKT xSG τ' h' ∧ xX τ' h' ∧ xW h' ≤ xW h + g ∧ xF (xms ms) τ h τ' h'
def xc_1000 : xCo := (85, ([(0, (3, xk 0, 7)), (1, (4, xk 0, 0)), (2, (4, xk 0, 1)), (3, (0, (.ofNat 0, [(0, .ofNat 1)]), 0)), (4, (0, (.ofNat 0, [(1, .ofNat 1)]), 0))], [], ((([(0, .negSucc 2147483647, .ofNat 2147483647), (1, .negSucc 2147483647, .ofNat 2147483647)], []), 2), [200, 207], [], [], 0)), [(some (0, (.ofNat 0, [(2, .ofNat 1)]), 0), ((([(2, .negSucc 2147483647, .ofNat 2147483647)], []), 3), [200, 207], [], [], 0))], [(23, 0), (24, 0)], 0, 5)
def xc_1000_e : List xEn := []
def xc_1000_m : List (Nat × zm_M) := [(85, zm_m85), (86, zm_m86), (88, zm_m88)]
def xc_1000_u : List xCo := [xc_19, xc_13]
set_option maxRecDepth 100000 in
theorem xc_1000_0 : xchk0 xVV xc_1000_m xc_1000_u xc_1000 xc_1000_e 59 = true := by decide +kernel
set_option maxRecDepth 100000 in
theorem xc_1000_1 : xc_1000_e.all (xchk1 xVV xc_1000_m xc_1000_u xc_1000 xc_1000_e 59) = true := by decide +kernel
theorem xv_1000 {og : Nat → Option zm_C} : xV xVV xX xW og xc_1000 := xchk_ok (n := 59) (MT := xc_1000_m) (CT := xc_1000_u) (E := xc_1000_e) (by
  simp only [xc_1000_m, List.forall_mem_cons]
  exact ⟨rfl, rfl, rfl, fun _ h => by cases h⟩) (by
  simp only [xc_1000_u, List.forall_mem_cons]
  exact ⟨xv_19, xv_13, fun _ h => by cases h⟩) xFl_good xXW_ok xc_1000_0 (List.all_eq_true.mp xc_1000_1)
def xc_1001 : xCo := (85, ([(0, (3, xk 0, 7)), (1, (3, xk 0, 16)), (2, (4, xk 0, 0)), (3, (0, (.ofNat 0, [(0, .ofNat 1)]), 0)), (4, (0, (.ofNat 0, [(1, .ofNat 1)]), 0))], [], ((([(0, .negSucc 2147483647, .ofNat 2147483647), (1, .negSucc 2147483647, .ofNat 2147483647)], []), 2), [207], [], [], 0)), [(some (0, (.ofNat 0, [(2, .ofNat 1)]), 0), ((([(2, .negSucc 2147483647, .ofNat 2147483647)], []), 3), [207], [], [], 0))], [(23, 0)], 0, 4)
def xc_1001_e : List xEn := []
def xc_1001_m : List (Nat × zm_M) := [(85, zm_m85), (86, zm_m86), (88, zm_m88)]
def xc_1001_u : List xCo := [xc_23, xc_13]
set_option maxRecDepth 100000 in
theorem xc_1001_0 : xchk0 xVV xc_1001_m xc_1001_u xc_1001 xc_1001_e 59 = true := by decide +kernel
set_option maxRecDepth 100000 in
theorem xc_1001_1 : xc_1001_e.all (xchk1 xVV xc_1001_m xc_1001_u xc_1001 xc_1001_e 59) = true := by decide +kernel
theorem xv_1001 {og : Nat → Option zm_C} : xV xVV xX xW og xc_1001 := xchk_ok (n := 59) (MT := xc_1001_m) (CT := xc_1001_u) (E := xc_1001_e) (by
  simp only [xc_1001_m, List.forall_mem_cons]
  exact ⟨rfl, rfl, rfl, fun _ h => by cases h⟩) (by
  simp only [xc_1001_u, List.forall_mem_cons]
  exact ⟨xv_23, xv_13, fun _ h => by cases h⟩) xFl_good xXW_ok xc_1001_0 (List.all_eq_true.mp xc_1001_1)
theorem zc_countT {og : Nat → Option zm_C} {τ : List Nat} {h : zm_H} {tt b : Nat} {y w : Int32} (ht : τ[tt]? = some 200) (hb : τ[b]? = some 207) (hH : xHI xKT xSG τ h) (hX : xX τ h) : zm_Y og 5 85 0 [(0, .ref 7), (1, .ref tt), (2, .ref b), (3, .int y), (4, .int w)] [] h (xOF τ h 0 [(23, 0), (24, 0)] (fun r _ _ => ∃ i : Int32, r = some (.int i))) := by
  have ea : xI32a = -2147483648 := rfl
  have eb : xI32b = 2147483647 := rfl
  refine (xv_1000 (og := og) [y.toInt, w.toInt] [tt, b] τ h _ hH hX ⟨⟨⟨?_, ?_⟩, rfl⟩, ⟨rfl, fun k kd hk => ?_⟩, ?_, ?_⟩ ?_).mono (fun r h' hq => ?_)
  · intro q hq
    simp only [xc_1000, List.mem_cons, List.not_mem_nil, or_false] at hq
    rcases hq with rfl | rfl
    · exact ⟨_, rfl, (xb_rng y).1, (xb_rng y).2⟩
    · exact ⟨_, rfl, (xb_rng w).1, (xb_rng w).2⟩
  · intro q hq; cases hq
  · have hk : ([200, 207] : List Nat)[k]? = some kd := hk
    match k, hk with
    | 0, hk => cases hk; exact ⟨tt, rfl, ht⟩
    | 1, hk => cases hk; exact ⟨b, rfl, hb⟩
    | k + 2, hk => simp at hk
  · intro q hq; cases hq
  · intro q hq; cases hq
  · intro q hq
    simp only [xc_1000, List.mem_cons, List.not_mem_nil, or_false] at hq
    rcases hq with rfl | rfl | rfl | rfl | rfl
    · exact ⟨_, rfl, rfl⟩
    · exact ⟨_, rfl, tt, rfl, rfl⟩
    · exact ⟨_, rfl, b, rfl, rfl⟩
    · exact ⟨_, rfl, y, rfl, xe_sym (s := 0) rfl⟩
    · exact ⟨_, rfl, w, rfl, xe_sym (s := 1) rfl⟩
  obtain ⟨τ', a1, a2, a3, a4, p, hp, r', s', a5, a6⟩ := hq
  have hp := List.mem_singleton.mp hp
  subst hp
  cases r with
  | none => cases a6
  | some w =>
    obtain ⟨i, rfl, -⟩ := a6
    exact ⟨τ', ⟨i, rfl⟩, a1, a2, a4, a3⟩
theorem zc_countN {og : Nat → Option zm_C} {τ : List Nat} {h : zm_H} {b : Nat} {y w : Int32} (hb : τ[b]? = some 207) (hH : xHI xKT xSG τ h) (hX : xX τ h) : zm_Y og 4 85 0 [(0, .ref 7), (1, .ref 16), (2, .ref b), (3, .int y), (4, .int w)] [] h (xOF τ h 0 [(23, 0)] (fun r _ _ => ∃ i : Int32, r = some (.int i))) := by
  have ea : xI32a = -2147483648 := rfl
  have eb : xI32b = 2147483647 := rfl
  refine (xv_1001 (og := og) [y.toInt, w.toInt] [b] τ h _ hH hX ⟨⟨⟨?_, ?_⟩, rfl⟩, ⟨rfl, fun k kd hk => ?_⟩, ?_, ?_⟩ ?_).mono (fun r h' hq => ?_)
  · intro q hq
    simp only [xc_1001, List.mem_cons, List.not_mem_nil, or_false] at hq
    rcases hq with rfl | rfl
    · exact ⟨_, rfl, (xb_rng y).1, (xb_rng y).2⟩
    · exact ⟨_, rfl, (xb_rng w).1, (xb_rng w).2⟩
  · intro q hq; cases hq
  · have hk : ([207] : List Nat)[k]? = some kd := hk
    match k, hk with
    | 0, hk => cases hk; exact ⟨b, rfl, hb⟩
    | k + 1, hk => simp at hk
  · intro q hq; cases hq
  · intro q hq; cases hq
  · intro q hq
    simp only [xc_1001, List.mem_cons, List.not_mem_nil, or_false] at hq
    rcases hq with rfl | rfl | rfl | rfl | rfl
    · exact ⟨_, rfl, rfl⟩
    · exact ⟨_, rfl, rfl⟩
    · exact ⟨_, rfl, b, rfl, rfl⟩
    · exact ⟨_, rfl, y, rfl, xe_sym (s := 0) rfl⟩
    · exact ⟨_, rfl, w, rfl, xe_sym (s := 1) rfl⟩
  obtain ⟨τ', a1, a2, a3, a4, p, hp, r', s', a5, a6⟩ := hq
  have hp := List.mem_singleton.mp hp
  subst hp
  cases r with
  | none => cases a6
  | some w =>
    obtain ⟨i, rfl, -⟩ := a6
    exact ⟨τ', ⟨i, rfl⟩, a1, a2, a4, a3⟩
theorem zc_actOf {og : Nat → Option zm_C} {τ : List Nat} {h : zm_H} {y : Int32} (hH : xHI xKT xSG τ h) (hX : xX τ h) : zm_Y og 0 75 0 [(0, .ref 7), (1, .int y)] [] h (xOF τ h 0 [] (fun r τ' _ => ∃ tt : Nat, r = some (.ref tt) ∧ (tt = 16 ∨ τ'[tt]? = some 200))) := by
  have ea : xI32a = -2147483648 := rfl
  have eb : xI32b = 2147483647 := rfl
  refine (xv_15 (og := og) [y.toInt] [] τ h _ hH hX ⟨⟨⟨?_, ?_⟩, rfl⟩, ⟨rfl, fun k kd hk => ?_⟩, ?_, ?_⟩ ?_).mono (fun r h' hq => ?_)
  · intro q hq
    simp only [xc_15, List.mem_cons, List.not_mem_nil, or_false] at hq
    rcases hq with rfl
    · exact ⟨_, rfl, (xb_rng y).1, (xb_rng y).2⟩
  · intro q hq; cases hq
  · simp [xc_15] at hk
  · intro q hq; cases hq
  · intro q hq; cases hq
  · intro q hq
    simp only [xc_15, List.mem_cons, List.not_mem_nil, or_false] at hq
    rcases hq with rfl | rfl
    · exact ⟨_, rfl, rfl⟩
    · exact ⟨_, rfl, y, rfl, xe_sym (s := 0) rfl⟩
  obtain ⟨τ', a1, a2, a3, a4, p, hp, r', s', a5, a6⟩ := hq
  simp only [xc_15, List.mem_cons, List.not_mem_nil, or_false] at hp
  rcases hp with rfl | rfl
  · cases r with
    | none => cases a6
    | some w =>
      obtain ⟨b, b1, rfl⟩ := a6
      obtain ⟨b2, c1, c2⟩ := a5.2.1.2 0 200 rfl
      rw [show ([] ++ s')[0]? = some b from b1] at c1
      cases c1
      exact ⟨τ', ⟨_, rfl, Or.inr c2⟩, a1, a2, a4, a3⟩
  · cases r with
    | none => cases a6
    | some w =>
      have a6 : w = .ref 16 := a6
      subst a6
      exact ⟨τ', ⟨16, rfl, Or.inl rfl⟩, a1, a2, a4, a3⟩
theorem zc_mactOf {og : Nat → Option zm_C} {τ : List Nat} {h : zm_H} {y : Int32} (hH : xHI xKT xSG τ h) (hX : xX τ h) : zm_Y og 0 233 0 [(0, .ref 55), (1, .int y)] [] h (xOF τ h 0 [] (fun r _ _ => ∃ i : Int32, r = some (.int i) ∧ (-1) ≤ i.toInt ∧ i.toInt ≤ 11)) := by
  have ea : xI32a = -2147483648 := rfl
  have eb : xI32b = 2147483647 := rfl
  refine (xv_240 (og := og) [y.toInt] [] τ h _ hH hX ⟨⟨⟨?_, ?_⟩, rfl⟩, ⟨rfl, fun k kd hk => ?_⟩, ?_, ?_⟩ ?_).mono (fun r h' hq => ?_)
  · intro q hq
    simp only [xc_240, List.mem_cons, List.not_mem_nil, or_false] at hq
    rcases hq with rfl
    · exact ⟨_, rfl, (xb_rng y).1, (xb_rng y).2⟩
  · intro q hq; cases hq
  · simp [xc_240] at hk
  · intro q hq; cases hq
  · intro q hq; cases hq
  · intro q hq
    simp only [xc_240, List.mem_cons, List.not_mem_nil, or_false] at hq
    rcases hq with rfl | rfl
    · exact ⟨_, rfl, rfl⟩
    · exact ⟨_, rfl, y, rfl, xe_sym (s := 0) rfl⟩
  obtain ⟨τ', a1, a2, a3, a4, p, hp, r', s', a5, a6⟩ := hq
  have hp := List.mem_singleton.mp hp
  subst hp
  cases r with
  | none => cases a6
  | some w =>
    obtain ⟨i, rfl, b1⟩ := a6
    obtain ⟨x, x1, x2, x3⟩ := a5.1.1.1 _ List.mem_cons_self
    have x1 : ([y.toInt] ++ r')[1]? = some x := x1
    have b1 : xe ([y.toInt] ++ r') (.ofNat 0, [(1, .ofNat 1)]) = some i.toInt := b1
    have b2 : xe ([y.toInt] ++ r') (.ofNat 0, [(1, .ofNat 1)]) = some x := xe_sym (s := 1) x1
    rw [b2] at b1
    have e := Option.some.inj b1
    have x2 : ((-1) : Int) ≤ x := x2
    have x3 : x ≤ (11 : Int) := x3
    exact ⟨τ', ⟨i, rfl, by omega, by omega⟩, a1, a2, a4, a3⟩
theorem zc_msetOf {og : Nat → Option zm_C} {τ : List Nat} {h : zm_H} {a w : Int32} (hH : xHI xKT xSG τ h) (hX : xX τ h) (ra : 0 ≤ a.toInt ∧ a.toInt ≤ 15) : zm_Y og 0 236 0 [(0, .ref 55), (1, .int a), (2, .int w)] [] h (xOF τ h 0 [] (fun r _ _ => ∃ i : Int32, r = some (.int i))) := by
  have ea : xI32a = -2147483648 := rfl
  have eb : xI32b = 2147483647 := rfl
  refine (xv_238 (og := og) [a.toInt, w.toInt] [] τ h _ hH hX ⟨⟨⟨?_, ?_⟩, rfl⟩, ⟨rfl, fun k kd hk => ?_⟩, ?_, ?_⟩ ?_).mono (fun r h' hq => ?_)
  · intro q hq
    simp only [xc_238, List.mem_cons, List.not_mem_nil, or_false] at hq
    rcases hq with rfl | rfl
    · exact ⟨_, rfl, ra.1, ra.2⟩
    · exact ⟨_, rfl, (xb_rng w).1, (xb_rng w).2⟩
  · intro q hq; cases hq
  · simp [xc_238] at hk
  · intro q hq; cases hq
  · intro q hq; cases hq
  · intro q hq
    simp only [xc_238, List.mem_cons, List.not_mem_nil, or_false] at hq
    rcases hq with rfl | rfl | rfl
    · exact ⟨_, rfl, rfl⟩
    · exact ⟨_, rfl, a, rfl, xe_sym (s := 0) rfl⟩
    · exact ⟨_, rfl, w, rfl, xe_sym (s := 1) rfl⟩
  obtain ⟨τ', a1, a2, a3, a4, p, hp, r', s', a5, a6⟩ := hq
  have hp := List.mem_singleton.mp hp
  subst hp
  cases r with
  | none => cases a6
  | some w =>
    obtain ⟨i, rfl, -⟩ := a6
    exact ⟨τ', ⟨i, rfl⟩, a1, a2, a4, a3⟩
theorem zc_mcountOf {og : Nat → Option zm_C} {τ : List Nat} {h : zm_H} {t a y s : Int32} (hH : xHI xKT xSG τ h) (hX : xX τ h) (rt : (-1) ≤ t.toInt ∧ t.toInt ≤ 14) (ra : 0 ≤ a.toInt ∧ a.toInt ≤ 15) : zm_Y og 48 237 0 [(0, .ref 55), (1, .int t), (2, .int a), (3, .int y), (4, .int s)] [] h (xOF τ h 0 [(55, 51), (55, 56), (55, 57), (55, 58), (55, 59), (55, 60), (55, 61), (55, 62), (55, 63), (55, 64), (55, 65), (55, 66), (55, 67), (55, 69), (55, 70), (55, 71), (55, 72), (55, 73), (55, 74), (55, 75), (55, 76), (55, 77), (55, 78), (55, 79), (55, 80)] (fun r _ _ => ∃ i : Int32, r = some (.int i))) := by
  have ea : xI32a = -2147483648 := rfl
  have eb : xI32b = 2147483647 := rfl
  refine (xv_244 (og := og) [t.toInt, a.toInt, y.toInt, s.toInt] [] τ h _ hH hX ⟨⟨⟨?_, ?_⟩, rfl⟩, ⟨rfl, fun k kd hk => ?_⟩, ?_, ?_⟩ ?_).mono (fun r h' hq => ?_)
  · intro q hq
    simp only [xc_244, List.mem_cons, List.not_mem_nil, or_false] at hq
    rcases hq with rfl | rfl | rfl | rfl
    · exact ⟨_, rfl, rt.1, rt.2⟩
    · exact ⟨_, rfl, ra.1, ra.2⟩
    · exact ⟨_, rfl, (xb_rng y).1, (xb_rng y).2⟩
    · exact ⟨_, rfl, (xb_rng s).1, (xb_rng s).2⟩
  · intro q hq; cases hq
  · simp [xc_244] at hk
  · intro q hq; cases hq
  · intro q hq; cases hq
  · intro q hq
    simp only [xc_244, List.mem_cons, List.not_mem_nil, or_false] at hq
    rcases hq with rfl | rfl | rfl | rfl | rfl
    · exact ⟨_, rfl, rfl⟩
    · exact ⟨_, rfl, t, rfl, xe_sym (s := 0) rfl⟩
    · exact ⟨_, rfl, a, rfl, xe_sym (s := 1) rfl⟩
    · exact ⟨_, rfl, y, rfl, xe_sym (s := 2) rfl⟩
    · exact ⟨_, rfl, s, rfl, xe_sym (s := 3) rfl⟩
  obtain ⟨τ', a1, a2, a3, a4, p, hp, r', s', a5, a6⟩ := hq
  have hp := List.mem_singleton.mp hp
  subst hp
  cases r with
  | none => cases a6
  | some w =>
    obtain ⟨i, rfl, -⟩ := a6
    exact ⟨τ', ⟨i, rfl⟩, a1, a2, a4, a3⟩
def xc_1002 : xCo := (124, ([(0, (3, xk 0, 27)), (1, (0, (.ofNat 0, [(0, .ofNat 1)]), 0)), (2, (0, (.ofNat 0, [(1, .ofNat 1)]), 0)), (3, (0, (.ofNat 0, [(2, .ofNat 1)]), 0)), (4, (0, (.ofNat 0, [(3, .ofNat 1)]), 0)), (5, (0, (.ofNat 0, [(4, .ofNat 1)]), 0)), (6, (0, (.ofNat 0, [(5, .ofNat 1)]), 0))], [], ((([(0, .ofNat 0, .ofNat 15), (1, .ofNat 0, .ofNat 99), (2, .negSucc 2147483647, .ofNat 2147483647), (3, .ofNat 0, .ofNat 2), (4, .negSucc 0, .ofNat 3), (5, .ofNat 0, .ofNat 99), (6, .ofNat 0, .ofNat 1199)], []), 7), [], [((3, xk 0, 27), 6, (0, (.ofNat 0, [(6, .ofNat 1)]), 0))], [], 0)), [(none, ((([], []), 7), [], [((3, xk 0, 27), 6, (0, (.ofNat 1, [(6, .ofNat 1)]), 0))], [], 0))], [(27, 6), (28, 0), (29, 0), (30, 0), (31, 0), (32, 0), (33, 0)], 0, 0)
def xc_1002_e : List xEn := []
def xc_1002_m : List (Nat × zm_M) := [(124, zm_m124)]
def xc_1002_u : List xCo := []
set_option maxRecDepth 100000 in
theorem xc_1002_0 : xchk0 xVV xc_1002_m xc_1002_u xc_1002 xc_1002_e 97 = true := by decide +kernel
set_option maxRecDepth 100000 in
theorem xc_1002_1 : xc_1002_e.all (xchk1 xVV xc_1002_m xc_1002_u xc_1002 xc_1002_e 97) = true := by decide +kernel
theorem xv_1002 {og : Nat → Option zm_C} : xV xVV xX xW og xc_1002 := xchk_ok (n := 97) (MT := xc_1002_m) (CT := xc_1002_u) (E := xc_1002_e) (by
  simp only [xc_1002_m, List.forall_mem_cons]
  exact ⟨rfl, fun _ h => by cases h⟩) (by
  simp only [xc_1002_u, List.forall_mem_cons]
  exact fun _ h => by cases h) xFl_good xXW_ok xc_1002_0 (List.all_eq_true.mp xc_1002_1)
theorem zc_xline {og : Nat → Option zm_C} {τ : List Nat} {h : zm_H} {b y c w v k L : Int32} (hH : xHI xKT xSG τ h) (hX : xX τ h) (rb : 0 ≤ b.toInt ∧ b.toInt ≤ 15) (ry : 0 ≤ y.toInt ∧ y.toInt ≤ 99) (rw : 0 ≤ w.toInt ∧ w.toInt ≤ 2) (rv : (-1) ≤ v.toInt ∧ v.toInt ≤ 3) (rk : 0 ≤ k.toInt ∧ k.toInt ≤ 99) (rL : 0 ≤ L.toInt ∧ L.toInt ≤ 1199) (fL : xfd h 27 6 = some (.int L)) : zm_Y og 0 124 0 [(0, .ref 27), (1, .int b), (2, .int y), (3, .int c), (4, .int w), (5, .int v), (6, .int k)] [] h (xOF τ h 0 [(27, 6), (28, 0), (29, 0), (30, 0), (31, 0), (32, 0), (33, 0)] (fun r _ h1 => r = none ∧ xfd h1 27 6 = some (.int (L + 1)))) := by
  have ea : xI32a = -2147483648 := rfl
  have eb : xI32b = 2147483647 := rfl
  refine (xv_1002 (og := og) [b.toInt, y.toInt, c.toInt, w.toInt, v.toInt, k.toInt, L.toInt] [] τ h _ hH hX ⟨⟨⟨?_, ?_⟩, rfl⟩, ⟨rfl, fun k kd hk => ?_⟩, ?_, ?_⟩ ?_).mono (fun r h' hq => ?_)
  · intro q hq
    simp only [xc_1002, List.mem_cons, List.not_mem_nil, or_false] at hq
    rcases hq with rfl | rfl | rfl | rfl | rfl | rfl | rfl
    · exact ⟨_, rfl, rb.1, rb.2⟩
    · exact ⟨_, rfl, ry.1, ry.2⟩
    · exact ⟨_, rfl, (xb_rng c).1, (xb_rng c).2⟩
    · exact ⟨_, rfl, rw.1, rw.2⟩
    · exact ⟨_, rfl, rv.1, rv.2⟩
    · exact ⟨_, rfl, rk.1, rk.2⟩
    · exact ⟨_, rfl, rL.1, rL.2⟩
  · intro q hq; cases hq
  · simp [xc_1002] at hk
  · intro q hq
    simp only [xc_1002, List.mem_cons, List.not_mem_nil, or_false] at hq
    rcases hq with rfl
    · exact ⟨27, _, rfl, fL, L, rfl, xe_sym (s := 6) rfl⟩
  · intro q hq; cases hq
  · intro q hq
    simp only [xc_1002, List.mem_cons, List.not_mem_nil, or_false] at hq
    rcases hq with rfl | rfl | rfl | rfl | rfl | rfl | rfl
    · exact ⟨_, rfl, rfl⟩
    · exact ⟨_, rfl, b, rfl, xe_sym (s := 0) rfl⟩
    · exact ⟨_, rfl, y, rfl, xe_sym (s := 1) rfl⟩
    · exact ⟨_, rfl, c, rfl, xe_sym (s := 2) rfl⟩
    · exact ⟨_, rfl, w, rfl, xe_sym (s := 3) rfl⟩
    · exact ⟨_, rfl, v, rfl, xe_sym (s := 4) rfl⟩
    · exact ⟨_, rfl, k, rfl, xe_sym (s := 5) rfl⟩
  obtain ⟨τ', a1, a2, a3, a4, p, hp, r', s', a5, a6⟩ := hq
  have hp := List.mem_singleton.mp hp
  subst hp
  cases r with
  | some w => cases a6
  | none =>
    have m0 : xfd h' 27 6 = some (.int (L + 1)) := xmf_g a5.2.2.1 List.mem_cons_self (by show some ((1 : Int) + (1 * L.toInt + 0)) = some (L + 1 : Int32).toInt; rw [Int32.toInt_add, show (1 : Int32).toInt = 1 from rfl, xb_bm32 (by omega) (by omega)]; congr 1; omega)
    exact ⟨τ', ⟨rfl, m0⟩, a1, a2, a4, a3⟩
def xc_1003 : xCo := (262, ([(0, (3, xk 0, 55)), (1, (0, (.ofNat 0, [(0, .ofNat 1)]), 0)), (2, (0, (.ofNat 0, [(1, .ofNat 1)]), 0)), (3, (0, (.ofNat 0, [(2, .ofNat 1)]), 0)), (4, (0, (.ofNat 0, [(3, .ofNat 1)]), 0)), (5, (0, (.ofNat 0, [(4, .ofNat 1)]), 0))], [], ((([(0, .ofNat 0, .ofNat 15), (1, .ofNat 0, .ofNat 99), (2, .negSucc 2147483647, .ofNat 2147483647), (3, .ofNat 0, .ofNat 2), (4, .negSucc 0, .ofNat 3), (5, .ofNat 0, .ofNat 1199)], []), 6), [], [((3, xk 0, 55), 8, (0, (.ofNat 0, [(5, .ofNat 1)]), 0))], [], 0)), [(none, ((([], []), 6), [], [((3, xk 0, 55), 8, (0, (.ofNat 1, [(5, .ofNat 1)]), 0))], [], 0))], [(55, 8), (87, 0), (88, 0), (89, 0), (90, 0), (91, 0), (92, 0)], 0, 0)
def xc_1003_e : List xEn := []
def xc_1003_m : List (Nat × zm_M) := [(262, zm_m262)]
def xc_1003_u : List xCo := []
set_option maxRecDepth 100000 in
theorem xc_1003_0 : xchk0 xVV xc_1003_m xc_1003_u xc_1003 xc_1003_e 94 = true := by decide +kernel
set_option maxRecDepth 100000 in
theorem xc_1003_1 : xc_1003_e.all (xchk1 xVV xc_1003_m xc_1003_u xc_1003 xc_1003_e 94) = true := by decide +kernel
theorem xv_1003 {og : Nat → Option zm_C} : xV xVV xX xW og xc_1003 := xchk_ok (n := 94) (MT := xc_1003_m) (CT := xc_1003_u) (E := xc_1003_e) (by
  simp only [xc_1003_m, List.forall_mem_cons]
  exact ⟨rfl, fun _ h => by cases h⟩) (by
  simp only [xc_1003_u, List.forall_mem_cons]
  exact fun _ h => by cases h) xFl_good xXW_ok xc_1003_0 (List.all_eq_true.mp xc_1003_1)
theorem zc_mline {og : Nat → Option zm_C} {τ : List Nat} {h : zm_H} {b y c w v L : Int32} (hH : xHI xKT xSG τ h) (hX : xX τ h) (rb : 0 ≤ b.toInt ∧ b.toInt ≤ 15) (ry : 0 ≤ y.toInt ∧ y.toInt ≤ 99) (rw : 0 ≤ w.toInt ∧ w.toInt ≤ 2) (rv : (-1) ≤ v.toInt ∧ v.toInt ≤ 3) (rL : 0 ≤ L.toInt ∧ L.toInt ≤ 1199) (fL : xfd h 55 8 = some (.int L)) : zm_Y og 0 262 0 [(0, .ref 55), (1, .int b), (2, .int y), (3, .int c), (4, .int w), (5, .int v)] [] h (xOF τ h 0 [(55, 8), (87, 0), (88, 0), (89, 0), (90, 0), (91, 0), (92, 0)] (fun r _ h1 => r = none ∧ xfd h1 55 8 = some (.int (L + 1)))) := by
  have ea : xI32a = -2147483648 := rfl
  have eb : xI32b = 2147483647 := rfl
  refine (xv_1003 (og := og) [b.toInt, y.toInt, c.toInt, w.toInt, v.toInt, L.toInt] [] τ h _ hH hX ⟨⟨⟨?_, ?_⟩, rfl⟩, ⟨rfl, fun k kd hk => ?_⟩, ?_, ?_⟩ ?_).mono (fun r h' hq => ?_)
  · intro q hq
    simp only [xc_1003, List.mem_cons, List.not_mem_nil, or_false] at hq
    rcases hq with rfl | rfl | rfl | rfl | rfl | rfl
    · exact ⟨_, rfl, rb.1, rb.2⟩
    · exact ⟨_, rfl, ry.1, ry.2⟩
    · exact ⟨_, rfl, (xb_rng c).1, (xb_rng c).2⟩
    · exact ⟨_, rfl, rw.1, rw.2⟩
    · exact ⟨_, rfl, rv.1, rv.2⟩
    · exact ⟨_, rfl, rL.1, rL.2⟩
  · intro q hq; cases hq
  · simp [xc_1003] at hk
  · intro q hq
    simp only [xc_1003, List.mem_cons, List.not_mem_nil, or_false] at hq
    rcases hq with rfl
    · exact ⟨55, _, rfl, fL, L, rfl, xe_sym (s := 5) rfl⟩
  · intro q hq; cases hq
  · intro q hq
    simp only [xc_1003, List.mem_cons, List.not_mem_nil, or_false] at hq
    rcases hq with rfl | rfl | rfl | rfl | rfl | rfl
    · exact ⟨_, rfl, rfl⟩
    · exact ⟨_, rfl, b, rfl, xe_sym (s := 0) rfl⟩
    · exact ⟨_, rfl, y, rfl, xe_sym (s := 1) rfl⟩
    · exact ⟨_, rfl, c, rfl, xe_sym (s := 2) rfl⟩
    · exact ⟨_, rfl, w, rfl, xe_sym (s := 3) rfl⟩
    · exact ⟨_, rfl, v, rfl, xe_sym (s := 4) rfl⟩
  obtain ⟨τ', a1, a2, a3, a4, p, hp, r', s', a5, a6⟩ := hq
  have hp := List.mem_singleton.mp hp
  subst hp
  cases r with
  | some w => cases a6
  | none =>
    have m0 : xfd h' 55 8 = some (.int (L + 1)) := xmf_g a5.2.2.1 List.mem_cons_self (by show some ((1 : Int) + (1 * L.toInt + 0)) = some (L + 1 : Int32).toInt; rw [Int32.toInt_add, show (1 : Int32).toInt = 1 from rfl, xb_bm32 (by omega) (by omega)]; congr 1; omega)
    exact ⟨τ', ⟨rfl, m0⟩, a1, a2, a4, a3⟩
def xc_1004 : xCo := (131, ([(0, (3, xk 0, 0)), (1, (0, (.ofNat 0, [(0, .ofNat 1)]), 0)), (2, (0, (.ofNat 0, [(1, .ofNat 1)]), 0)), (3, (0, (.ofNat 0, [(2, .ofNat 1)]), 0))], [], ((([(0, .negSucc 2147483647, .negSucc 0), (1, .negSucc 2147483647, .ofNat 2147483647), (2, .negSucc 2147483647, .ofNat 2147483647)], []), 3), [], [], [], 0)), [(some (0, (.negSucc 1, []), 0), ((([], []), 3), [], [], [], 0))], [], 0, 2)
def xc_1004_e : List xEn := []
def xc_1004_m : List (Nat × zm_M) := [(10, zm_m10), (18, zm_m18), (131, zm_m131)]
def xc_1004_u : List xCo := []
set_option maxRecDepth 100000 in
theorem xc_1004_0 : xchk0 xVV xc_1004_m xc_1004_u xc_1004 xc_1004_e 69 = true := by decide +kernel
set_option maxRecDepth 100000 in
theorem xc_1004_1 : xc_1004_e.all (xchk1 xVV xc_1004_m xc_1004_u xc_1004 xc_1004_e 69) = true := by decide +kernel
theorem xv_1004 {og : Nat → Option zm_C} : xV xVV xX xW og xc_1004 := xchk_ok (n := 69) (MT := xc_1004_m) (CT := xc_1004_u) (E := xc_1004_e) (by
  simp only [xc_1004_m, List.forall_mem_cons]
  exact ⟨rfl, rfl, rfl, fun _ h => by cases h⟩) (by
  simp only [xc_1004_u, List.forall_mem_cons]
  exact fun _ h => by cases h) xFl_good xXW_ok xc_1004_0 (List.all_eq_true.mp xc_1004_1)
theorem zb_x_late_0 {og : Nat → Option zm_C} {τ : List Nat} {h : zm_H} {a1 a2 a3 : Int32} (hH : xHI xKT xSG τ h) (hX : xX τ h) (cc : a1.toInt ≤ (-1)) : zm_Y og 2 131 0 [(0, .ref 0), (1, .int a1), (2, .int a2), (3, .int a3)] [] h (xOF τ h 0 [] (fun r _ h1 => (r = some (.int (-2))))) := by
  have ea : xI32a = -2147483648 := rfl
  have eb : xI32b = 2147483647 := rfl
  have ra1 := xb_rng a1
  have ra2 := xb_rng a2
  have ra3 := xb_rng a3
  rw [ea, eb] at ra1 ra2 ra3
  refine (xv_1004 (og := og) [a1.toInt, a2.toInt, a3.toInt] [] τ h _ hH hX ⟨⟨⟨?_, ?_⟩, rfl⟩, ⟨rfl, fun k kd hk => ?_⟩, ?_, ?_⟩ ?_).mono (fun r h' hq => ?_)
  · intro q hq
    simp only [xc_1004, List.mem_cons, List.not_mem_nil, or_false] at hq
    rcases hq with rfl | rfl | rfl
    · exact ⟨_, rfl, by show (-2147483648) ≤ a1.toInt; omega, by show a1.toInt ≤ (-1); omega⟩
    · exact ⟨_, rfl, by show (-2147483648) ≤ a2.toInt; omega, by show a2.toInt ≤ 2147483647; omega⟩
    · exact ⟨_, rfl, by show (-2147483648) ≤ a3.toInt; omega, by show a3.toInt ≤ 2147483647; omega⟩
  · intro q hq; cases hq
  · simp [xc_1004] at hk
  · intro q hq; cases hq
  · intro q hq; cases hq
  · intro q hq
    simp only [xc_1004, List.mem_cons, List.not_mem_nil, or_false] at hq
    rcases hq with rfl | rfl | rfl | rfl
    · exact ⟨_, rfl, rfl⟩
    · exact ⟨_, rfl, a1, rfl, xe_sym (s := 0) rfl⟩
    · exact ⟨_, rfl, a2, rfl, xe_sym (s := 1) rfl⟩
    · exact ⟨_, rfl, a3, rfl, xe_sym (s := 2) rfl⟩
  obtain ⟨τ', a1, a2, a3, a4, p, hp, r', s', a5, a6⟩ := hq
  have hp := List.mem_singleton.mp hp
  subst hp
  cases r with
  | none => cases a6
  | some w =>
    obtain ⟨i, rfl, b1⟩ := a6
    have ei : i = (-2) := Int32.toInt_inj.mp (Option.some.inj (b1.symm.trans (xe_c (by rfl))))
    exact ⟨τ', by rw [ei], a1, a2, a4, a3⟩
def xc_1005 : xCo := (131, ([(0, (3, xk 0, 0)), (1, (0, (.ofNat 0, [(0, .ofNat 1)]), 0)), (2, (0, (.ofNat 0, [(1, .ofNat 1)]), 0)), (3, (0, (.ofNat 0, [(2, .ofNat 1)]), 0))], [], ((([(0, .ofNat 0, .ofNat 2147483647), (1, .negSucc 2147483647, .ofNat 2147483647), (2, .negSucc 2147483647, .ofNat 2147483647), (3, .ofNat 0, .ofNat 16)], [(.ofNat 0, [(3, .negSucc 0), (0, .ofNat 1)])]), 4), [], [((3, xk 0, 0), 1, (0, (.ofNat 0, [(3, .ofNat 1)]), 0))], [], 0)), [(some (0, (.negSucc 1, []), 0), ((([], []), 4), [], [], [], 0))], [], 0, 2)
def xc_1005_e : List xEn := []
def xc_1005_m : List (Nat × zm_M) := [(10, zm_m10), (18, zm_m18), (131, zm_m131)]
def xc_1005_u : List xCo := []
set_option maxRecDepth 100000 in
theorem xc_1005_0 : xchk0 xVV xc_1005_m xc_1005_u xc_1005 xc_1005_e 72 = true := by decide +kernel
set_option maxRecDepth 100000 in
theorem xc_1005_1 : xc_1005_e.all (xchk1 xVV xc_1005_m xc_1005_u xc_1005 xc_1005_e 72) = true := by decide +kernel
theorem xv_1005 {og : Nat → Option zm_C} : xV xVV xX xW og xc_1005 := xchk_ok (n := 72) (MT := xc_1005_m) (CT := xc_1005_u) (E := xc_1005_e) (by
  simp only [xc_1005_m, List.forall_mem_cons]
  exact ⟨rfl, rfl, rfl, fun _ h => by cases h⟩) (by
  simp only [xc_1005_u, List.forall_mem_cons]
  exact fun _ h => by cases h) xFl_good xXW_ok xc_1005_0 (List.all_eq_true.mp xc_1005_1)
theorem zb_x_late_1 {og : Nat → Option zm_C} {τ : List Nat} {h : zm_H} {a1 a2 a3 n : Int32} (hH : xHI xKT xSG τ h) (hX : xX τ h) (fn : xfd h 0 1 = some (.int n)) (cc : 0 ≤ a1.toInt ∧ 0 ≤ n.toInt ∧ n.toInt ≤ 16 ∧ 0 ≤ 0 + 1 * a1.toInt + (-1) * n.toInt) : zm_Y og 2 131 0 [(0, .ref 0), (1, .int a1), (2, .int a2), (3, .int a3)] [] h (xOF τ h 0 [] (fun r _ h1 => (r = some (.int (-2))))) := by
  have ea : xI32a = -2147483648 := rfl
  have eb : xI32b = 2147483647 := rfl
  have ra1 := xb_rng a1
  have ra2 := xb_rng a2
  have ra3 := xb_rng a3
  rw [ea, eb] at ra1 ra2 ra3
  refine (xv_1005 (og := og) [a1.toInt, a2.toInt, a3.toInt, n.toInt] [] τ h _ hH hX ⟨⟨⟨?_, ?_⟩, rfl⟩, ⟨rfl, fun k kd hk => ?_⟩, ?_, ?_⟩ ?_).mono (fun r h' hq => ?_)
  · intro q hq
    simp only [xc_1005, List.mem_cons, List.not_mem_nil, or_false] at hq
    rcases hq with rfl | rfl | rfl | rfl
    · exact ⟨_, rfl, by show 0 ≤ a1.toInt; omega, by show a1.toInt ≤ 2147483647; omega⟩
    · exact ⟨_, rfl, by show (-2147483648) ≤ a2.toInt; omega, by show a2.toInt ≤ 2147483647; omega⟩
    · exact ⟨_, rfl, by show (-2147483648) ≤ a3.toInt; omega, by show a3.toInt ≤ 2147483647; omega⟩
    · exact ⟨_, rfl, by show 0 ≤ n.toInt; omega, by show n.toInt ≤ 16; omega⟩
  · intro q hq
    simp only [xc_1005, List.mem_cons, List.not_mem_nil, or_false] at hq
    rcases hq with rfl
    · refine ⟨_, rfl, ?_⟩; show (0 : Int) ≤ 0 + ((-1) * n.toInt + (1 * a1.toInt + (0))); omega
  · simp [xc_1005] at hk
  · intro q hq
    simp only [xc_1005, List.mem_cons, List.not_mem_nil, or_false] at hq
    rcases hq with rfl
    · exact ⟨0, _, rfl, fn, _, rfl, xe_sym (s := 3) rfl⟩
  · intro q hq; cases hq
  · intro q hq
    simp only [xc_1005, List.mem_cons, List.not_mem_nil, or_false] at hq
    rcases hq with rfl | rfl | rfl | rfl
    · exact ⟨_, rfl, rfl⟩
    · exact ⟨_, rfl, a1, rfl, xe_sym (s := 0) rfl⟩
    · exact ⟨_, rfl, a2, rfl, xe_sym (s := 1) rfl⟩
    · exact ⟨_, rfl, a3, rfl, xe_sym (s := 2) rfl⟩
  obtain ⟨τ', a1, a2, a3, a4, p, hp, r', s', a5, a6⟩ := hq
  have hp := List.mem_singleton.mp hp
  subst hp
  cases r with
  | none => cases a6
  | some w =>
    obtain ⟨i, rfl, b1⟩ := a6
    have ei : i = (-2) := Int32.toInt_inj.mp (Option.some.inj (b1.symm.trans (xe_c (by rfl))))
    exact ⟨τ', by rw [ei], a1, a2, a4, a3⟩
def xc_1006 : xCo := (131, ([(0, (3, xk 0, 0)), (1, (0, (.ofNat 0, [(0, .ofNat 1)]), 0)), (2, (0, (.ofNat 0, [(1, .ofNat 1)]), 0)), (3, (0, (.ofNat 0, [(2, .ofNat 1)]), 0))], [], ((([(0, .ofNat 0, .ofNat 2147483647), (1, .negSucc 2147483647, .negSucc 0), (2, .negSucc 2147483647, .ofNat 2147483647), (3, .ofNat 0, .ofNat 16)], [(.negSucc 0, [(3, .ofNat 1), (0, .negSucc 0)])]), 4), [], [((3, xk 0, 0), 1, (0, (.ofNat 0, [(3, .ofNat 1)]), 0))], [], 0)), [(some (0, (.negSucc 1, []), 0), ((([], []), 4), [], [], [], 0))], [], 0, 2)
def xc_1006_e : List xEn := []
def xc_1006_m : List (Nat × zm_M) := [(10, zm_m10), (18, zm_m18), (131, zm_m131)]
def xc_1006_u : List xCo := []
set_option maxRecDepth 100000 in
theorem xc_1006_0 : xchk0 xVV xc_1006_m xc_1006_u xc_1006 xc_1006_e 86 = true := by decide +kernel
set_option maxRecDepth 100000 in
theorem xc_1006_1 : xc_1006_e.all (xchk1 xVV xc_1006_m xc_1006_u xc_1006 xc_1006_e 86) = true := by decide +kernel
theorem xv_1006 {og : Nat → Option zm_C} : xV xVV xX xW og xc_1006 := xchk_ok (n := 86) (MT := xc_1006_m) (CT := xc_1006_u) (E := xc_1006_e) (by
  simp only [xc_1006_m, List.forall_mem_cons]
  exact ⟨rfl, rfl, rfl, fun _ h => by cases h⟩) (by
  simp only [xc_1006_u, List.forall_mem_cons]
  exact fun _ h => by cases h) xFl_good xXW_ok xc_1006_0 (List.all_eq_true.mp xc_1006_1)
theorem zb_x_late_2 {og : Nat → Option zm_C} {τ : List Nat} {h : zm_H} {a1 a2 a3 n : Int32} (hH : xHI xKT xSG τ h) (hX : xX τ h) (fn : xfd h 0 1 = some (.int n)) (cc : 0 ≤ a1.toInt ∧ a2.toInt ≤ (-1) ∧ 0 ≤ n.toInt ∧ n.toInt ≤ 16 ∧ 0 ≤ (-1) + (-1) * a1.toInt + 1 * n.toInt) : zm_Y og 2 131 0 [(0, .ref 0), (1, .int a1), (2, .int a2), (3, .int a3)] [] h (xOF τ h 0 [] (fun r _ h1 => (r = some (.int (-2))))) := by
  have ea : xI32a = -2147483648 := rfl
  have eb : xI32b = 2147483647 := rfl
  have ra1 := xb_rng a1
  have ra2 := xb_rng a2
  have ra3 := xb_rng a3
  rw [ea, eb] at ra1 ra2 ra3
  refine (xv_1006 (og := og) [a1.toInt, a2.toInt, a3.toInt, n.toInt] [] τ h _ hH hX ⟨⟨⟨?_, ?_⟩, rfl⟩, ⟨rfl, fun k kd hk => ?_⟩, ?_, ?_⟩ ?_).mono (fun r h' hq => ?_)
  · intro q hq
    simp only [xc_1006, List.mem_cons, List.not_mem_nil, or_false] at hq
    rcases hq with rfl | rfl | rfl | rfl
    · exact ⟨_, rfl, by show 0 ≤ a1.toInt; omega, by show a1.toInt ≤ 2147483647; omega⟩
    · exact ⟨_, rfl, by show (-2147483648) ≤ a2.toInt; omega, by show a2.toInt ≤ (-1); omega⟩
    · exact ⟨_, rfl, by show (-2147483648) ≤ a3.toInt; omega, by show a3.toInt ≤ 2147483647; omega⟩
    · exact ⟨_, rfl, by show 0 ≤ n.toInt; omega, by show n.toInt ≤ 16; omega⟩
  · intro q hq
    simp only [xc_1006, List.mem_cons, List.not_mem_nil, or_false] at hq
    rcases hq with rfl
    · refine ⟨_, rfl, ?_⟩; show (0 : Int) ≤ (-1) + (1 * n.toInt + ((-1) * a1.toInt + (0))); omega
  · simp [xc_1006] at hk
  · intro q hq
    simp only [xc_1006, List.mem_cons, List.not_mem_nil, or_false] at hq
    rcases hq with rfl
    · exact ⟨0, _, rfl, fn, _, rfl, xe_sym (s := 3) rfl⟩
  · intro q hq; cases hq
  · intro q hq
    simp only [xc_1006, List.mem_cons, List.not_mem_nil, or_false] at hq
    rcases hq with rfl | rfl | rfl | rfl
    · exact ⟨_, rfl, rfl⟩
    · exact ⟨_, rfl, a1, rfl, xe_sym (s := 0) rfl⟩
    · exact ⟨_, rfl, a2, rfl, xe_sym (s := 1) rfl⟩
    · exact ⟨_, rfl, a3, rfl, xe_sym (s := 2) rfl⟩
  obtain ⟨τ', a1, a2, a3, a4, p, hp, r', s', a5, a6⟩ := hq
  have hp := List.mem_singleton.mp hp
  subst hp
  cases r with
  | none => cases a6
  | some w =>
    obtain ⟨i, rfl, b1⟩ := a6
    have ei : i = (-2) := Int32.toInt_inj.mp (Option.some.inj (b1.symm.trans (xe_c (by rfl))))
    exact ⟨τ', by rw [ei], a1, a2, a4, a3⟩
def xc_1007 : xCo := (131, ([(0, (3, xk 0, 0)), (1, (0, (.ofNat 0, [(0, .ofNat 1)]), 0)), (2, (0, (.ofNat 0, [(1, .ofNat 1)]), 0)), (3, (0, (.ofNat 0, [(2, .ofNat 1)]), 0))], [], ((([(0, .ofNat 0, .ofNat 2147483647), (1, .ofNat 0, .ofNat 2147483647), (2, .negSucc 2147483647, .ofNat 2147483647), (3, .ofNat 0, .ofNat 16), (4, .ofNat 0, .ofNat 99)], [(.negSucc 0, [(3, .ofNat 1), (0, .negSucc 0)]), (.ofNat 0, [(4, .negSucc 0), (1, .ofNat 1)])]), 5), [], [((3, xk 0, 0), 1, (0, (.ofNat 0, [(3, .ofNat 1)]), 0)), ((3, xk 0, 0), 3, (0, (.ofNat 0, [(4, .ofNat 1)]), 0))], [], 0)), [(some (0, (.negSucc 1, []), 0), ((([], []), 5), [], [], [], 0))], [], 0, 2)
def xc_1007_e : List xEn := []
def xc_1007_m : List (Nat × zm_M) := [(10, zm_m10), (18, zm_m18), (131, zm_m131)]
def xc_1007_u : List xCo := []
set_option maxRecDepth 100000 in
theorem xc_1007_0 : xchk0 xVV xc_1007_m xc_1007_u xc_1007 xc_1007_e 89 = true := by decide +kernel
set_option maxRecDepth 100000 in
theorem xc_1007_1 : xc_1007_e.all (xchk1 xVV xc_1007_m xc_1007_u xc_1007 xc_1007_e 89) = true := by decide +kernel
theorem xv_1007 {og : Nat → Option zm_C} : xV xVV xX xW og xc_1007 := xchk_ok (n := 89) (MT := xc_1007_m) (CT := xc_1007_u) (E := xc_1007_e) (by
  simp only [xc_1007_m, List.forall_mem_cons]
  exact ⟨rfl, rfl, rfl, fun _ h => by cases h⟩) (by
  simp only [xc_1007_u, List.forall_mem_cons]
  exact fun _ h => by cases h) xFl_good xXW_ok xc_1007_0 (List.all_eq_true.mp xc_1007_1)
theorem zb_x_late_3 {og : Nat → Option zm_C} {τ : List Nat} {h : zm_H} {a1 a2 a3 n y : Int32} (hH : xHI xKT xSG τ h) (hX : xX τ h) (fn : xfd h 0 1 = some (.int n)) (fy : xfd h 0 3 = some (.int y)) (cc : 0 ≤ a1.toInt ∧ 0 ≤ a2.toInt ∧ 0 ≤ n.toInt ∧ n.toInt ≤ 16 ∧ 0 ≤ y.toInt ∧ y.toInt ≤ 99 ∧ 0 ≤ (-1) + (-1) * a1.toInt + 1 * n.toInt ∧ 0 ≤ 0 + 1 * a2.toInt + (-1) * y.toInt) : zm_Y og 2 131 0 [(0, .ref 0), (1, .int a1), (2, .int a2), (3, .int a3)] [] h (xOF τ h 0 [] (fun r _ h1 => (r = some (.int (-2))))) := by
  have ea : xI32a = -2147483648 := rfl
  have eb : xI32b = 2147483647 := rfl
  have ra1 := xb_rng a1
  have ra2 := xb_rng a2
  have ra3 := xb_rng a3
  rw [ea, eb] at ra1 ra2 ra3
  refine (xv_1007 (og := og) [a1.toInt, a2.toInt, a3.toInt, n.toInt, y.toInt] [] τ h _ hH hX ⟨⟨⟨?_, ?_⟩, rfl⟩, ⟨rfl, fun k kd hk => ?_⟩, ?_, ?_⟩ ?_).mono (fun r h' hq => ?_)
  · intro q hq
    simp only [xc_1007, List.mem_cons, List.not_mem_nil, or_false] at hq
    rcases hq with rfl | rfl | rfl | rfl | rfl
    · exact ⟨_, rfl, by show 0 ≤ a1.toInt; omega, by show a1.toInt ≤ 2147483647; omega⟩
    · exact ⟨_, rfl, by show 0 ≤ a2.toInt; omega, by show a2.toInt ≤ 2147483647; omega⟩
    · exact ⟨_, rfl, by show (-2147483648) ≤ a3.toInt; omega, by show a3.toInt ≤ 2147483647; omega⟩
    · exact ⟨_, rfl, by show 0 ≤ n.toInt; omega, by show n.toInt ≤ 16; omega⟩
    · exact ⟨_, rfl, by show 0 ≤ y.toInt; omega, by show y.toInt ≤ 99; omega⟩
  · intro q hq
    simp only [xc_1007, List.mem_cons, List.not_mem_nil, or_false] at hq
    rcases hq with rfl | rfl
    · refine ⟨_, rfl, ?_⟩; show (0 : Int) ≤ (-1) + (1 * n.toInt + ((-1) * a1.toInt + (0))); omega
    · refine ⟨_, rfl, ?_⟩; show (0 : Int) ≤ 0 + ((-1) * y.toInt + (1 * a2.toInt + (0))); omega
  · simp [xc_1007] at hk
  · intro q hq
    simp only [xc_1007, List.mem_cons, List.not_mem_nil, or_false] at hq
    rcases hq with rfl | rfl
    · exact ⟨0, _, rfl, fn, _, rfl, xe_sym (s := 3) rfl⟩
    · exact ⟨0, _, rfl, fy, _, rfl, xe_sym (s := 4) rfl⟩
  · intro q hq; cases hq
  · intro q hq
    simp only [xc_1007, List.mem_cons, List.not_mem_nil, or_false] at hq
    rcases hq with rfl | rfl | rfl | rfl
    · exact ⟨_, rfl, rfl⟩
    · exact ⟨_, rfl, a1, rfl, xe_sym (s := 0) rfl⟩
    · exact ⟨_, rfl, a2, rfl, xe_sym (s := 1) rfl⟩
    · exact ⟨_, rfl, a3, rfl, xe_sym (s := 2) rfl⟩
  obtain ⟨τ', a1, a2, a3, a4, p, hp, r', s', a5, a6⟩ := hq
  have hp := List.mem_singleton.mp hp
  subst hp
  cases r with
  | none => cases a6
  | some w =>
    obtain ⟨i, rfl, b1⟩ := a6
    have ei : i = (-2) := Int32.toInt_inj.mp (Option.some.inj (b1.symm.trans (xe_c (by rfl))))
    exact ⟨τ', by rw [ei], a1, a2, a4, a3⟩
def xc_1008 : xCo := (131, ([(0, (3, xk 0, 0)), (1, (0, (.ofNat 0, [(0, .ofNat 1)]), 0)), (2, (0, (.ofNat 0, [(1, .ofNat 1)]), 0)), (3, (0, (.ofNat 0, [(2, .ofNat 1)]), 0))], [], ((([(0, .ofNat 0, .ofNat 2147483647), (1, .ofNat 0, .ofNat 2147483647), (2, .negSucc 2147483647, .negSucc 0), (3, .ofNat 0, .ofNat 16), (4, .ofNat 0, .ofNat 99)], [(.negSucc 0, [(3, .ofNat 1), (0, .negSucc 0)]), (.negSucc 0, [(4, .ofNat 1), (1, .negSucc 0)])]), 5), [], [((3, xk 0, 0), 1, (0, (.ofNat 0, [(3, .ofNat 1)]), 0)), ((3, xk 0, 0), 3, (0, (.ofNat 0, [(4, .ofNat 1)]), 0))], [], 0)), [(some (0, (.negSucc 1, []), 0), ((([], []), 5), [], [], [], 0))], [], 0, 2)
def xc_1008_e : List xEn := []
def xc_1008_m : List (Nat × zm_M) := [(10, zm_m10), (18, zm_m18), (131, zm_m131)]
def xc_1008_u : List xCo := []
set_option maxRecDepth 100000 in
theorem xc_1008_0 : xchk0 xVV xc_1008_m xc_1008_u xc_1008 xc_1008_e 100 = true := by decide +kernel
set_option maxRecDepth 100000 in
theorem xc_1008_1 : xc_1008_e.all (xchk1 xVV xc_1008_m xc_1008_u xc_1008 xc_1008_e 100) = true := by decide +kernel
theorem xv_1008 {og : Nat → Option zm_C} : xV xVV xX xW og xc_1008 := xchk_ok (n := 100) (MT := xc_1008_m) (CT := xc_1008_u) (E := xc_1008_e) (by
  simp only [xc_1008_m, List.forall_mem_cons]
  exact ⟨rfl, rfl, rfl, fun _ h => by cases h⟩) (by
  simp only [xc_1008_u, List.forall_mem_cons]
  exact fun _ h => by cases h) xFl_good xXW_ok xc_1008_0 (List.all_eq_true.mp xc_1008_1)
theorem zb_x_late_4 {og : Nat → Option zm_C} {τ : List Nat} {h : zm_H} {a1 a2 a3 n y : Int32} (hH : xHI xKT xSG τ h) (hX : xX τ h) (fn : xfd h 0 1 = some (.int n)) (fy : xfd h 0 3 = some (.int y)) (cc : 0 ≤ a1.toInt ∧ 0 ≤ a2.toInt ∧ a3.toInt ≤ (-1) ∧ 0 ≤ n.toInt ∧ n.toInt ≤ 16 ∧ 0 ≤ y.toInt ∧ y.toInt ≤ 99 ∧ 0 ≤ (-1) + (-1) * a1.toInt + 1 * n.toInt ∧ 0 ≤ (-1) + (-1) * a2.toInt + 1 * y.toInt) : zm_Y og 2 131 0 [(0, .ref 0), (1, .int a1), (2, .int a2), (3, .int a3)] [] h (xOF τ h 0 [] (fun r _ h1 => (r = some (.int (-2))))) := by
  have ea : xI32a = -2147483648 := rfl
  have eb : xI32b = 2147483647 := rfl
  have ra1 := xb_rng a1
  have ra2 := xb_rng a2
  have ra3 := xb_rng a3
  rw [ea, eb] at ra1 ra2 ra3
  refine (xv_1008 (og := og) [a1.toInt, a2.toInt, a3.toInt, n.toInt, y.toInt] [] τ h _ hH hX ⟨⟨⟨?_, ?_⟩, rfl⟩, ⟨rfl, fun k kd hk => ?_⟩, ?_, ?_⟩ ?_).mono (fun r h' hq => ?_)
  · intro q hq
    simp only [xc_1008, List.mem_cons, List.not_mem_nil, or_false] at hq
    rcases hq with rfl | rfl | rfl | rfl | rfl
    · exact ⟨_, rfl, by show 0 ≤ a1.toInt; omega, by show a1.toInt ≤ 2147483647; omega⟩
    · exact ⟨_, rfl, by show 0 ≤ a2.toInt; omega, by show a2.toInt ≤ 2147483647; omega⟩
    · exact ⟨_, rfl, by show (-2147483648) ≤ a3.toInt; omega, by show a3.toInt ≤ (-1); omega⟩
    · exact ⟨_, rfl, by show 0 ≤ n.toInt; omega, by show n.toInt ≤ 16; omega⟩
    · exact ⟨_, rfl, by show 0 ≤ y.toInt; omega, by show y.toInt ≤ 99; omega⟩
  · intro q hq
    simp only [xc_1008, List.mem_cons, List.not_mem_nil, or_false] at hq
    rcases hq with rfl | rfl
    · refine ⟨_, rfl, ?_⟩; show (0 : Int) ≤ (-1) + (1 * n.toInt + ((-1) * a1.toInt + (0))); omega
    · refine ⟨_, rfl, ?_⟩; show (0 : Int) ≤ (-1) + (1 * y.toInt + ((-1) * a2.toInt + (0))); omega
  · simp [xc_1008] at hk
  · intro q hq
    simp only [xc_1008, List.mem_cons, List.not_mem_nil, or_false] at hq
    rcases hq with rfl | rfl
    · exact ⟨0, _, rfl, fn, _, rfl, xe_sym (s := 3) rfl⟩
    · exact ⟨0, _, rfl, fy, _, rfl, xe_sym (s := 4) rfl⟩
  · intro q hq; cases hq
  · intro q hq
    simp only [xc_1008, List.mem_cons, List.not_mem_nil, or_false] at hq
    rcases hq with rfl | rfl | rfl | rfl
    · exact ⟨_, rfl, rfl⟩
    · exact ⟨_, rfl, a1, rfl, xe_sym (s := 0) rfl⟩
    · exact ⟨_, rfl, a2, rfl, xe_sym (s := 1) rfl⟩
    · exact ⟨_, rfl, a3, rfl, xe_sym (s := 2) rfl⟩
  obtain ⟨τ', a1, a2, a3, a4, p, hp, r', s', a5, a6⟩ := hq
  have hp := List.mem_singleton.mp hp
  subst hp
  cases r with
  | none => cases a6
  | some w =>
    obtain ⟨i, rfl, b1⟩ := a6
    have ei : i = (-2) := Int32.toInt_inj.mp (Option.some.inj (b1.symm.trans (xe_c (by rfl))))
    exact ⟨τ', by rw [ei], a1, a2, a4, a3⟩
def xc_1009 : xCo := (131, ([(0, (3, xk 0, 0)), (1, (0, (.ofNat 0, [(0, .ofNat 1)]), 0)), (2, (0, (.ofNat 0, [(1, .ofNat 1)]), 0)), (3, (0, (.ofNat 0, [(2, .ofNat 1)]), 0))], [], ((([(0, .ofNat 0, .ofNat 2147483647), (1, .ofNat 0, .ofNat 2147483647), (2, .ofNat 1001, .ofNat 2147483647), (3, .ofNat 0, .ofNat 16), (4, .ofNat 0, .ofNat 99)], [(.negSucc 0, [(3, .ofNat 1), (0, .negSucc 0)]), (.negSucc 0, [(4, .ofNat 1), (1, .negSucc 0)])]), 5), [], [((3, xk 0, 0), 1, (0, (.ofNat 0, [(3, .ofNat 1)]), 0)), ((3, xk 0, 0), 3, (0, (.ofNat 0, [(4, .ofNat 1)]), 0))], [], 0)), [(some (0, (.negSucc 1, []), 0), ((([], []), 5), [], [], [], 0))], [], 0, 2)
def xc_1009_e : List xEn := []
def xc_1009_m : List (Nat × zm_M) := [(10, zm_m10), (18, zm_m18), (131, zm_m131)]
def xc_1009_u : List xCo := []
set_option maxRecDepth 100000 in
theorem xc_1009_0 : xchk0 xVV xc_1009_m xc_1009_u xc_1009 xc_1009_e 103 = true := by decide +kernel
set_option maxRecDepth 100000 in
theorem xc_1009_1 : xc_1009_e.all (xchk1 xVV xc_1009_m xc_1009_u xc_1009 xc_1009_e 103) = true := by decide +kernel
theorem xv_1009 {og : Nat → Option zm_C} : xV xVV xX xW og xc_1009 := xchk_ok (n := 103) (MT := xc_1009_m) (CT := xc_1009_u) (E := xc_1009_e) (by
  simp only [xc_1009_m, List.forall_mem_cons]
  exact ⟨rfl, rfl, rfl, fun _ h => by cases h⟩) (by
  simp only [xc_1009_u, List.forall_mem_cons]
  exact fun _ h => by cases h) xFl_good xXW_ok xc_1009_0 (List.all_eq_true.mp xc_1009_1)
theorem zb_x_late_5 {og : Nat → Option zm_C} {τ : List Nat} {h : zm_H} {a1 a2 a3 n y : Int32} (hH : xHI xKT xSG τ h) (hX : xX τ h) (fn : xfd h 0 1 = some (.int n)) (fy : xfd h 0 3 = some (.int y)) (cc : 0 ≤ a1.toInt ∧ 0 ≤ a2.toInt ∧ 1001 ≤ a3.toInt ∧ 0 ≤ n.toInt ∧ n.toInt ≤ 16 ∧ 0 ≤ y.toInt ∧ y.toInt ≤ 99 ∧ 0 ≤ (-1) + (-1) * a1.toInt + 1 * n.toInt ∧ 0 ≤ (-1) + (-1) * a2.toInt + 1 * y.toInt) : zm_Y og 2 131 0 [(0, .ref 0), (1, .int a1), (2, .int a2), (3, .int a3)] [] h (xOF τ h 0 [] (fun r _ h1 => (r = some (.int (-2))))) := by
  have ea : xI32a = -2147483648 := rfl
  have eb : xI32b = 2147483647 := rfl
  have ra1 := xb_rng a1
  have ra2 := xb_rng a2
  have ra3 := xb_rng a3
  rw [ea, eb] at ra1 ra2 ra3
  refine (xv_1009 (og := og) [a1.toInt, a2.toInt, a3.toInt, n.toInt, y.toInt] [] τ h _ hH hX ⟨⟨⟨?_, ?_⟩, rfl⟩, ⟨rfl, fun k kd hk => ?_⟩, ?_, ?_⟩ ?_).mono (fun r h' hq => ?_)
  · intro q hq
    simp only [xc_1009, List.mem_cons, List.not_mem_nil, or_false] at hq
    rcases hq with rfl | rfl | rfl | rfl | rfl
    · exact ⟨_, rfl, by show 0 ≤ a1.toInt; omega, by show a1.toInt ≤ 2147483647; omega⟩
    · exact ⟨_, rfl, by show 0 ≤ a2.toInt; omega, by show a2.toInt ≤ 2147483647; omega⟩
    · exact ⟨_, rfl, by show 1001 ≤ a3.toInt; omega, by show a3.toInt ≤ 2147483647; omega⟩
    · exact ⟨_, rfl, by show 0 ≤ n.toInt; omega, by show n.toInt ≤ 16; omega⟩
    · exact ⟨_, rfl, by show 0 ≤ y.toInt; omega, by show y.toInt ≤ 99; omega⟩
  · intro q hq
    simp only [xc_1009, List.mem_cons, List.not_mem_nil, or_false] at hq
    rcases hq with rfl | rfl
    · refine ⟨_, rfl, ?_⟩; show (0 : Int) ≤ (-1) + (1 * n.toInt + ((-1) * a1.toInt + (0))); omega
    · refine ⟨_, rfl, ?_⟩; show (0 : Int) ≤ (-1) + (1 * y.toInt + ((-1) * a2.toInt + (0))); omega
  · simp [xc_1009] at hk
  · intro q hq
    simp only [xc_1009, List.mem_cons, List.not_mem_nil, or_false] at hq
    rcases hq with rfl | rfl
    · exact ⟨0, _, rfl, fn, _, rfl, xe_sym (s := 3) rfl⟩
    · exact ⟨0, _, rfl, fy, _, rfl, xe_sym (s := 4) rfl⟩
  · intro q hq; cases hq
  · intro q hq
    simp only [xc_1009, List.mem_cons, List.not_mem_nil, or_false] at hq
    rcases hq with rfl | rfl | rfl | rfl
    · exact ⟨_, rfl, rfl⟩
    · exact ⟨_, rfl, a1, rfl, xe_sym (s := 0) rfl⟩
    · exact ⟨_, rfl, a2, rfl, xe_sym (s := 1) rfl⟩
    · exact ⟨_, rfl, a3, rfl, xe_sym (s := 2) rfl⟩
  obtain ⟨τ', a1, a2, a3, a4, p, hp, r', s', a5, a6⟩ := hq
  have hp := List.mem_singleton.mp hp
  subst hp
  cases r with
  | none => cases a6
  | some w =>
    obtain ⟨i, rfl, b1⟩ := a6
    have ei : i = (-2) := Int32.toInt_inj.mp (Option.some.inj (b1.symm.trans (xe_c (by rfl))))
    exact ⟨τ', by rw [ei], a1, a2, a4, a3⟩
def xc_1010 : xCo := (131, ([(0, (3, xk 0, 0)), (1, (0, (.ofNat 0, [(0, .ofNat 1)]), 0)), (2, (0, (.ofNat 0, [(1, .ofNat 1)]), 0)), (3, (0, (.ofNat 0, [(2, .ofNat 1)]), 0))], [], ((([(0, .ofNat 0, .ofNat 2147483647), (1, .ofNat 0, .ofNat 2147483647), (2, .ofNat 0, .ofNat 1000), (3, .ofNat 0, .ofNat 16), (4, .ofNat 0, .ofNat 99)], [(.negSucc 0, [(3, .ofNat 1), (0, .negSucc 0)]), (.negSucc 0, [(4, .ofNat 1), (1, .negSucc 0)])]), 5), [], [((3, xk 0, 0), 1, (0, (.ofNat 0, [(3, .ofNat 1)]), 0)), ((3, xk 0, 0), 3, (0, (.ofNat 0, [(4, .ofNat 1)]), 0)), ((3, xk 0, 27), 6, (0, (.ofNat 1200, []), 0))], [], 0)), [(some (0, (.negSucc 2, []), 0), ((([], []), 5), [], [], [], 0))], [], 0, 2)
def xc_1010_e : List xEn := []
def xc_1010_m : List (Nat × zm_M) := [(10, zm_m10), (18, zm_m18), (123, zm_m123), (131, zm_m131)]
def xc_1010_u : List xCo := []
set_option maxRecDepth 100000 in
theorem xc_1010_0 : xchk0 xVV xc_1010_m xc_1010_u xc_1010 xc_1010_e 117 = true := by decide +kernel
set_option maxRecDepth 100000 in
theorem xc_1010_1 : xc_1010_e.all (xchk1 xVV xc_1010_m xc_1010_u xc_1010 xc_1010_e 117) = true := by decide +kernel
theorem xv_1010 {og : Nat → Option zm_C} : xV xVV xX xW og xc_1010 := xchk_ok (n := 117) (MT := xc_1010_m) (CT := xc_1010_u) (E := xc_1010_e) (by
  simp only [xc_1010_m, List.forall_mem_cons]
  exact ⟨rfl, rfl, rfl, rfl, fun _ h => by cases h⟩) (by
  simp only [xc_1010_u, List.forall_mem_cons]
  exact fun _ h => by cases h) xFl_good xXW_ok xc_1010_0 (List.all_eq_true.mp xc_1010_1)
theorem zb_x_late_6 {og : Nat → Option zm_C} {τ : List Nat} {h : zm_H} {a1 a2 a3 n y L : Int32} (hH : xHI xKT xSG τ h) (hX : xX τ h) (fn : xfd h 0 1 = some (.int n)) (fy : xfd h 0 3 = some (.int y)) (fL : xfd h 27 6 = some (.int L)) (cc : 0 ≤ a1.toInt ∧ 0 ≤ a2.toInt ∧ 0 ≤ a3.toInt ∧ a3.toInt ≤ 1000 ∧ 0 ≤ n.toInt ∧ n.toInt ≤ 16 ∧ 0 ≤ y.toInt ∧ y.toInt ≤ 99 ∧ L.toInt = 1200 ∧ 0 ≤ (-1) + (-1) * a1.toInt + 1 * n.toInt ∧ 0 ≤ (-1) + (-1) * a2.toInt + 1 * y.toInt) : zm_Y og 2 131 0 [(0, .ref 0), (1, .int a1), (2, .int a2), (3, .int a3)] [] h (xOF τ h 0 [] (fun r _ h1 => (r = some (.int (-3))))) := by
  have ea : xI32a = -2147483648 := rfl
  have eb : xI32b = 2147483647 := rfl
  have ra1 := xb_rng a1
  have ra2 := xb_rng a2
  have ra3 := xb_rng a3
  rw [ea, eb] at ra1 ra2 ra3
  refine (xv_1010 (og := og) [a1.toInt, a2.toInt, a3.toInt, n.toInt, y.toInt] [] τ h _ hH hX ⟨⟨⟨?_, ?_⟩, rfl⟩, ⟨rfl, fun k kd hk => ?_⟩, ?_, ?_⟩ ?_).mono (fun r h' hq => ?_)
  · intro q hq
    simp only [xc_1010, List.mem_cons, List.not_mem_nil, or_false] at hq
    rcases hq with rfl | rfl | rfl | rfl | rfl
    · exact ⟨_, rfl, by show 0 ≤ a1.toInt; omega, by show a1.toInt ≤ 2147483647; omega⟩
    · exact ⟨_, rfl, by show 0 ≤ a2.toInt; omega, by show a2.toInt ≤ 2147483647; omega⟩
    · exact ⟨_, rfl, by show 0 ≤ a3.toInt; omega, by show a3.toInt ≤ 1000; omega⟩
    · exact ⟨_, rfl, by show 0 ≤ n.toInt; omega, by show n.toInt ≤ 16; omega⟩
    · exact ⟨_, rfl, by show 0 ≤ y.toInt; omega, by show y.toInt ≤ 99; omega⟩
  · intro q hq
    simp only [xc_1010, List.mem_cons, List.not_mem_nil, or_false] at hq
    rcases hq with rfl | rfl
    · refine ⟨_, rfl, ?_⟩; show (0 : Int) ≤ (-1) + (1 * n.toInt + ((-1) * a1.toInt + (0))); omega
    · refine ⟨_, rfl, ?_⟩; show (0 : Int) ≤ (-1) + (1 * y.toInt + ((-1) * a2.toInt + (0))); omega
  · simp [xc_1010] at hk
  · intro q hq
    simp only [xc_1010, List.mem_cons, List.not_mem_nil, or_false] at hq
    rcases hq with rfl | rfl | rfl
    · exact ⟨0, _, rfl, fn, _, rfl, xe_sym (s := 3) rfl⟩
    · exact ⟨0, _, rfl, fy, _, rfl, xe_sym (s := 4) rfl⟩
    · exact ⟨27, _, rfl, fL, _, rfl, xe_c (by show L.toInt = 1200; omega)⟩
  · intro q hq; cases hq
  · intro q hq
    simp only [xc_1010, List.mem_cons, List.not_mem_nil, or_false] at hq
    rcases hq with rfl | rfl | rfl | rfl
    · exact ⟨_, rfl, rfl⟩
    · exact ⟨_, rfl, a1, rfl, xe_sym (s := 0) rfl⟩
    · exact ⟨_, rfl, a2, rfl, xe_sym (s := 1) rfl⟩
    · exact ⟨_, rfl, a3, rfl, xe_sym (s := 2) rfl⟩
  obtain ⟨τ', a1, a2, a3, a4, p, hp, r', s', a5, a6⟩ := hq
  have hp := List.mem_singleton.mp hp
  subst hp
  cases r with
  | none => cases a6
  | some w =>
    obtain ⟨i, rfl, b1⟩ := a6
    have ei : i = (-3) := Int32.toInt_inj.mp (Option.some.inj (b1.symm.trans (xe_c (by rfl))))
    exact ⟨τ', by rw [ei], a1, a2, a4, a3⟩
def xc_1011 : xCo := (131, ([(0, (3, xk 0, 0)), (1, (0, (.ofNat 0, [(0, .ofNat 1)]), 0)), (2, (0, (.ofNat 0, [(1, .ofNat 1)]), 0)), (3, (0, (.ofNat 0, [(2, .ofNat 1)]), 0))], [], ((([(0, .ofNat 0, .ofNat 2147483647), (1, .ofNat 0, .ofNat 2147483647), (2, .ofNat 0, .ofNat 1000), (3, .ofNat 0, .ofNat 16), (4, .ofNat 0, .ofNat 99), (5, .ofNat 0, .ofNat 1199)], [(.negSucc 0, [(3, .ofNat 1), (0, .negSucc 0)]), (.negSucc 0, [(4, .ofNat 1), (1, .negSucc 0)])]), 6), [], [((3, xk 0, 0), 1, (0, (.ofNat 0, [(3, .ofNat 1)]), 0)), ((3, xk 0, 0), 3, (0, (.ofNat 0, [(4, .ofNat 1)]), 0)), ((3, xk 0, 27), 6, (0, (.ofNat 0, [(5, .ofNat 1)]), 0))], [], 0)), [(some (0, (.ofNat 0, []), 0), ((([], []), 6), [], [((3, xk 0, 27), 6, (0, (.ofNat 1, [(5, .ofNat 1)]), 0))], [], 0))], [(27, 6), (28, 0), (29, 0), (30, 0), (31, 0), (32, 0), (33, 0)], 0, 2)
def xc_1011_e : List xEn := []
def xc_1011_m : List (Nat × zm_M) := [(10, zm_m10), (18, zm_m18), (123, zm_m123), (124, zm_m124), (131, zm_m131)]
def xc_1011_u : List xCo := []
set_option maxRecDepth 100000 in
theorem xc_1011_0 : xchk0 xVV xc_1011_m xc_1011_u xc_1011 xc_1011_e 175 = true := by decide +kernel
set_option maxRecDepth 100000 in
theorem xc_1011_1 : xc_1011_e.all (xchk1 xVV xc_1011_m xc_1011_u xc_1011 xc_1011_e 175) = true := by decide +kernel
theorem xv_1011 {og : Nat → Option zm_C} : xV xVV xX xW og xc_1011 := xchk_ok (n := 175) (MT := xc_1011_m) (CT := xc_1011_u) (E := xc_1011_e) (by
  simp only [xc_1011_m, List.forall_mem_cons]
  exact ⟨rfl, rfl, rfl, rfl, rfl, fun _ h => by cases h⟩) (by
  simp only [xc_1011_u, List.forall_mem_cons]
  exact fun _ h => by cases h) xFl_good xXW_ok xc_1011_0 (List.all_eq_true.mp xc_1011_1)
theorem zb_x_late_7 {og : Nat → Option zm_C} {τ : List Nat} {h : zm_H} {a1 a2 a3 n y L : Int32} (hH : xHI xKT xSG τ h) (hX : xX τ h) (fn : xfd h 0 1 = some (.int n)) (fy : xfd h 0 3 = some (.int y)) (fL : xfd h 27 6 = some (.int L)) (cc : 0 ≤ a1.toInt ∧ 0 ≤ a2.toInt ∧ 0 ≤ a3.toInt ∧ a3.toInt ≤ 1000 ∧ 0 ≤ n.toInt ∧ n.toInt ≤ 16 ∧ 0 ≤ y.toInt ∧ y.toInt ≤ 99 ∧ 0 ≤ L.toInt ∧ L.toInt ≤ 1199 ∧ 0 ≤ (-1) + (-1) * a1.toInt + 1 * n.toInt ∧ 0 ≤ (-1) + (-1) * a2.toInt + 1 * y.toInt) : zm_Y og 2 131 0 [(0, .ref 0), (1, .int a1), (2, .int a2), (3, .int a3)] [] h (xOF τ h 0 [(27, 6), (28, 0), (29, 0), (30, 0), (31, 0), (32, 0), (33, 0)] (fun r _ h1 => (r = some (.int 0)) ∧ xfd h1 27 6 = some (.int (L + 1)))) := by
  have ea : xI32a = -2147483648 := rfl
  have eb : xI32b = 2147483647 := rfl
  have ra1 := xb_rng a1
  have ra2 := xb_rng a2
  have ra3 := xb_rng a3
  rw [ea, eb] at ra1 ra2 ra3
  refine (xv_1011 (og := og) [a1.toInt, a2.toInt, a3.toInt, n.toInt, y.toInt, L.toInt] [] τ h _ hH hX ⟨⟨⟨?_, ?_⟩, rfl⟩, ⟨rfl, fun k kd hk => ?_⟩, ?_, ?_⟩ ?_).mono (fun r h' hq => ?_)
  · intro q hq
    simp only [xc_1011, List.mem_cons, List.not_mem_nil, or_false] at hq
    rcases hq with rfl | rfl | rfl | rfl | rfl | rfl
    · exact ⟨_, rfl, by show 0 ≤ a1.toInt; omega, by show a1.toInt ≤ 2147483647; omega⟩
    · exact ⟨_, rfl, by show 0 ≤ a2.toInt; omega, by show a2.toInt ≤ 2147483647; omega⟩
    · exact ⟨_, rfl, by show 0 ≤ a3.toInt; omega, by show a3.toInt ≤ 1000; omega⟩
    · exact ⟨_, rfl, by show 0 ≤ n.toInt; omega, by show n.toInt ≤ 16; omega⟩
    · exact ⟨_, rfl, by show 0 ≤ y.toInt; omega, by show y.toInt ≤ 99; omega⟩
    · exact ⟨_, rfl, by show 0 ≤ L.toInt; omega, by show L.toInt ≤ 1199; omega⟩
  · intro q hq
    simp only [xc_1011, List.mem_cons, List.not_mem_nil, or_false] at hq
    rcases hq with rfl | rfl
    · refine ⟨_, rfl, ?_⟩; show (0 : Int) ≤ (-1) + (1 * n.toInt + ((-1) * a1.toInt + (0))); omega
    · refine ⟨_, rfl, ?_⟩; show (0 : Int) ≤ (-1) + (1 * y.toInt + ((-1) * a2.toInt + (0))); omega
  · simp [xc_1011] at hk
  · intro q hq
    simp only [xc_1011, List.mem_cons, List.not_mem_nil, or_false] at hq
    rcases hq with rfl | rfl | rfl
    · exact ⟨0, _, rfl, fn, _, rfl, xe_sym (s := 3) rfl⟩
    · exact ⟨0, _, rfl, fy, _, rfl, xe_sym (s := 4) rfl⟩
    · exact ⟨27, _, rfl, fL, _, rfl, xe_sym (s := 5) rfl⟩
  · intro q hq; cases hq
  · intro q hq
    simp only [xc_1011, List.mem_cons, List.not_mem_nil, or_false] at hq
    rcases hq with rfl | rfl | rfl | rfl
    · exact ⟨_, rfl, rfl⟩
    · exact ⟨_, rfl, a1, rfl, xe_sym (s := 0) rfl⟩
    · exact ⟨_, rfl, a2, rfl, xe_sym (s := 1) rfl⟩
    · exact ⟨_, rfl, a3, rfl, xe_sym (s := 2) rfl⟩
  obtain ⟨τ', a1, a2, a3, a4, p, hp, r', s', a5, a6⟩ := hq
  have hp := List.mem_singleton.mp hp
  subst hp
  cases r with
  | none => cases a6
  | some w =>
    obtain ⟨i, rfl, b1⟩ := a6
    have ei : i = 0 := Int32.toInt_inj.mp (Option.some.inj (b1.symm.trans (xe_c (by rfl))))
    have m0 : xfd h' 27 6 = some (.int (L + 1)) := xmf_g a5.2.2.1 List.mem_cons_self (by show some ((1 : Int) + (1 * L.toInt + 0)) = some (L + 1 : Int32).toInt; rw [Int32.toInt_add, show (1 : Int32).toInt = 1 from rfl, xb_bm32 (by omega) (by omega)]; congr 1; omega)
    exact ⟨τ', ⟨by rw [ei], m0⟩, a1, a2, a4, a3⟩
def xc_1012 : xCo := (126, ([(0, (3, xk 0, 0)), (1, (0, (.ofNat 0, [(0, .ofNat 1)]), 0)), (2, (0, (.ofNat 0, [(1, .ofNat 1)]), 0))], [], ((([(0, .negSucc 2147483647, .negSucc 0), (1, .negSucc 2147483647, .ofNat 2147483647)], []), 2), [], [], [], 0)), [(some (0, (.ofNat 0, [(2, .ofNat 1)]), 0), ((([(2, .negSucc 2147483647, .ofNat 2147483647)], []), 3), [], [], [], 0))], [], 0, 1)
def xc_1012_e : List xEn := []
def xc_1012_m : List (Nat × zm_M) := [(10, zm_m10), (126, zm_m126)]
def xc_1012_u : List xCo := []
set_option maxRecDepth 100000 in
theorem xc_1012_0 : xchk0 xVV xc_1012_m xc_1012_u xc_1012 xc_1012_e 62 = true := by decide +kernel
set_option maxRecDepth 100000 in
theorem xc_1012_1 : xc_1012_e.all (xchk1 xVV xc_1012_m xc_1012_u xc_1012 xc_1012_e 62) = true := by decide +kernel
theorem xv_1012 {og : Nat → Option zm_C} : xV xVV xX xW og xc_1012 := xchk_ok (n := 62) (MT := xc_1012_m) (CT := xc_1012_u) (E := xc_1012_e) (by
  simp only [xc_1012_m, List.forall_mem_cons]
  exact ⟨rfl, rfl, fun _ h => by cases h⟩) (by
  simp only [xc_1012_u, List.forall_mem_cons]
  exact fun _ h => by cases h) xFl_good xXW_ok xc_1012_0 (List.all_eq_true.mp xc_1012_1)
theorem zb_x_look_0 {og : Nat → Option zm_C} {τ : List Nat} {h : zm_H} {a1 a2 : Int32} (hH : xHI xKT xSG τ h) (hX : xX τ h) (cc : a1.toInt ≤ (-1)) : zm_Y og 1 126 0 [(0, .ref 0), (1, .int a1), (2, .int a2)] [] h (xOF τ h 0 [] (fun r _ h1 => (∃ i : Int32, r = some (.int i)))) := by
  have ea : xI32a = -2147483648 := rfl
  have eb : xI32b = 2147483647 := rfl
  have ra1 := xb_rng a1
  have ra2 := xb_rng a2
  rw [ea, eb] at ra1 ra2
  refine (xv_1012 (og := og) [a1.toInt, a2.toInt] [] τ h _ hH hX ⟨⟨⟨?_, ?_⟩, rfl⟩, ⟨rfl, fun k kd hk => ?_⟩, ?_, ?_⟩ ?_).mono (fun r h' hq => ?_)
  · intro q hq
    simp only [xc_1012, List.mem_cons, List.not_mem_nil, or_false] at hq
    rcases hq with rfl | rfl
    · exact ⟨_, rfl, by show (-2147483648) ≤ a1.toInt; omega, by show a1.toInt ≤ (-1); omega⟩
    · exact ⟨_, rfl, by show (-2147483648) ≤ a2.toInt; omega, by show a2.toInt ≤ 2147483647; omega⟩
  · intro q hq; cases hq
  · simp [xc_1012] at hk
  · intro q hq; cases hq
  · intro q hq; cases hq
  · intro q hq
    simp only [xc_1012, List.mem_cons, List.not_mem_nil, or_false] at hq
    rcases hq with rfl | rfl | rfl
    · exact ⟨_, rfl, rfl⟩
    · exact ⟨_, rfl, a1, rfl, xe_sym (s := 0) rfl⟩
    · exact ⟨_, rfl, a2, rfl, xe_sym (s := 1) rfl⟩
  obtain ⟨τ', a1, a2, a3, a4, p, hp, r', s', a5, a6⟩ := hq
  have hp := List.mem_singleton.mp hp
  subst hp
  cases r with
  | none => cases a6
  | some w =>
    obtain ⟨i, rfl, b1⟩ := a6
    exact ⟨τ', ⟨i, rfl⟩, a1, a2, a4, a3⟩
def xc_1013 : xCo := (126, ([(0, (3, xk 0, 0)), (1, (0, (.ofNat 0, [(0, .ofNat 1)]), 0)), (2, (0, (.ofNat 0, [(1, .ofNat 1)]), 0))], [], ((([(0, .ofNat 4, .ofNat 2147483647), (1, .negSucc 2147483647, .ofNat 2147483647)], []), 2), [], [], [], 0)), [(some (0, (.ofNat 0, [(2, .ofNat 1)]), 0), ((([(2, .negSucc 2147483647, .ofNat 2147483647)], []), 3), [], [], [], 0))], [], 0, 1)
def xc_1013_e : List xEn := []
def xc_1013_m : List (Nat × zm_M) := [(10, zm_m10), (126, zm_m126)]
def xc_1013_u : List xCo := []
set_option maxRecDepth 100000 in
theorem xc_1013_0 : xchk0 xVV xc_1013_m xc_1013_u xc_1013 xc_1013_e 65 = true := by decide +kernel
set_option maxRecDepth 100000 in
theorem xc_1013_1 : xc_1013_e.all (xchk1 xVV xc_1013_m xc_1013_u xc_1013 xc_1013_e 65) = true := by decide +kernel
theorem xv_1013 {og : Nat → Option zm_C} : xV xVV xX xW og xc_1013 := xchk_ok (n := 65) (MT := xc_1013_m) (CT := xc_1013_u) (E := xc_1013_e) (by
  simp only [xc_1013_m, List.forall_mem_cons]
  exact ⟨rfl, rfl, fun _ h => by cases h⟩) (by
  simp only [xc_1013_u, List.forall_mem_cons]
  exact fun _ h => by cases h) xFl_good xXW_ok xc_1013_0 (List.all_eq_true.mp xc_1013_1)
theorem zb_x_look_1 {og : Nat → Option zm_C} {τ : List Nat} {h : zm_H} {a1 a2 : Int32} (hH : xHI xKT xSG τ h) (hX : xX τ h) (cc : 4 ≤ a1.toInt) : zm_Y og 1 126 0 [(0, .ref 0), (1, .int a1), (2, .int a2)] [] h (xOF τ h 0 [] (fun r _ h1 => (∃ i : Int32, r = some (.int i)))) := by
  have ea : xI32a = -2147483648 := rfl
  have eb : xI32b = 2147483647 := rfl
  have ra1 := xb_rng a1
  have ra2 := xb_rng a2
  rw [ea, eb] at ra1 ra2
  refine (xv_1013 (og := og) [a1.toInt, a2.toInt] [] τ h _ hH hX ⟨⟨⟨?_, ?_⟩, rfl⟩, ⟨rfl, fun k kd hk => ?_⟩, ?_, ?_⟩ ?_).mono (fun r h' hq => ?_)
  · intro q hq
    simp only [xc_1013, List.mem_cons, List.not_mem_nil, or_false] at hq
    rcases hq with rfl | rfl
    · exact ⟨_, rfl, by show 4 ≤ a1.toInt; omega, by show a1.toInt ≤ 2147483647; omega⟩
    · exact ⟨_, rfl, by show (-2147483648) ≤ a2.toInt; omega, by show a2.toInt ≤ 2147483647; omega⟩
  · intro q hq; cases hq
  · simp [xc_1013] at hk
  · intro q hq; cases hq
  · intro q hq; cases hq
  · intro q hq
    simp only [xc_1013, List.mem_cons, List.not_mem_nil, or_false] at hq
    rcases hq with rfl | rfl | rfl
    · exact ⟨_, rfl, rfl⟩
    · exact ⟨_, rfl, a1, rfl, xe_sym (s := 0) rfl⟩
    · exact ⟨_, rfl, a2, rfl, xe_sym (s := 1) rfl⟩
  obtain ⟨τ', a1, a2, a3, a4, p, hp, r', s', a5, a6⟩ := hq
  have hp := List.mem_singleton.mp hp
  subst hp
  cases r with
  | none => cases a6
  | some w =>
    obtain ⟨i, rfl, b1⟩ := a6
    exact ⟨τ', ⟨i, rfl⟩, a1, a2, a4, a3⟩
def xc_1014 : xCo := (126, ([(0, (3, xk 0, 0)), (1, (0, (.ofNat 0, [(0, .ofNat 1)]), 0)), (2, (0, (.ofNat 0, [(1, .ofNat 1)]), 0))], [], ((([(0, .ofNat 0, .ofNat 3), (1, .negSucc 2147483647, .negSucc 0)], []), 2), [], [], [], 0)), [(some (0, (.ofNat 0, [(2, .ofNat 1)]), 0), ((([(2, .negSucc 2147483647, .ofNat 2147483647)], []), 3), [], [], [], 0))], [], 0, 3)
def xc_1014_e : List xEn := []
def xc_1014_m : List (Nat × zm_M) := [(10, zm_m10), (17, zm_m17), (18, zm_m18), (126, zm_m126)]
def xc_1014_u : List xCo := []
set_option maxRecDepth 100000 in
theorem xc_1014_0 : xchk0 xVV xc_1014_m xc_1014_u xc_1014 xc_1014_e 89 = true := by decide +kernel
set_option maxRecDepth 100000 in
theorem xc_1014_1 : xc_1014_e.all (xchk1 xVV xc_1014_m xc_1014_u xc_1014 xc_1014_e 89) = true := by decide +kernel
theorem xv_1014 {og : Nat → Option zm_C} : xV xVV xX xW og xc_1014 := xchk_ok (n := 89) (MT := xc_1014_m) (CT := xc_1014_u) (E := xc_1014_e) (by
  simp only [xc_1014_m, List.forall_mem_cons]
  exact ⟨rfl, rfl, rfl, rfl, fun _ h => by cases h⟩) (by
  simp only [xc_1014_u, List.forall_mem_cons]
  exact fun _ h => by cases h) xFl_good xXW_ok xc_1014_0 (List.all_eq_true.mp xc_1014_1)
theorem zb_x_look_2 {og : Nat → Option zm_C} {τ : List Nat} {h : zm_H} {a1 a2 : Int32} (hH : xHI xKT xSG τ h) (hX : xX τ h) (cc : 0 ≤ a1.toInt ∧ a1.toInt ≤ 3 ∧ a2.toInt ≤ (-1)) : zm_Y og 3 126 0 [(0, .ref 0), (1, .int a1), (2, .int a2)] [] h (xOF τ h 0 [] (fun r _ h1 => (∃ i : Int32, r = some (.int i)))) := by
  have ea : xI32a = -2147483648 := rfl
  have eb : xI32b = 2147483647 := rfl
  have ra1 := xb_rng a1
  have ra2 := xb_rng a2
  rw [ea, eb] at ra1 ra2
  refine (xv_1014 (og := og) [a1.toInt, a2.toInt] [] τ h _ hH hX ⟨⟨⟨?_, ?_⟩, rfl⟩, ⟨rfl, fun k kd hk => ?_⟩, ?_, ?_⟩ ?_).mono (fun r h' hq => ?_)
  · intro q hq
    simp only [xc_1014, List.mem_cons, List.not_mem_nil, or_false] at hq
    rcases hq with rfl | rfl
    · exact ⟨_, rfl, by show 0 ≤ a1.toInt; omega, by show a1.toInt ≤ 3; omega⟩
    · exact ⟨_, rfl, by show (-2147483648) ≤ a2.toInt; omega, by show a2.toInt ≤ (-1); omega⟩
  · intro q hq; cases hq
  · simp [xc_1014] at hk
  · intro q hq; cases hq
  · intro q hq; cases hq
  · intro q hq
    simp only [xc_1014, List.mem_cons, List.not_mem_nil, or_false] at hq
    rcases hq with rfl | rfl | rfl
    · exact ⟨_, rfl, rfl⟩
    · exact ⟨_, rfl, a1, rfl, xe_sym (s := 0) rfl⟩
    · exact ⟨_, rfl, a2, rfl, xe_sym (s := 1) rfl⟩
  obtain ⟨τ', a1, a2, a3, a4, p, hp, r', s', a5, a6⟩ := hq
  have hp := List.mem_singleton.mp hp
  subst hp
  cases r with
  | none => cases a6
  | some w =>
    obtain ⟨i, rfl, b1⟩ := a6
    exact ⟨τ', ⟨i, rfl⟩, a1, a2, a4, a3⟩
def xc_1015 : xCo := (126, ([(0, (3, xk 0, 0)), (1, (0, (.ofNat 0, [(0, .ofNat 1)]), 0)), (2, (0, (.ofNat 0, [(1, .ofNat 1)]), 0))], [], ((([(0, .ofNat 0, .ofNat 3), (1, .ofNat 0, .ofNat 2147483647), (2, .ofNat 0, .ofNat 16)], [(.ofNat 0, [(2, .negSucc 0), (1, .ofNat 1)])]), 3), [], [((3, xk 0, 0), 1, (0, (.ofNat 0, [(2, .ofNat 1)]), 0))], [], 0)), [(some (0, (.ofNat 0, [(3, .ofNat 1)]), 0), ((([(3, .negSucc 2147483647, .ofNat 2147483647)], []), 4), [], [], [], 0))], [], 0, 3)
def xc_1015_e : List xEn := []
def xc_1015_m : List (Nat × zm_M) := [(10, zm_m10), (17, zm_m17), (18, zm_m18), (126, zm_m126)]
def xc_1015_u : List xCo := []
set_option maxRecDepth 100000 in
theorem xc_1015_0 : xchk0 xVV xc_1015_m xc_1015_u xc_1015 xc_1015_e 92 = true := by decide +kernel
set_option maxRecDepth 100000 in
theorem xc_1015_1 : xc_1015_e.all (xchk1 xVV xc_1015_m xc_1015_u xc_1015 xc_1015_e 92) = true := by decide +kernel
theorem xv_1015 {og : Nat → Option zm_C} : xV xVV xX xW og xc_1015 := xchk_ok (n := 92) (MT := xc_1015_m) (CT := xc_1015_u) (E := xc_1015_e) (by
  simp only [xc_1015_m, List.forall_mem_cons]
  exact ⟨rfl, rfl, rfl, rfl, fun _ h => by cases h⟩) (by
  simp only [xc_1015_u, List.forall_mem_cons]
  exact fun _ h => by cases h) xFl_good xXW_ok xc_1015_0 (List.all_eq_true.mp xc_1015_1)
theorem zb_x_look_3 {og : Nat → Option zm_C} {τ : List Nat} {h : zm_H} {a1 a2 n : Int32} (hH : xHI xKT xSG τ h) (hX : xX τ h) (fn : xfd h 0 1 = some (.int n)) (cc : 0 ≤ a1.toInt ∧ a1.toInt ≤ 3 ∧ 0 ≤ a2.toInt ∧ 0 ≤ n.toInt ∧ n.toInt ≤ 16 ∧ 0 ≤ 0 + 1 * a2.toInt + (-1) * n.toInt) : zm_Y og 3 126 0 [(0, .ref 0), (1, .int a1), (2, .int a2)] [] h (xOF τ h 0 [] (fun r _ h1 => (∃ i : Int32, r = some (.int i)))) := by
  have ea : xI32a = -2147483648 := rfl
  have eb : xI32b = 2147483647 := rfl
  have ra1 := xb_rng a1
  have ra2 := xb_rng a2
  rw [ea, eb] at ra1 ra2
  refine (xv_1015 (og := og) [a1.toInt, a2.toInt, n.toInt] [] τ h _ hH hX ⟨⟨⟨?_, ?_⟩, rfl⟩, ⟨rfl, fun k kd hk => ?_⟩, ?_, ?_⟩ ?_).mono (fun r h' hq => ?_)
  · intro q hq
    simp only [xc_1015, List.mem_cons, List.not_mem_nil, or_false] at hq
    rcases hq with rfl | rfl | rfl
    · exact ⟨_, rfl, by show 0 ≤ a1.toInt; omega, by show a1.toInt ≤ 3; omega⟩
    · exact ⟨_, rfl, by show 0 ≤ a2.toInt; omega, by show a2.toInt ≤ 2147483647; omega⟩
    · exact ⟨_, rfl, by show 0 ≤ n.toInt; omega, by show n.toInt ≤ 16; omega⟩
  · intro q hq
    simp only [xc_1015, List.mem_cons, List.not_mem_nil, or_false] at hq
    rcases hq with rfl
    · refine ⟨_, rfl, ?_⟩; show (0 : Int) ≤ 0 + ((-1) * n.toInt + (1 * a2.toInt + (0))); omega
  · simp [xc_1015] at hk
  · intro q hq
    simp only [xc_1015, List.mem_cons, List.not_mem_nil, or_false] at hq
    rcases hq with rfl
    · exact ⟨0, _, rfl, fn, _, rfl, xe_sym (s := 2) rfl⟩
  · intro q hq; cases hq
  · intro q hq
    simp only [xc_1015, List.mem_cons, List.not_mem_nil, or_false] at hq
    rcases hq with rfl | rfl | rfl
    · exact ⟨_, rfl, rfl⟩
    · exact ⟨_, rfl, a1, rfl, xe_sym (s := 0) rfl⟩
    · exact ⟨_, rfl, a2, rfl, xe_sym (s := 1) rfl⟩
  obtain ⟨τ', a1, a2, a3, a4, p, hp, r', s', a5, a6⟩ := hq
  have hp := List.mem_singleton.mp hp
  subst hp
  cases r with
  | none => cases a6
  | some w =>
    obtain ⟨i, rfl, b1⟩ := a6
    exact ⟨τ', ⟨i, rfl⟩, a1, a2, a4, a3⟩
def xc_1016 : xCo := (126, ([(0, (3, xk 0, 0)), (1, (0, (.ofNat 0, [(0, .ofNat 1)]), 0)), (2, (0, (.ofNat 0, [(1, .ofNat 1)]), 0))], [], ((([(0, .ofNat 0, .ofNat 3), (1, .ofNat 0, .ofNat 2147483647), (2, .ofNat 0, .ofNat 16)], [(.negSucc 0, [(2, .ofNat 1), (1, .negSucc 0)])]), 3), [207], [((3, xk 0, 0), 1, (0, (.ofNat 0, [(2, .ofNat 1)]), 0)), ((4, xk 0, 0), 9, (0, (.ofNat 1, []), 0))], [((3, xk 0, 1), (.ofNat 0, [(1, .ofNat 1)]), (4, xk 0, 0))], 0)), [(some (0, (.ofNat 0, [(3, .ofNat 1)]), 0), ((([(3, .negSucc 2147483647, .ofNat 2147483647)], []), 4), [207], [], [], 0))], [], 0, 3)
def xc_1016_e : List xEn := []
def xc_1016_m : List (Nat × zm_M) := [(10, zm_m10), (17, zm_m17), (18, zm_m18), (126, zm_m126)]
def xc_1016_u : List xCo := []
set_option maxRecDepth 100000 in
theorem xc_1016_0 : xchk0 xVV xc_1016_m xc_1016_u xc_1016 xc_1016_e 99 = true := by decide +kernel
set_option maxRecDepth 100000 in
theorem xc_1016_1 : xc_1016_e.all (xchk1 xVV xc_1016_m xc_1016_u xc_1016 xc_1016_e 99) = true := by decide +kernel
theorem xv_1016 {og : Nat → Option zm_C} : xV xVV xX xW og xc_1016 := xchk_ok (n := 99) (MT := xc_1016_m) (CT := xc_1016_u) (E := xc_1016_e) (by
  simp only [xc_1016_m, List.forall_mem_cons]
  exact ⟨rfl, rfl, rfl, rfl, fun _ h => by cases h⟩) (by
  simp only [xc_1016_u, List.forall_mem_cons]
  exact fun _ h => by cases h) xFl_good xXW_ok xc_1016_0 (List.all_eq_true.mp xc_1016_1)
theorem zb_x_look_4 {og : Nat → Option zm_C} {τ : List Nat} {h : zm_H} {a1 a2 n : Int32} (hH : xHI xKT xSG τ h) (hX : xX τ h) {b : Nat} (hb : xar h 1 a2.toInt.toNat = some (.ref b) ∧ τ[b]? = some 207 ∧ xfd h b 9 = some (.int 1)) (fn : xfd h 0 1 = some (.int n)) (cc : 0 ≤ a1.toInt ∧ a1.toInt ≤ 3 ∧ 0 ≤ a2.toInt ∧ 0 ≤ n.toInt ∧ n.toInt ≤ 16 ∧ 0 ≤ (-1) + (-1) * a2.toInt + 1 * n.toInt) : zm_Y og 3 126 0 [(0, .ref 0), (1, .int a1), (2, .int a2)] [] h (xOF τ h 0 [] (fun r _ h1 => (∃ i : Int32, r = some (.int i)))) := by
  have ea : xI32a = -2147483648 := rfl
  have eb : xI32b = 2147483647 := rfl
  have ra1 := xb_rng a1
  have ra2 := xb_rng a2
  rw [ea, eb] at ra1 ra2
  refine (xv_1016 (og := og) [a1.toInt, a2.toInt, n.toInt] [b] τ h _ hH hX ⟨⟨⟨?_, ?_⟩, rfl⟩, ⟨rfl, fun k kd hk => ?_⟩, ?_, ?_⟩ ?_).mono (fun r h' hq => ?_)
  · intro q hq
    simp only [xc_1016, List.mem_cons, List.not_mem_nil, or_false] at hq
    rcases hq with rfl | rfl | rfl
    · exact ⟨_, rfl, by show 0 ≤ a1.toInt; omega, by show a1.toInt ≤ 3; omega⟩
    · exact ⟨_, rfl, by show 0 ≤ a2.toInt; omega, by show a2.toInt ≤ 2147483647; omega⟩
    · exact ⟨_, rfl, by show 0 ≤ n.toInt; omega, by show n.toInt ≤ 16; omega⟩
  · intro q hq
    simp only [xc_1016, List.mem_cons, List.not_mem_nil, or_false] at hq
    rcases hq with rfl
    · refine ⟨_, rfl, ?_⟩; show (0 : Int) ≤ (-1) + (1 * n.toInt + ((-1) * a2.toInt + (0))); omega
  · have hk : ([207] : List Nat)[k]? = some kd := hk
    match k, hk with
    | 0, hk => cases hk; exact ⟨b, rfl, hb.2.1⟩
    | k + 1, hk => simp at hk
  · intro q hq
    simp only [xc_1016, List.mem_cons, List.not_mem_nil, or_false] at hq
    rcases hq with rfl | rfl
    · exact ⟨0, _, rfl, fn, _, rfl, xe_sym (s := 2) rfl⟩
    · exact ⟨b, _, rfl, hb.2.2, _, rfl, xe_c rfl⟩
  · intro q hq
    simp only [xc_1016, List.mem_cons, List.not_mem_nil, or_false] at hq
    rcases hq with rfl
    · exact ⟨1, a2.toInt.toNat, _, rfl, (xe_sym (s := 1) rfl).trans (congrArg some (by omega)), hb.1, b, rfl, rfl⟩
  · intro q hq
    simp only [xc_1016, List.mem_cons, List.not_mem_nil, or_false] at hq
    rcases hq with rfl | rfl | rfl
    · exact ⟨_, rfl, rfl⟩
    · exact ⟨_, rfl, a1, rfl, xe_sym (s := 0) rfl⟩
    · exact ⟨_, rfl, a2, rfl, xe_sym (s := 1) rfl⟩
  obtain ⟨τ', a1, a2, a3, a4, p, hp, r', s', a5, a6⟩ := hq
  have hp := List.mem_singleton.mp hp
  subst hp
  cases r with
  | none => cases a6
  | some w =>
    obtain ⟨i, rfl, b1⟩ := a6
    exact ⟨τ', ⟨i, rfl⟩, a1, a2, a4, a3⟩
def xc_1017 : xCo := (126, ([(0, (3, xk 0, 0)), (1, (0, (.ofNat 0, [(0, .ofNat 1)]), 0)), (2, (0, (.ofNat 0, [(1, .ofNat 1)]), 0))], [], ((([(0, .ofNat 0, .ofNat 3), (1, .ofNat 0, .ofNat 2147483647), (2, .ofNat 0, .ofNat 16)], [(.negSucc 0, [(2, .ofNat 1), (1, .negSucc 0)])]), 3), [207], [((3, xk 0, 0), 1, (0, (.ofNat 0, [(2, .ofNat 1)]), 0)), ((3, xk 0, 27), 6, (0, (.ofNat 1200, []), 0)), ((4, xk 0, 0), 9, (0, (.ofNat 0, []), 0))], [((3, xk 0, 1), (.ofNat 0, [(1, .ofNat 1)]), (4, xk 0, 0))], 0)), [(some (0, (.ofNat 0, [(3, .ofNat 1)]), 0), ((([(3, .negSucc 2147483647, .ofNat 2147483647)], []), 4), [207], [], [], 0))], [], 0, 3)
def xc_1017_e : List xEn := []
def xc_1017_m : List (Nat × zm_M) := [(10, zm_m10), (17, zm_m17), (18, zm_m18), (123, zm_m123), (126, zm_m126)]
def xc_1017_u : List xCo := []
set_option maxRecDepth 100000 in
theorem xc_1017_0 : xchk0 xVV xc_1017_m xc_1017_u xc_1017 xc_1017_e 113 = true := by decide +kernel
set_option maxRecDepth 100000 in
theorem xc_1017_1 : xc_1017_e.all (xchk1 xVV xc_1017_m xc_1017_u xc_1017 xc_1017_e 113) = true := by decide +kernel
theorem xv_1017 {og : Nat → Option zm_C} : xV xVV xX xW og xc_1017 := xchk_ok (n := 113) (MT := xc_1017_m) (CT := xc_1017_u) (E := xc_1017_e) (by
  simp only [xc_1017_m, List.forall_mem_cons]
  exact ⟨rfl, rfl, rfl, rfl, rfl, fun _ h => by cases h⟩) (by
  simp only [xc_1017_u, List.forall_mem_cons]
  exact fun _ h => by cases h) xFl_good xXW_ok xc_1017_0 (List.all_eq_true.mp xc_1017_1)
theorem zb_x_look_5 {og : Nat → Option zm_C} {τ : List Nat} {h : zm_H} {a1 a2 n L : Int32} (hH : xHI xKT xSG τ h) (hX : xX τ h) {b : Nat} (hb : xar h 1 a2.toInt.toNat = some (.ref b) ∧ τ[b]? = some 207 ∧ xfd h b 9 = some (.int 0)) (fn : xfd h 0 1 = some (.int n)) (fL : xfd h 27 6 = some (.int L)) (cc : 0 ≤ a1.toInt ∧ a1.toInt ≤ 3 ∧ 0 ≤ a2.toInt ∧ 0 ≤ n.toInt ∧ n.toInt ≤ 16 ∧ L.toInt = 1200 ∧ 0 ≤ (-1) + (-1) * a2.toInt + 1 * n.toInt) : zm_Y og 3 126 0 [(0, .ref 0), (1, .int a1), (2, .int a2)] [] h (xOF τ h 0 [] (fun r _ h1 => (∃ i : Int32, r = some (.int i)))) := by
  have ea : xI32a = -2147483648 := rfl
  have eb : xI32b = 2147483647 := rfl
  have ra1 := xb_rng a1
  have ra2 := xb_rng a2
  rw [ea, eb] at ra1 ra2
  refine (xv_1017 (og := og) [a1.toInt, a2.toInt, n.toInt] [b] τ h _ hH hX ⟨⟨⟨?_, ?_⟩, rfl⟩, ⟨rfl, fun k kd hk => ?_⟩, ?_, ?_⟩ ?_).mono (fun r h' hq => ?_)
  · intro q hq
    simp only [xc_1017, List.mem_cons, List.not_mem_nil, or_false] at hq
    rcases hq with rfl | rfl | rfl
    · exact ⟨_, rfl, by show 0 ≤ a1.toInt; omega, by show a1.toInt ≤ 3; omega⟩
    · exact ⟨_, rfl, by show 0 ≤ a2.toInt; omega, by show a2.toInt ≤ 2147483647; omega⟩
    · exact ⟨_, rfl, by show 0 ≤ n.toInt; omega, by show n.toInt ≤ 16; omega⟩
  · intro q hq
    simp only [xc_1017, List.mem_cons, List.not_mem_nil, or_false] at hq
    rcases hq with rfl
    · refine ⟨_, rfl, ?_⟩; show (0 : Int) ≤ (-1) + (1 * n.toInt + ((-1) * a2.toInt + (0))); omega
  · have hk : ([207] : List Nat)[k]? = some kd := hk
    match k, hk with
    | 0, hk => cases hk; exact ⟨b, rfl, hb.2.1⟩
    | k + 1, hk => simp at hk
  · intro q hq
    simp only [xc_1017, List.mem_cons, List.not_mem_nil, or_false] at hq
    rcases hq with rfl | rfl | rfl
    · exact ⟨0, _, rfl, fn, _, rfl, xe_sym (s := 2) rfl⟩
    · exact ⟨27, _, rfl, fL, _, rfl, xe_c (by show L.toInt = 1200; omega)⟩
    · exact ⟨b, _, rfl, hb.2.2, _, rfl, xe_c rfl⟩
  · intro q hq
    simp only [xc_1017, List.mem_cons, List.not_mem_nil, or_false] at hq
    rcases hq with rfl
    · exact ⟨1, a2.toInt.toNat, _, rfl, (xe_sym (s := 1) rfl).trans (congrArg some (by omega)), hb.1, b, rfl, rfl⟩
  · intro q hq
    simp only [xc_1017, List.mem_cons, List.not_mem_nil, or_false] at hq
    rcases hq with rfl | rfl | rfl
    · exact ⟨_, rfl, rfl⟩
    · exact ⟨_, rfl, a1, rfl, xe_sym (s := 0) rfl⟩
    · exact ⟨_, rfl, a2, rfl, xe_sym (s := 1) rfl⟩
  obtain ⟨τ', a1, a2, a3, a4, p, hp, r', s', a5, a6⟩ := hq
  have hp := List.mem_singleton.mp hp
  subst hp
  cases r with
  | none => cases a6
  | some w =>
    obtain ⟨i, rfl, b1⟩ := a6
    exact ⟨τ', ⟨i, rfl⟩, a1, a2, a4, a3⟩
def xc_1018 : xCo := (126, ([(0, (3, xk 0, 0)), (1, (0, (.ofNat 0, [(0, .ofNat 1)]), 0)), (2, (0, (.ofNat 0, [(1, .ofNat 1)]), 0))], [], ((([(0, .ofNat 0, .ofNat 3), (1, .ofNat 0, .ofNat 2147483647), (2, .ofNat 0, .ofNat 16), (3, .ofNat 0, .ofNat 1199)], [(.negSucc 0, [(2, .ofNat 1), (1, .negSucc 0)])]), 4), [207], [((3, xk 0, 0), 1, (0, (.ofNat 0, [(2, .ofNat 1)]), 0)), ((3, xk 0, 27), 6, (0, (.ofNat 0, [(3, .ofNat 1)]), 0)), ((4, xk 0, 0), 9, (0, (.ofNat 0, []), 0))], [((3, xk 0, 1), (.ofNat 0, [(1, .ofNat 1)]), (4, xk 0, 0))], 0)), [(some (0, (.ofNat 0, [(4, .ofNat 1)]), 0), ((([(4, .negSucc 2147483647, .ofNat 2147483647)], []), 5), [207], [((3, xk 0, 27), 6, (0, (.ofNat 1, [(3, .ofNat 1)]), 0))], [], 0))], [(23, 0), (24, 0), (27, 6), (28, 0), (29, 0), (30, 0), (31, 0), (32, 0), (33, 0)], 0, 6)
def xc_1018_e : List xEn := []
def xc_1018_m : List (Nat × zm_M) := [(10, zm_m10), (17, zm_m17), (18, zm_m18), (75, zm_m75), (85, zm_m85), (86, zm_m86), (88, zm_m88), (123, zm_m123), (124, zm_m124), (126, zm_m126), (127, zm_m127)]
def xc_1018_u : List xCo := [xc_36, xc_23, xc_19, xc_15, xc_13]
set_option maxRecDepth 100000 in
theorem xc_1018_0 : xchk0 xVV xc_1018_m xc_1018_u xc_1018 xc_1018_e 308 = true := by decide +kernel
set_option maxRecDepth 100000 in
theorem xc_1018_1 : xc_1018_e.all (xchk1 xVV xc_1018_m xc_1018_u xc_1018 xc_1018_e 308) = true := by decide +kernel
theorem xv_1018 {og : Nat → Option zm_C} : xV xVV xX xW og xc_1018 := xchk_ok (n := 308) (MT := xc_1018_m) (CT := xc_1018_u) (E := xc_1018_e) (by
  simp only [xc_1018_m, List.forall_mem_cons]
  exact ⟨rfl, rfl, rfl, rfl, rfl, rfl, rfl, rfl, rfl, rfl, rfl, fun _ h => by cases h⟩) (by
  simp only [xc_1018_u, List.forall_mem_cons]
  exact ⟨xv_36, xv_23, xv_19, xv_15, xv_13, fun _ h => by cases h⟩) xFl_good xXW_ok xc_1018_0 (List.all_eq_true.mp xc_1018_1)
theorem zb_x_look_6 {og : Nat → Option zm_C} {τ : List Nat} {h : zm_H} {a1 a2 n L : Int32} (hH : xHI xKT xSG τ h) (hX : xX τ h) {b : Nat} (hb : xar h 1 a2.toInt.toNat = some (.ref b) ∧ τ[b]? = some 207 ∧ xfd h b 9 = some (.int 0)) (fn : xfd h 0 1 = some (.int n)) (fL : xfd h 27 6 = some (.int L)) (cc : 0 ≤ a1.toInt ∧ a1.toInt ≤ 3 ∧ 0 ≤ a2.toInt ∧ 0 ≤ n.toInt ∧ n.toInt ≤ 16 ∧ 0 ≤ L.toInt ∧ L.toInt ≤ 1199 ∧ 0 ≤ (-1) + (-1) * a2.toInt + 1 * n.toInt) : zm_Y og 6 126 0 [(0, .ref 0), (1, .int a1), (2, .int a2)] [] h (xOF τ h 0 [(23, 0), (24, 0), (27, 6), (28, 0), (29, 0), (30, 0), (31, 0), (32, 0), (33, 0)] (fun r _ h1 => (∃ i : Int32, r = some (.int i)) ∧ xfd h1 27 6 = some (.int (L + 1)))) := by
  have ea : xI32a = -2147483648 := rfl
  have eb : xI32b = 2147483647 := rfl
  have ra1 := xb_rng a1
  have ra2 := xb_rng a2
  rw [ea, eb] at ra1 ra2
  refine (xv_1018 (og := og) [a1.toInt, a2.toInt, n.toInt, L.toInt] [b] τ h _ hH hX ⟨⟨⟨?_, ?_⟩, rfl⟩, ⟨rfl, fun k kd hk => ?_⟩, ?_, ?_⟩ ?_).mono (fun r h' hq => ?_)
  · intro q hq
    simp only [xc_1018, List.mem_cons, List.not_mem_nil, or_false] at hq
    rcases hq with rfl | rfl | rfl | rfl
    · exact ⟨_, rfl, by show 0 ≤ a1.toInt; omega, by show a1.toInt ≤ 3; omega⟩
    · exact ⟨_, rfl, by show 0 ≤ a2.toInt; omega, by show a2.toInt ≤ 2147483647; omega⟩
    · exact ⟨_, rfl, by show 0 ≤ n.toInt; omega, by show n.toInt ≤ 16; omega⟩
    · exact ⟨_, rfl, by show 0 ≤ L.toInt; omega, by show L.toInt ≤ 1199; omega⟩
  · intro q hq
    simp only [xc_1018, List.mem_cons, List.not_mem_nil, or_false] at hq
    rcases hq with rfl
    · refine ⟨_, rfl, ?_⟩; show (0 : Int) ≤ (-1) + (1 * n.toInt + ((-1) * a2.toInt + (0))); omega
  · have hk : ([207] : List Nat)[k]? = some kd := hk
    match k, hk with
    | 0, hk => cases hk; exact ⟨b, rfl, hb.2.1⟩
    | k + 1, hk => simp at hk
  · intro q hq
    simp only [xc_1018, List.mem_cons, List.not_mem_nil, or_false] at hq
    rcases hq with rfl | rfl | rfl
    · exact ⟨0, _, rfl, fn, _, rfl, xe_sym (s := 2) rfl⟩
    · exact ⟨27, _, rfl, fL, _, rfl, xe_sym (s := 3) rfl⟩
    · exact ⟨b, _, rfl, hb.2.2, _, rfl, xe_c rfl⟩
  · intro q hq
    simp only [xc_1018, List.mem_cons, List.not_mem_nil, or_false] at hq
    rcases hq with rfl
    · exact ⟨1, a2.toInt.toNat, _, rfl, (xe_sym (s := 1) rfl).trans (congrArg some (by omega)), hb.1, b, rfl, rfl⟩
  · intro q hq
    simp only [xc_1018, List.mem_cons, List.not_mem_nil, or_false] at hq
    rcases hq with rfl | rfl | rfl
    · exact ⟨_, rfl, rfl⟩
    · exact ⟨_, rfl, a1, rfl, xe_sym (s := 0) rfl⟩
    · exact ⟨_, rfl, a2, rfl, xe_sym (s := 1) rfl⟩
  obtain ⟨τ', a1, a2, a3, a4, p, hp, r', s', a5, a6⟩ := hq
  have hp := List.mem_singleton.mp hp
  subst hp
  cases r with
  | none => cases a6
  | some w =>
    obtain ⟨i, rfl, b1⟩ := a6
    have m0 : xfd h' 27 6 = some (.int (L + 1)) := xmf_g a5.2.2.1 List.mem_cons_self (by show some ((1 : Int) + (1 * L.toInt + 0)) = some (L + 1 : Int32).toInt; rw [Int32.toInt_add, show (1 : Int32).toInt = 1 from rfl, xb_bm32 (by omega) (by omega)]; congr 1; omega)
    exact ⟨τ', ⟨⟨i, rfl⟩, m0⟩, a1, a2, a4, a3⟩
def xc_1019 : xCo := (28, ([(0, (3, xk 0, 0)), (1, (0, (.ofNat 0, [(0, .ofNat 1)]), 0)), (2, (0, (.ofNat 0, [(1, .ofNat 1)]), 0)), (3, (0, (.ofNat 0, [(2, .ofNat 1)]), 0))], [], ((([(0, .negSucc 2147483647, .negSucc 0), (1, .negSucc 2147483647, .ofNat 2147483647), (2, .negSucc 2147483647, .ofNat 2147483647)], []), 3), [], [], [], 0)), [(some (0, (.negSucc 1, []), 0), ((([], []), 3), [], [], [], 0))], [], 0, 2)
def xc_1019_e : List xEn := []
def xc_1019_m : List (Nat × zm_M) := [(10, zm_m10), (18, zm_m18), (28, zm_m28)]
def xc_1019_u : List xCo := []
set_option maxRecDepth 100000 in
theorem xc_1019_0 : xchk0 xVV xc_1019_m xc_1019_u xc_1019 xc_1019_e 69 = true := by decide +kernel
set_option maxRecDepth 100000 in
theorem xc_1019_1 : xc_1019_e.all (xchk1 xVV xc_1019_m xc_1019_u xc_1019 xc_1019_e 69) = true := by decide +kernel
theorem xv_1019 {og : Nat → Option zm_C} : xV xVV xX xW og xc_1019 := xchk_ok (n := 69) (MT := xc_1019_m) (CT := xc_1019_u) (E := xc_1019_e) (by
  simp only [xc_1019_m, List.forall_mem_cons]
  exact ⟨rfl, rfl, rfl, fun _ h => by cases h⟩) (by
  simp only [xc_1019_u, List.forall_mem_cons]
  exact fun _ h => by cases h) xFl_good xXW_ok xc_1019_0 (List.all_eq_true.mp xc_1019_1)
theorem zb_x_worth_0 {og : Nat → Option zm_C} {τ : List Nat} {h : zm_H} {a1 a2 a3 : Int32} (hH : xHI xKT xSG τ h) (hX : xX τ h) (cc : a1.toInt ≤ (-1)) : zm_Y og 2 28 0 [(0, .ref 0), (1, .int a1), (2, .int a2), (3, .int a3)] [] h (xOF τ h 0 [] (fun r _ h1 => (r = some (.int (-2))))) := by
  have ea : xI32a = -2147483648 := rfl
  have eb : xI32b = 2147483647 := rfl
  have ra1 := xb_rng a1
  have ra2 := xb_rng a2
  have ra3 := xb_rng a3
  rw [ea, eb] at ra1 ra2 ra3
  refine (xv_1019 (og := og) [a1.toInt, a2.toInt, a3.toInt] [] τ h _ hH hX ⟨⟨⟨?_, ?_⟩, rfl⟩, ⟨rfl, fun k kd hk => ?_⟩, ?_, ?_⟩ ?_).mono (fun r h' hq => ?_)
  · intro q hq
    simp only [xc_1019, List.mem_cons, List.not_mem_nil, or_false] at hq
    rcases hq with rfl | rfl | rfl
    · exact ⟨_, rfl, by show (-2147483648) ≤ a1.toInt; omega, by show a1.toInt ≤ (-1); omega⟩
    · exact ⟨_, rfl, by show (-2147483648) ≤ a2.toInt; omega, by show a2.toInt ≤ 2147483647; omega⟩
    · exact ⟨_, rfl, by show (-2147483648) ≤ a3.toInt; omega, by show a3.toInt ≤ 2147483647; omega⟩
  · intro q hq; cases hq
  · simp [xc_1019] at hk
  · intro q hq; cases hq
  · intro q hq; cases hq
  · intro q hq
    simp only [xc_1019, List.mem_cons, List.not_mem_nil, or_false] at hq
    rcases hq with rfl | rfl | rfl | rfl
    · exact ⟨_, rfl, rfl⟩
    · exact ⟨_, rfl, a1, rfl, xe_sym (s := 0) rfl⟩
    · exact ⟨_, rfl, a2, rfl, xe_sym (s := 1) rfl⟩
    · exact ⟨_, rfl, a3, rfl, xe_sym (s := 2) rfl⟩
  obtain ⟨τ', a1, a2, a3, a4, p, hp, r', s', a5, a6⟩ := hq
  have hp := List.mem_singleton.mp hp
  subst hp
  cases r with
  | none => cases a6
  | some w =>
    obtain ⟨i, rfl, b1⟩ := a6
    have ei : i = (-2) := Int32.toInt_inj.mp (Option.some.inj (b1.symm.trans (xe_c (by rfl))))
    exact ⟨τ', by rw [ei], a1, a2, a4, a3⟩
def xc_1020 : xCo := (28, ([(0, (3, xk 0, 0)), (1, (0, (.ofNat 0, [(0, .ofNat 1)]), 0)), (2, (0, (.ofNat 0, [(1, .ofNat 1)]), 0)), (3, (0, (.ofNat 0, [(2, .ofNat 1)]), 0))], [], ((([(0, .ofNat 0, .ofNat 2147483647), (1, .negSucc 2147483647, .ofNat 2147483647), (2, .negSucc 2147483647, .ofNat 2147483647), (3, .ofNat 0, .ofNat 16)], [(.ofNat 0, [(3, .negSucc 0), (0, .ofNat 1)])]), 4), [], [((3, xk 0, 0), 1, (0, (.ofNat 0, [(3, .ofNat 1)]), 0))], [], 0)), [(some (0, (.negSucc 1, []), 0), ((([], []), 4), [], [], [], 0))], [], 0, 2)
def xc_1020_e : List xEn := []
def xc_1020_m : List (Nat × zm_M) := [(10, zm_m10), (18, zm_m18), (28, zm_m28)]
def xc_1020_u : List xCo := []
set_option maxRecDepth 100000 in
theorem xc_1020_0 : xchk0 xVV xc_1020_m xc_1020_u xc_1020 xc_1020_e 72 = true := by decide +kernel
set_option maxRecDepth 100000 in
theorem xc_1020_1 : xc_1020_e.all (xchk1 xVV xc_1020_m xc_1020_u xc_1020 xc_1020_e 72) = true := by decide +kernel
theorem xv_1020 {og : Nat → Option zm_C} : xV xVV xX xW og xc_1020 := xchk_ok (n := 72) (MT := xc_1020_m) (CT := xc_1020_u) (E := xc_1020_e) (by
  simp only [xc_1020_m, List.forall_mem_cons]
  exact ⟨rfl, rfl, rfl, fun _ h => by cases h⟩) (by
  simp only [xc_1020_u, List.forall_mem_cons]
  exact fun _ h => by cases h) xFl_good xXW_ok xc_1020_0 (List.all_eq_true.mp xc_1020_1)
theorem zb_x_worth_1 {og : Nat → Option zm_C} {τ : List Nat} {h : zm_H} {a1 a2 a3 n : Int32} (hH : xHI xKT xSG τ h) (hX : xX τ h) (fn : xfd h 0 1 = some (.int n)) (cc : 0 ≤ a1.toInt ∧ 0 ≤ n.toInt ∧ n.toInt ≤ 16 ∧ 0 ≤ 0 + 1 * a1.toInt + (-1) * n.toInt) : zm_Y og 2 28 0 [(0, .ref 0), (1, .int a1), (2, .int a2), (3, .int a3)] [] h (xOF τ h 0 [] (fun r _ h1 => (r = some (.int (-2))))) := by
  have ea : xI32a = -2147483648 := rfl
  have eb : xI32b = 2147483647 := rfl
  have ra1 := xb_rng a1
  have ra2 := xb_rng a2
  have ra3 := xb_rng a3
  rw [ea, eb] at ra1 ra2 ra3
  refine (xv_1020 (og := og) [a1.toInt, a2.toInt, a3.toInt, n.toInt] [] τ h _ hH hX ⟨⟨⟨?_, ?_⟩, rfl⟩, ⟨rfl, fun k kd hk => ?_⟩, ?_, ?_⟩ ?_).mono (fun r h' hq => ?_)
  · intro q hq
    simp only [xc_1020, List.mem_cons, List.not_mem_nil, or_false] at hq
    rcases hq with rfl | rfl | rfl | rfl
    · exact ⟨_, rfl, by show 0 ≤ a1.toInt; omega, by show a1.toInt ≤ 2147483647; omega⟩
    · exact ⟨_, rfl, by show (-2147483648) ≤ a2.toInt; omega, by show a2.toInt ≤ 2147483647; omega⟩
    · exact ⟨_, rfl, by show (-2147483648) ≤ a3.toInt; omega, by show a3.toInt ≤ 2147483647; omega⟩
    · exact ⟨_, rfl, by show 0 ≤ n.toInt; omega, by show n.toInt ≤ 16; omega⟩
  · intro q hq
    simp only [xc_1020, List.mem_cons, List.not_mem_nil, or_false] at hq
    rcases hq with rfl
    · refine ⟨_, rfl, ?_⟩; show (0 : Int) ≤ 0 + ((-1) * n.toInt + (1 * a1.toInt + (0))); omega
  · simp [xc_1020] at hk
  · intro q hq
    simp only [xc_1020, List.mem_cons, List.not_mem_nil, or_false] at hq
    rcases hq with rfl
    · exact ⟨0, _, rfl, fn, _, rfl, xe_sym (s := 3) rfl⟩
  · intro q hq; cases hq
  · intro q hq
    simp only [xc_1020, List.mem_cons, List.not_mem_nil, or_false] at hq
    rcases hq with rfl | rfl | rfl | rfl
    · exact ⟨_, rfl, rfl⟩
    · exact ⟨_, rfl, a1, rfl, xe_sym (s := 0) rfl⟩
    · exact ⟨_, rfl, a2, rfl, xe_sym (s := 1) rfl⟩
    · exact ⟨_, rfl, a3, rfl, xe_sym (s := 2) rfl⟩
  obtain ⟨τ', a1, a2, a3, a4, p, hp, r', s', a5, a6⟩ := hq
  have hp := List.mem_singleton.mp hp
  subst hp
  cases r with
  | none => cases a6
  | some w =>
    obtain ⟨i, rfl, b1⟩ := a6
    have ei : i = (-2) := Int32.toInt_inj.mp (Option.some.inj (b1.symm.trans (xe_c (by rfl))))
    exact ⟨τ', by rw [ei], a1, a2, a4, a3⟩
def xc_1021 : xCo := (28, ([(0, (3, xk 0, 0)), (1, (0, (.ofNat 0, [(0, .ofNat 1)]), 0)), (2, (0, (.ofNat 0, [(1, .ofNat 1)]), 0)), (3, (0, (.ofNat 0, [(2, .ofNat 1)]), 0))], [], ((([(0, .ofNat 0, .ofNat 2147483647), (1, .negSucc 2147483647, .negSucc 0), (2, .negSucc 2147483647, .ofNat 2147483647), (3, .ofNat 0, .ofNat 16)], [(.negSucc 0, [(3, .ofNat 1), (0, .negSucc 0)])]), 4), [], [((3, xk 0, 0), 1, (0, (.ofNat 0, [(3, .ofNat 1)]), 0))], [], 0)), [(some (0, (.negSucc 1, []), 0), ((([], []), 4), [], [], [], 0))], [], 0, 2)
def xc_1021_e : List xEn := []
def xc_1021_m : List (Nat × zm_M) := [(10, zm_m10), (13, zm_m13), (18, zm_m18), (28, zm_m28)]
def xc_1021_u : List xCo := []
set_option maxRecDepth 100000 in
theorem xc_1021_0 : xchk0 xVV xc_1021_m xc_1021_u xc_1021 xc_1021_e 86 = true := by decide +kernel
set_option maxRecDepth 100000 in
theorem xc_1021_1 : xc_1021_e.all (xchk1 xVV xc_1021_m xc_1021_u xc_1021 xc_1021_e 86) = true := by decide +kernel
theorem xv_1021 {og : Nat → Option zm_C} : xV xVV xX xW og xc_1021 := xchk_ok (n := 86) (MT := xc_1021_m) (CT := xc_1021_u) (E := xc_1021_e) (by
  simp only [xc_1021_m, List.forall_mem_cons]
  exact ⟨rfl, rfl, rfl, rfl, fun _ h => by cases h⟩) (by
  simp only [xc_1021_u, List.forall_mem_cons]
  exact fun _ h => by cases h) xFl_good xXW_ok xc_1021_0 (List.all_eq_true.mp xc_1021_1)
theorem zb_x_worth_2 {og : Nat → Option zm_C} {τ : List Nat} {h : zm_H} {a1 a2 a3 n : Int32} (hH : xHI xKT xSG τ h) (hX : xX τ h) (fn : xfd h 0 1 = some (.int n)) (cc : 0 ≤ a1.toInt ∧ a2.toInt ≤ (-1) ∧ 0 ≤ n.toInt ∧ n.toInt ≤ 16 ∧ 0 ≤ (-1) + (-1) * a1.toInt + 1 * n.toInt) : zm_Y og 2 28 0 [(0, .ref 0), (1, .int a1), (2, .int a2), (3, .int a3)] [] h (xOF τ h 0 [] (fun r _ h1 => (r = some (.int (-2))))) := by
  have ea : xI32a = -2147483648 := rfl
  have eb : xI32b = 2147483647 := rfl
  have ra1 := xb_rng a1
  have ra2 := xb_rng a2
  have ra3 := xb_rng a3
  rw [ea, eb] at ra1 ra2 ra3
  refine (xv_1021 (og := og) [a1.toInt, a2.toInt, a3.toInt, n.toInt] [] τ h _ hH hX ⟨⟨⟨?_, ?_⟩, rfl⟩, ⟨rfl, fun k kd hk => ?_⟩, ?_, ?_⟩ ?_).mono (fun r h' hq => ?_)
  · intro q hq
    simp only [xc_1021, List.mem_cons, List.not_mem_nil, or_false] at hq
    rcases hq with rfl | rfl | rfl | rfl
    · exact ⟨_, rfl, by show 0 ≤ a1.toInt; omega, by show a1.toInt ≤ 2147483647; omega⟩
    · exact ⟨_, rfl, by show (-2147483648) ≤ a2.toInt; omega, by show a2.toInt ≤ (-1); omega⟩
    · exact ⟨_, rfl, by show (-2147483648) ≤ a3.toInt; omega, by show a3.toInt ≤ 2147483647; omega⟩
    · exact ⟨_, rfl, by show 0 ≤ n.toInt; omega, by show n.toInt ≤ 16; omega⟩
  · intro q hq
    simp only [xc_1021, List.mem_cons, List.not_mem_nil, or_false] at hq
    rcases hq with rfl
    · refine ⟨_, rfl, ?_⟩; show (0 : Int) ≤ (-1) + (1 * n.toInt + ((-1) * a1.toInt + (0))); omega
  · simp [xc_1021] at hk
  · intro q hq
    simp only [xc_1021, List.mem_cons, List.not_mem_nil, or_false] at hq
    rcases hq with rfl
    · exact ⟨0, _, rfl, fn, _, rfl, xe_sym (s := 3) rfl⟩
  · intro q hq; cases hq
  · intro q hq
    simp only [xc_1021, List.mem_cons, List.not_mem_nil, or_false] at hq
    rcases hq with rfl | rfl | rfl | rfl
    · exact ⟨_, rfl, rfl⟩
    · exact ⟨_, rfl, a1, rfl, xe_sym (s := 0) rfl⟩
    · exact ⟨_, rfl, a2, rfl, xe_sym (s := 1) rfl⟩
    · exact ⟨_, rfl, a3, rfl, xe_sym (s := 2) rfl⟩
  obtain ⟨τ', a1, a2, a3, a4, p, hp, r', s', a5, a6⟩ := hq
  have hp := List.mem_singleton.mp hp
  subst hp
  cases r with
  | none => cases a6
  | some w =>
    obtain ⟨i, rfl, b1⟩ := a6
    have ei : i = (-2) := Int32.toInt_inj.mp (Option.some.inj (b1.symm.trans (xe_c (by rfl))))
    exact ⟨τ', by rw [ei], a1, a2, a4, a3⟩
def xc_1022 : xCo := (28, ([(0, (3, xk 0, 0)), (1, (0, (.ofNat 0, [(0, .ofNat 1)]), 0)), (2, (0, (.ofNat 0, [(1, .ofNat 1)]), 0)), (3, (0, (.ofNat 0, [(2, .ofNat 1)]), 0))], [], ((([(0, .ofNat 0, .ofNat 2147483647), (1, .ofNat 10001, .ofNat 2147483647), (2, .negSucc 2147483647, .ofNat 2147483647), (3, .ofNat 0, .ofNat 16)], [(.negSucc 0, [(3, .ofNat 1), (0, .negSucc 0)])]), 4), [], [((3, xk 0, 0), 1, (0, (.ofNat 0, [(3, .ofNat 1)]), 0))], [], 0)), [(some (0, (.negSucc 1, []), 0), ((([], []), 4), [], [], [], 0))], [], 0, 2)
def xc_1022_e : List xEn := []
def xc_1022_m : List (Nat × zm_M) := [(10, zm_m10), (13, zm_m13), (18, zm_m18), (28, zm_m28)]
def xc_1022_u : List xCo := []
set_option maxRecDepth 100000 in
theorem xc_1022_0 : xchk0 xVV xc_1022_m xc_1022_u xc_1022 xc_1022_e 89 = true := by decide +kernel
set_option maxRecDepth 100000 in
theorem xc_1022_1 : xc_1022_e.all (xchk1 xVV xc_1022_m xc_1022_u xc_1022 xc_1022_e 89) = true := by decide +kernel
theorem xv_1022 {og : Nat → Option zm_C} : xV xVV xX xW og xc_1022 := xchk_ok (n := 89) (MT := xc_1022_m) (CT := xc_1022_u) (E := xc_1022_e) (by
  simp only [xc_1022_m, List.forall_mem_cons]
  exact ⟨rfl, rfl, rfl, rfl, fun _ h => by cases h⟩) (by
  simp only [xc_1022_u, List.forall_mem_cons]
  exact fun _ h => by cases h) xFl_good xXW_ok xc_1022_0 (List.all_eq_true.mp xc_1022_1)
theorem zb_x_worth_3 {og : Nat → Option zm_C} {τ : List Nat} {h : zm_H} {a1 a2 a3 n : Int32} (hH : xHI xKT xSG τ h) (hX : xX τ h) (fn : xfd h 0 1 = some (.int n)) (cc : 0 ≤ a1.toInt ∧ 10001 ≤ a2.toInt ∧ 0 ≤ n.toInt ∧ n.toInt ≤ 16 ∧ 0 ≤ (-1) + (-1) * a1.toInt + 1 * n.toInt) : zm_Y og 2 28 0 [(0, .ref 0), (1, .int a1), (2, .int a2), (3, .int a3)] [] h (xOF τ h 0 [] (fun r _ h1 => (r = some (.int (-2))))) := by
  have ea : xI32a = -2147483648 := rfl
  have eb : xI32b = 2147483647 := rfl
  have ra1 := xb_rng a1
  have ra2 := xb_rng a2
  have ra3 := xb_rng a3
  rw [ea, eb] at ra1 ra2 ra3
  refine (xv_1022 (og := og) [a1.toInt, a2.toInt, a3.toInt, n.toInt] [] τ h _ hH hX ⟨⟨⟨?_, ?_⟩, rfl⟩, ⟨rfl, fun k kd hk => ?_⟩, ?_, ?_⟩ ?_).mono (fun r h' hq => ?_)
  · intro q hq
    simp only [xc_1022, List.mem_cons, List.not_mem_nil, or_false] at hq
    rcases hq with rfl | rfl | rfl | rfl
    · exact ⟨_, rfl, by show 0 ≤ a1.toInt; omega, by show a1.toInt ≤ 2147483647; omega⟩
    · exact ⟨_, rfl, by show 10001 ≤ a2.toInt; omega, by show a2.toInt ≤ 2147483647; omega⟩
    · exact ⟨_, rfl, by show (-2147483648) ≤ a3.toInt; omega, by show a3.toInt ≤ 2147483647; omega⟩
    · exact ⟨_, rfl, by show 0 ≤ n.toInt; omega, by show n.toInt ≤ 16; omega⟩
  · intro q hq
    simp only [xc_1022, List.mem_cons, List.not_mem_nil, or_false] at hq
    rcases hq with rfl
    · refine ⟨_, rfl, ?_⟩; show (0 : Int) ≤ (-1) + (1 * n.toInt + ((-1) * a1.toInt + (0))); omega
  · simp [xc_1022] at hk
  · intro q hq
    simp only [xc_1022, List.mem_cons, List.not_mem_nil, or_false] at hq
    rcases hq with rfl
    · exact ⟨0, _, rfl, fn, _, rfl, xe_sym (s := 3) rfl⟩
  · intro q hq; cases hq
  · intro q hq
    simp only [xc_1022, List.mem_cons, List.not_mem_nil, or_false] at hq
    rcases hq with rfl | rfl | rfl | rfl
    · exact ⟨_, rfl, rfl⟩
    · exact ⟨_, rfl, a1, rfl, xe_sym (s := 0) rfl⟩
    · exact ⟨_, rfl, a2, rfl, xe_sym (s := 1) rfl⟩
    · exact ⟨_, rfl, a3, rfl, xe_sym (s := 2) rfl⟩
  obtain ⟨τ', a1, a2, a3, a4, p, hp, r', s', a5, a6⟩ := hq
  have hp := List.mem_singleton.mp hp
  subst hp
  cases r with
  | none => cases a6
  | some w =>
    obtain ⟨i, rfl, b1⟩ := a6
    have ei : i = (-2) := Int32.toInt_inj.mp (Option.some.inj (b1.symm.trans (xe_c (by rfl))))
    exact ⟨τ', by rw [ei], a1, a2, a4, a3⟩
def xc_1023 : xCo := (28, ([(0, (3, xk 0, 0)), (1, (0, (.ofNat 0, [(0, .ofNat 1)]), 0)), (2, (0, (.ofNat 0, [(1, .ofNat 1)]), 0)), (3, (0, (.ofNat 0, [(2, .ofNat 1)]), 0))], [], ((([(0, .ofNat 0, .ofNat 2147483647), (1, .ofNat 0, .ofNat 10000), (2, .negSucc 2147483647, .ofNat 0), (3, .ofNat 0, .ofNat 16)], [(.negSucc 0, [(3, .ofNat 1), (0, .negSucc 0)])]), 4), [], [((3, xk 0, 0), 1, (0, (.ofNat 0, [(3, .ofNat 1)]), 0))], [], 0)), [(some (0, (.negSucc 1, []), 0), ((([], []), 4), [], [], [], 0))], [], 0, 2)
def xc_1023_e : List xEn := []
def xc_1023_m : List (Nat × zm_M) := [(10, zm_m10), (13, zm_m13), (14, zm_m14), (18, zm_m18), (28, zm_m28)]
def xc_1023_u : List xCo := []
set_option maxRecDepth 100000 in
theorem xc_1023_0 : xchk0 xVV xc_1023_m xc_1023_u xc_1023 xc_1023_e 103 = true := by decide +kernel
set_option maxRecDepth 100000 in
theorem xc_1023_1 : xc_1023_e.all (xchk1 xVV xc_1023_m xc_1023_u xc_1023 xc_1023_e 103) = true := by decide +kernel
theorem xv_1023 {og : Nat → Option zm_C} : xV xVV xX xW og xc_1023 := xchk_ok (n := 103) (MT := xc_1023_m) (CT := xc_1023_u) (E := xc_1023_e) (by
  simp only [xc_1023_m, List.forall_mem_cons]
  exact ⟨rfl, rfl, rfl, rfl, rfl, fun _ h => by cases h⟩) (by
  simp only [xc_1023_u, List.forall_mem_cons]
  exact fun _ h => by cases h) xFl_good xXW_ok xc_1023_0 (List.all_eq_true.mp xc_1023_1)
theorem zb_x_worth_4 {og : Nat → Option zm_C} {τ : List Nat} {h : zm_H} {a1 a2 a3 n : Int32} (hH : xHI xKT xSG τ h) (hX : xX τ h) (fn : xfd h 0 1 = some (.int n)) (cc : 0 ≤ a1.toInt ∧ 0 ≤ a2.toInt ∧ a2.toInt ≤ 10000 ∧ a3.toInt ≤ 0 ∧ 0 ≤ n.toInt ∧ n.toInt ≤ 16 ∧ 0 ≤ (-1) + (-1) * a1.toInt + 1 * n.toInt) : zm_Y og 2 28 0 [(0, .ref 0), (1, .int a1), (2, .int a2), (3, .int a3)] [] h (xOF τ h 0 [] (fun r _ h1 => (r = some (.int (-2))))) := by
  have ea : xI32a = -2147483648 := rfl
  have eb : xI32b = 2147483647 := rfl
  have ra1 := xb_rng a1
  have ra2 := xb_rng a2
  have ra3 := xb_rng a3
  rw [ea, eb] at ra1 ra2 ra3
  refine (xv_1023 (og := og) [a1.toInt, a2.toInt, a3.toInt, n.toInt] [] τ h _ hH hX ⟨⟨⟨?_, ?_⟩, rfl⟩, ⟨rfl, fun k kd hk => ?_⟩, ?_, ?_⟩ ?_).mono (fun r h' hq => ?_)
  · intro q hq
    simp only [xc_1023, List.mem_cons, List.not_mem_nil, or_false] at hq
    rcases hq with rfl | rfl | rfl | rfl
    · exact ⟨_, rfl, by show 0 ≤ a1.toInt; omega, by show a1.toInt ≤ 2147483647; omega⟩
    · exact ⟨_, rfl, by show 0 ≤ a2.toInt; omega, by show a2.toInt ≤ 10000; omega⟩
    · exact ⟨_, rfl, by show (-2147483648) ≤ a3.toInt; omega, by show a3.toInt ≤ 0; omega⟩
    · exact ⟨_, rfl, by show 0 ≤ n.toInt; omega, by show n.toInt ≤ 16; omega⟩
  · intro q hq
    simp only [xc_1023, List.mem_cons, List.not_mem_nil, or_false] at hq
    rcases hq with rfl
    · refine ⟨_, rfl, ?_⟩; show (0 : Int) ≤ (-1) + (1 * n.toInt + ((-1) * a1.toInt + (0))); omega
  · simp [xc_1023] at hk
  · intro q hq
    simp only [xc_1023, List.mem_cons, List.not_mem_nil, or_false] at hq
    rcases hq with rfl
    · exact ⟨0, _, rfl, fn, _, rfl, xe_sym (s := 3) rfl⟩
  · intro q hq; cases hq
  · intro q hq
    simp only [xc_1023, List.mem_cons, List.not_mem_nil, or_false] at hq
    rcases hq with rfl | rfl | rfl | rfl
    · exact ⟨_, rfl, rfl⟩
    · exact ⟨_, rfl, a1, rfl, xe_sym (s := 0) rfl⟩
    · exact ⟨_, rfl, a2, rfl, xe_sym (s := 1) rfl⟩
    · exact ⟨_, rfl, a3, rfl, xe_sym (s := 2) rfl⟩
  obtain ⟨τ', a1, a2, a3, a4, p, hp, r', s', a5, a6⟩ := hq
  have hp := List.mem_singleton.mp hp
  subst hp
  cases r with
  | none => cases a6
  | some w =>
    obtain ⟨i, rfl, b1⟩ := a6
    have ei : i = (-2) := Int32.toInt_inj.mp (Option.some.inj (b1.symm.trans (xe_c (by rfl))))
    exact ⟨τ', by rw [ei], a1, a2, a4, a3⟩
def xc_1024 : xCo := (28, ([(0, (3, xk 0, 0)), (1, (0, (.ofNat 0, [(0, .ofNat 1)]), 0)), (2, (0, (.ofNat 0, [(1, .ofNat 1)]), 0)), (3, (0, (.ofNat 0, [(2, .ofNat 1)]), 0))], [], ((([(0, .ofNat 0, .ofNat 2147483647), (1, .ofNat 0, .ofNat 10000), (2, .ofNat 10, .ofNat 2147483647), (3, .ofNat 0, .ofNat 16)], [(.negSucc 0, [(3, .ofNat 1), (0, .negSucc 0)])]), 4), [], [((3, xk 0, 0), 1, (0, (.ofNat 0, [(3, .ofNat 1)]), 0))], [], 0)), [(some (0, (.negSucc 1, []), 0), ((([], []), 4), [], [], [], 0))], [], 0, 2)
def xc_1024_e : List xEn := []
def xc_1024_m : List (Nat × zm_M) := [(10, zm_m10), (13, zm_m13), (14, zm_m14), (18, zm_m18), (28, zm_m28)]
def xc_1024_u : List xCo := []
set_option maxRecDepth 100000 in
theorem xc_1024_0 : xchk0 xVV xc_1024_m xc_1024_u xc_1024 xc_1024_e 106 = true := by decide +kernel
set_option maxRecDepth 100000 in
theorem xc_1024_1 : xc_1024_e.all (xchk1 xVV xc_1024_m xc_1024_u xc_1024 xc_1024_e 106) = true := by decide +kernel
theorem xv_1024 {og : Nat → Option zm_C} : xV xVV xX xW og xc_1024 := xchk_ok (n := 106) (MT := xc_1024_m) (CT := xc_1024_u) (E := xc_1024_e) (by
  simp only [xc_1024_m, List.forall_mem_cons]
  exact ⟨rfl, rfl, rfl, rfl, rfl, fun _ h => by cases h⟩) (by
  simp only [xc_1024_u, List.forall_mem_cons]
  exact fun _ h => by cases h) xFl_good xXW_ok xc_1024_0 (List.all_eq_true.mp xc_1024_1)
theorem zb_x_worth_5 {og : Nat → Option zm_C} {τ : List Nat} {h : zm_H} {a1 a2 a3 n : Int32} (hH : xHI xKT xSG τ h) (hX : xX τ h) (fn : xfd h 0 1 = some (.int n)) (cc : 0 ≤ a1.toInt ∧ 0 ≤ a2.toInt ∧ a2.toInt ≤ 10000 ∧ 10 ≤ a3.toInt ∧ 0 ≤ n.toInt ∧ n.toInt ≤ 16 ∧ 0 ≤ (-1) + (-1) * a1.toInt + 1 * n.toInt) : zm_Y og 2 28 0 [(0, .ref 0), (1, .int a1), (2, .int a2), (3, .int a3)] [] h (xOF τ h 0 [] (fun r _ h1 => (r = some (.int (-2))))) := by
  have ea : xI32a = -2147483648 := rfl
  have eb : xI32b = 2147483647 := rfl
  have ra1 := xb_rng a1
  have ra2 := xb_rng a2
  have ra3 := xb_rng a3
  rw [ea, eb] at ra1 ra2 ra3
  refine (xv_1024 (og := og) [a1.toInt, a2.toInt, a3.toInt, n.toInt] [] τ h _ hH hX ⟨⟨⟨?_, ?_⟩, rfl⟩, ⟨rfl, fun k kd hk => ?_⟩, ?_, ?_⟩ ?_).mono (fun r h' hq => ?_)
  · intro q hq
    simp only [xc_1024, List.mem_cons, List.not_mem_nil, or_false] at hq
    rcases hq with rfl | rfl | rfl | rfl
    · exact ⟨_, rfl, by show 0 ≤ a1.toInt; omega, by show a1.toInt ≤ 2147483647; omega⟩
    · exact ⟨_, rfl, by show 0 ≤ a2.toInt; omega, by show a2.toInt ≤ 10000; omega⟩
    · exact ⟨_, rfl, by show 10 ≤ a3.toInt; omega, by show a3.toInt ≤ 2147483647; omega⟩
    · exact ⟨_, rfl, by show 0 ≤ n.toInt; omega, by show n.toInt ≤ 16; omega⟩
  · intro q hq
    simp only [xc_1024, List.mem_cons, List.not_mem_nil, or_false] at hq
    rcases hq with rfl
    · refine ⟨_, rfl, ?_⟩; show (0 : Int) ≤ (-1) + (1 * n.toInt + ((-1) * a1.toInt + (0))); omega
  · simp [xc_1024] at hk
  · intro q hq
    simp only [xc_1024, List.mem_cons, List.not_mem_nil, or_false] at hq
    rcases hq with rfl
    · exact ⟨0, _, rfl, fn, _, rfl, xe_sym (s := 3) rfl⟩
  · intro q hq; cases hq
  · intro q hq
    simp only [xc_1024, List.mem_cons, List.not_mem_nil, or_false] at hq
    rcases hq with rfl | rfl | rfl | rfl
    · exact ⟨_, rfl, rfl⟩
    · exact ⟨_, rfl, a1, rfl, xe_sym (s := 0) rfl⟩
    · exact ⟨_, rfl, a2, rfl, xe_sym (s := 1) rfl⟩
    · exact ⟨_, rfl, a3, rfl, xe_sym (s := 2) rfl⟩
  obtain ⟨τ', a1, a2, a3, a4, p, hp, r', s', a5, a6⟩ := hq
  have hp := List.mem_singleton.mp hp
  subst hp
  cases r with
  | none => cases a6
  | some w =>
    obtain ⟨i, rfl, b1⟩ := a6
    have ei : i = (-2) := Int32.toInt_inj.mp (Option.some.inj (b1.symm.trans (xe_c (by rfl))))
    exact ⟨τ', by rw [ei], a1, a2, a4, a3⟩
def xc_1025 : xCo := (28, ([(0, (3, xk 0, 0)), (1, (0, (.ofNat 0, [(0, .ofNat 1)]), 0)), (2, (0, (.ofNat 0, [(1, .ofNat 1)]), 0)), (3, (0, (.ofNat 0, [(2, .ofNat 1)]), 0))], [], ((([(0, .ofNat 0, .ofNat 2147483647), (1, .ofNat 0, .ofNat 10000), (2, .ofNat 1, .ofNat 9), (3, .ofNat 0, .ofNat 16)], [(.negSucc 0, [(3, .ofNat 1), (0, .negSucc 0)])]), 4), [], [((3, xk 0, 0), 1, (0, (.ofNat 0, [(3, .ofNat 1)]), 0))], [], 0)), [(some (0, (.ofNat 0, []), 0), ((([], []), 4), [], [], [], 0))], [(36, 9), (207, 1), (207, 2)], 0, 2)
def xc_1025_e : List xEn := []
def xc_1025_m : List (Nat × zm_M) := [(10, zm_m10), (13, zm_m13), (14, zm_m14), (18, zm_m18), (28, zm_m28)]
def xc_1025_u : List xCo := []
set_option maxRecDepth 100000 in
theorem xc_1025_0 : xchk0 xVV xc_1025_m xc_1025_u xc_1025 xc_1025_e 123 = true := by decide +kernel
set_option maxRecDepth 100000 in
theorem xc_1025_1 : xc_1025_e.all (xchk1 xVV xc_1025_m xc_1025_u xc_1025 xc_1025_e 123) = true := by decide +kernel
theorem xv_1025 {og : Nat → Option zm_C} : xV xVV xX xW og xc_1025 := xchk_ok (n := 123) (MT := xc_1025_m) (CT := xc_1025_u) (E := xc_1025_e) (by
  simp only [xc_1025_m, List.forall_mem_cons]
  exact ⟨rfl, rfl, rfl, rfl, rfl, fun _ h => by cases h⟩) (by
  simp only [xc_1025_u, List.forall_mem_cons]
  exact fun _ h => by cases h) xFl_good xXW_ok xc_1025_0 (List.all_eq_true.mp xc_1025_1)
theorem zb_x_worth_6 {og : Nat → Option zm_C} {τ : List Nat} {h : zm_H} {a1 a2 a3 n : Int32} (hH : xHI xKT xSG τ h) (hX : xX τ h) (fn : xfd h 0 1 = some (.int n)) (cc : 0 ≤ a1.toInt ∧ 0 ≤ a2.toInt ∧ a2.toInt ≤ 10000 ∧ 1 ≤ a3.toInt ∧ a3.toInt ≤ 9 ∧ 0 ≤ n.toInt ∧ n.toInt ≤ 16 ∧ 0 ≤ (-1) + (-1) * a1.toInt + 1 * n.toInt) : zm_Y og 2 28 0 [(0, .ref 0), (1, .int a1), (2, .int a2), (3, .int a3)] [] h (xOF τ h 0 [(36, 9), (207, 1), (207, 2)] (fun r _ h1 => (r = some (.int 0)))) := by
  have ea : xI32a = -2147483648 := rfl
  have eb : xI32b = 2147483647 := rfl
  have ra1 := xb_rng a1
  have ra2 := xb_rng a2
  have ra3 := xb_rng a3
  rw [ea, eb] at ra1 ra2 ra3
  refine (xv_1025 (og := og) [a1.toInt, a2.toInt, a3.toInt, n.toInt] [] τ h _ hH hX ⟨⟨⟨?_, ?_⟩, rfl⟩, ⟨rfl, fun k kd hk => ?_⟩, ?_, ?_⟩ ?_).mono (fun r h' hq => ?_)
  · intro q hq
    simp only [xc_1025, List.mem_cons, List.not_mem_nil, or_false] at hq
    rcases hq with rfl | rfl | rfl | rfl
    · exact ⟨_, rfl, by show 0 ≤ a1.toInt; omega, by show a1.toInt ≤ 2147483647; omega⟩
    · exact ⟨_, rfl, by show 0 ≤ a2.toInt; omega, by show a2.toInt ≤ 10000; omega⟩
    · exact ⟨_, rfl, by show 1 ≤ a3.toInt; omega, by show a3.toInt ≤ 9; omega⟩
    · exact ⟨_, rfl, by show 0 ≤ n.toInt; omega, by show n.toInt ≤ 16; omega⟩
  · intro q hq
    simp only [xc_1025, List.mem_cons, List.not_mem_nil, or_false] at hq
    rcases hq with rfl
    · refine ⟨_, rfl, ?_⟩; show (0 : Int) ≤ (-1) + (1 * n.toInt + ((-1) * a1.toInt + (0))); omega
  · simp [xc_1025] at hk
  · intro q hq
    simp only [xc_1025, List.mem_cons, List.not_mem_nil, or_false] at hq
    rcases hq with rfl
    · exact ⟨0, _, rfl, fn, _, rfl, xe_sym (s := 3) rfl⟩
  · intro q hq; cases hq
  · intro q hq
    simp only [xc_1025, List.mem_cons, List.not_mem_nil, or_false] at hq
    rcases hq with rfl | rfl | rfl | rfl
    · exact ⟨_, rfl, rfl⟩
    · exact ⟨_, rfl, a1, rfl, xe_sym (s := 0) rfl⟩
    · exact ⟨_, rfl, a2, rfl, xe_sym (s := 1) rfl⟩
    · exact ⟨_, rfl, a3, rfl, xe_sym (s := 2) rfl⟩
  obtain ⟨τ', a1, a2, a3, a4, p, hp, r', s', a5, a6⟩ := hq
  have hp := List.mem_singleton.mp hp
  subst hp
  cases r with
  | none => cases a6
  | some w =>
    obtain ⟨i, rfl, b1⟩ := a6
    have ei : i = 0 := Int32.toInt_inj.mp (Option.some.inj (b1.symm.trans (xe_c (by rfl))))
    exact ⟨τ', by rw [ei], a1, a2, a4, a3⟩
def xc_1026 : xCo := (132, ([(0, (3, xk 0, 0))], [], ((([], []), 0), [], [((3, xk 0, 0), 3, (0, (.ofNat 99, []), 0))], [], 0)), [(some (1, (.ofNat 0, [(0, .ofNat 1)]), 0), ((([(0, .negSucc 9223372036854775807, .ofNat 9223372036854775807)], []), 1), [], [], [], 0))], [], 0, 0)
def xc_1026_e : List xEn := []
def xc_1026_m : List (Nat × zm_M) := [(132, zm_m132)]
def xc_1026_u : List xCo := []
set_option maxRecDepth 100000 in
theorem xc_1026_0 : xchk0 xVV xc_1026_m xc_1026_u xc_1026 xc_1026_e 56 = true := by decide +kernel
set_option maxRecDepth 100000 in
theorem xc_1026_1 : xc_1026_e.all (xchk1 xVV xc_1026_m xc_1026_u xc_1026 xc_1026_e 56) = true := by decide +kernel
theorem xv_1026 {og : Nat → Option zm_C} : xV xVV xX xW og xc_1026 := xchk_ok (n := 56) (MT := xc_1026_m) (CT := xc_1026_u) (E := xc_1026_e) (by
  simp only [xc_1026_m, List.forall_mem_cons]
  exact ⟨rfl, fun _ h => by cases h⟩) (by
  simp only [xc_1026_u, List.forall_mem_cons]
  exact fun _ h => by cases h) xFl_good xXW_ok xc_1026_0 (List.all_eq_true.mp xc_1026_1)
theorem zb_x_go_0 {og : Nat → Option zm_C} {τ : List Nat} {h : zm_H} {y : Int32} (hH : xHI xKT xSG τ h) (hX : xX τ h) (fy : xfd h 0 3 = some (.int y)) (cc : y.toInt = 99) : zm_Y og 0 132 0 [(0, .ref 0)] [] h (xOF τ h 0 [] (fun r _ h1 => (∃ i : Int64, r = some (.long i)))) := by
  have ea : xI32a = -2147483648 := rfl
  have eb : xI32b = 2147483647 := rfl
  refine (xv_1026 (og := og) [] [] τ h _ hH hX ⟨⟨⟨?_, ?_⟩, rfl⟩, ⟨rfl, fun k kd hk => ?_⟩, ?_, ?_⟩ ?_).mono (fun r h' hq => ?_)
  · intro q hq; cases hq
  · intro q hq; cases hq
  · simp [xc_1026] at hk
  · intro q hq
    simp only [xc_1026, List.mem_cons, List.not_mem_nil, or_false] at hq
    rcases hq with rfl
    · exact ⟨0, _, rfl, fy, _, rfl, xe_c (by show y.toInt = 99; omega)⟩
  · intro q hq; cases hq
  · intro q hq
    simp only [xc_1026, List.mem_cons, List.not_mem_nil, or_false] at hq
    rcases hq with rfl
    · exact ⟨_, rfl, rfl⟩
  obtain ⟨τ', a1, a2, a3, a4, p, hp, r', s', a5, a6⟩ := hq
  have hp := List.mem_singleton.mp hp
  subst hp
  cases r with
  | none => cases a6
  | some w =>
    obtain ⟨i, rfl, b1⟩ := a6
    exact ⟨τ', ⟨i, rfl⟩, a1, a2, a4, a3⟩
def xc_1027 : xCo := (132, ([(0, (3, xk 0, 0))], [], ((([(0, .ofNat 0, .ofNat 98)], []), 1), [], [((3, xk 0, 0), 3, (0, (.ofNat 0, [(0, .ofNat 1)]), 0))], [], 0)), [(some (1, (.ofNat 0, [(1, .ofNat 1)]), 0), ((([(1, .negSucc 9223372036854775807, .ofNat 9223372036854775807)], []), 2), [], [((3, xk 0, 0), 3, (0, (.ofNat 1, [(0, .ofNat 1)]), 0))], [], 0))], [(0, 3), (23, 0), (24, 0), (35, 0), (36, 9), (54, 0), (207, 10)], 0, 6)
def xc_1027_e : List xEn := [(38, ([(0, (3, xk 0, 0)), (1, (3, xk 0, 16)), (2, (0, (.ofNat 0, [(1, .ofNat 1)]), 0))], [], ((([(0, .ofNat 0, .ofNat 98), (1, .ofNat 0, .ofNat 16)], []), 2), [], [((3, xk 0, 0), 3, (0, (.ofNat 0, [(0, .ofNat 1)]), 0)), ((3, xk 0, 0), 7, (3, xk 0, 7)), ((3, xk 0, 0), 9, (3, xk 0, 27))], [], 0)), (.ofNat 33, [(1, .negSucc 0)])),
  (38, ([(0, (3, xk 0, 0)), (1, (4, xk 0, 0)), (2, (0, (.ofNat 0, [(1, .ofNat 1)]), 0))], [], ((([(0, .ofNat 0, .ofNat 98), (1, .ofNat 0, .ofNat 16)], []), 2), [200], [((3, xk 0, 0), 3, (0, (.ofNat 0, [(0, .ofNat 1)]), 0)), ((3, xk 0, 0), 7, (3, xk 0, 7)), ((3, xk 0, 0), 9, (3, xk 0, 27))], [], 0)), (.ofNat 33, [(1, .negSucc 0)])),
  (75, ([(0, (3, xk 0, 0)), (1, (3, xk 0, 16)), (2, (1, (.ofNat 0, [(1, .ofNat 1)]), 0)), (4, (0, (.ofNat 0, [(2, .ofNat 1)]), 0))], [], ((([(0, .ofNat 0, .ofNat 98), (1, .negSucc 9223372036854775807, .ofNat 9223372036854775807), (2, .ofNat 0, .ofNat 16), (3, .ofNat 0, .ofNat 16)], [(.ofNat 0, [(3, .ofNat 1), (2, .negSucc 0)])]), 4), [], [((3, xk 0, 0), 3, (0, (.ofNat 0, [(0, .ofNat 1)]), 0)), ((3, xk 0, 0), 7, (3, xk 0, 7)), ((3, xk 0, 0), 9, (3, xk 0, 27)), ((3, xk 0, 0), 1, (0, (.ofNat 0, [(3, .ofNat 1)]), 0))], [], 0)), (.ofNat 16, [(2, .negSucc 0)])),
  (75, ([(0, (3, xk 0, 0)), (1, (4, xk 0, 0)), (2, (1, (.ofNat 0, [(1, .ofNat 1)]), 0)), (4, (0, (.ofNat 0, [(2, .ofNat 1)]), 0))], [], ((([(0, .ofNat 0, .ofNat 98), (1, .negSucc 9223372036854775807, .ofNat 9223372036854775807), (2, .ofNat 0, .ofNat 16), (3, .ofNat 0, .ofNat 16)], [(.ofNat 0, [(3, .ofNat 1), (2, .negSucc 0)])]), 4), [200], [((3, xk 0, 0), 3, (0, (.ofNat 0, [(0, .ofNat 1)]), 0)), ((3, xk 0, 0), 7, (3, xk 0, 7)), ((3, xk 0, 0), 9, (3, xk 0, 27)), ((3, xk 0, 0), 1, (0, (.ofNat 0, [(3, .ofNat 1)]), 0))], [], 0)), (.ofNat 16, [(2, .negSucc 0)]))]
def xc_1027_m : List (Nat × zm_M) := [(75, zm_m75), (93, zm_m93), (132, zm_m132), (133, zm_m133), (134, zm_m134)]
def xc_1027_u : List xCo := [xc_38, xc_37, xc_34, xc_33, xc_15]
set_option maxRecDepth 100000 in
theorem xc_1027_0 : xchk0 xVV xc_1027_m xc_1027_u xc_1027 xc_1027_e 187 = true := by decide +kernel
set_option maxRecDepth 100000 in
theorem xc_1027_1 : xc_1027_e.all (xchk1 xVV xc_1027_m xc_1027_u xc_1027 xc_1027_e 187) = true := by decide +kernel
theorem xv_1027 {og : Nat → Option zm_C} : xV xVV xX xW og xc_1027 := xchk_ok (n := 187) (MT := xc_1027_m) (CT := xc_1027_u) (E := xc_1027_e) (by
  simp only [xc_1027_m, List.forall_mem_cons]
  exact ⟨rfl, rfl, rfl, rfl, rfl, fun _ h => by cases h⟩) (by
  simp only [xc_1027_u, List.forall_mem_cons]
  exact ⟨xv_38, xv_37, xv_34, xv_33, xv_15, fun _ h => by cases h⟩) xFl_good xXW_ok xc_1027_0 (List.all_eq_true.mp xc_1027_1)
theorem zb_x_go_1 {og : Nat → Option zm_C} {τ : List Nat} {h : zm_H} {y : Int32} (hH : xHI xKT xSG τ h) (hX : xX τ h) (fy : xfd h 0 3 = some (.int y)) (cc : 0 ≤ y.toInt ∧ y.toInt ≤ 98) : zm_Y og 6 132 0 [(0, .ref 0)] [] h (xOF τ h 0 [(0, 3), (23, 0), (24, 0), (35, 0), (36, 9), (54, 0), (207, 10)] (fun r _ h1 => (∃ i : Int64, r = some (.long i)) ∧ xfd h1 0 3 = some (.int (y + 1)))) := by
  have ea : xI32a = -2147483648 := rfl
  have eb : xI32b = 2147483647 := rfl
  refine (xv_1027 (og := og) [y.toInt] [] τ h _ hH hX ⟨⟨⟨?_, ?_⟩, rfl⟩, ⟨rfl, fun k kd hk => ?_⟩, ?_, ?_⟩ ?_).mono (fun r h' hq => ?_)
  · intro q hq
    simp only [xc_1027, List.mem_cons, List.not_mem_nil, or_false] at hq
    rcases hq with rfl
    · exact ⟨_, rfl, by show 0 ≤ y.toInt; omega, by show y.toInt ≤ 98; omega⟩
  · intro q hq; cases hq
  · simp [xc_1027] at hk
  · intro q hq
    simp only [xc_1027, List.mem_cons, List.not_mem_nil, or_false] at hq
    rcases hq with rfl
    · exact ⟨0, _, rfl, fy, _, rfl, xe_sym (s := 0) rfl⟩
  · intro q hq; cases hq
  · intro q hq
    simp only [xc_1027, List.mem_cons, List.not_mem_nil, or_false] at hq
    rcases hq with rfl
    · exact ⟨_, rfl, rfl⟩
  obtain ⟨τ', a1, a2, a3, a4, p, hp, r', s', a5, a6⟩ := hq
  have hp := List.mem_singleton.mp hp
  subst hp
  cases r with
  | none => cases a6
  | some w =>
    obtain ⟨i, rfl, b1⟩ := a6
    have m0 : xfd h' 0 3 = some (.int (y + 1)) := xmf_g a5.2.2.1 List.mem_cons_self (by show some ((1 : Int) + (1 * y.toInt + 0)) = some (y + 1 : Int32).toInt; rw [Int32.toInt_add, show (1 : Int32).toInt = 1 from rfl, xb_bm32 (by omega) (by omega)]; congr 1; omega)
    exact ⟨τ', ⟨⟨i, rfl⟩, m0⟩, a1, a2, a4, a3⟩
def xc_1028 : xCo := (266, ([(0, (3, xk 0, 55)), (1, (0, (.ofNat 0, [(0, .ofNat 1)]), 0)), (2, (0, (.ofNat 0, [(1, .ofNat 1)]), 0)), (3, (0, (.ofNat 0, [(2, .ofNat 1)]), 0))], [], ((([(0, .negSucc 2147483647, .negSucc 0), (1, .negSucc 2147483647, .ofNat 2147483647), (2, .negSucc 2147483647, .ofNat 2147483647)], []), 3), [], [], [], 0)), [(some (0, (.negSucc 1, []), 0), ((([], []), 3), [], [], [], 0))], [(55, 0)], 0, 2)
def xc_1028_e : List xEn := []
def xc_1028_m : List (Nat × zm_M) := [(183, zm_m183), (193, zm_m193), (266, zm_m266)]
def xc_1028_u : List xCo := []
set_option maxRecDepth 100000 in
theorem xc_1028_0 : xchk0 xVV xc_1028_m xc_1028_u xc_1028 xc_1028_e 75 = true := by decide +kernel
set_option maxRecDepth 100000 in
theorem xc_1028_1 : xc_1028_e.all (xchk1 xVV xc_1028_m xc_1028_u xc_1028 xc_1028_e 75) = true := by decide +kernel
theorem xv_1028 {og : Nat → Option zm_C} : xV xVV xX xW og xc_1028 := xchk_ok (n := 75) (MT := xc_1028_m) (CT := xc_1028_u) (E := xc_1028_e) (by
  simp only [xc_1028_m, List.forall_mem_cons]
  exact ⟨rfl, rfl, rfl, fun _ h => by cases h⟩) (by
  simp only [xc_1028_u, List.forall_mem_cons]
  exact fun _ h => by cases h) xFl_good xXW_ok xc_1028_0 (List.all_eq_true.mp xc_1028_1)
theorem zb_m_late_0 {og : Nat → Option zm_C} {τ : List Nat} {h : zm_H} {a1 a2 a3 : Int32} (hH : xHI xKT xSG τ h) (hX : xX τ h) (cc : a1.toInt ≤ (-1)) : zm_Y og 2 266 0 [(0, .ref 55), (1, .int a1), (2, .int a2), (3, .int a3)] [] h (xOF τ h 0 [(55, 0)] (fun r _ h1 => (r = some (.int (-2))))) := by
  have ea : xI32a = -2147483648 := rfl
  have eb : xI32b = 2147483647 := rfl
  have ra1 := xb_rng a1
  have ra2 := xb_rng a2
  have ra3 := xb_rng a3
  rw [ea, eb] at ra1 ra2 ra3
  refine (xv_1028 (og := og) [a1.toInt, a2.toInt, a3.toInt] [] τ h _ hH hX ⟨⟨⟨?_, ?_⟩, rfl⟩, ⟨rfl, fun k kd hk => ?_⟩, ?_, ?_⟩ ?_).mono (fun r h' hq => ?_)
  · intro q hq
    simp only [xc_1028, List.mem_cons, List.not_mem_nil, or_false] at hq
    rcases hq with rfl | rfl | rfl
    · exact ⟨_, rfl, by show (-2147483648) ≤ a1.toInt; omega, by show a1.toInt ≤ (-1); omega⟩
    · exact ⟨_, rfl, by show (-2147483648) ≤ a2.toInt; omega, by show a2.toInt ≤ 2147483647; omega⟩
    · exact ⟨_, rfl, by show (-2147483648) ≤ a3.toInt; omega, by show a3.toInt ≤ 2147483647; omega⟩
  · intro q hq; cases hq
  · simp [xc_1028] at hk
  · intro q hq; cases hq
  · intro q hq; cases hq
  · intro q hq
    simp only [xc_1028, List.mem_cons, List.not_mem_nil, or_false] at hq
    rcases hq with rfl | rfl | rfl | rfl
    · exact ⟨_, rfl, rfl⟩
    · exact ⟨_, rfl, a1, rfl, xe_sym (s := 0) rfl⟩
    · exact ⟨_, rfl, a2, rfl, xe_sym (s := 1) rfl⟩
    · exact ⟨_, rfl, a3, rfl, xe_sym (s := 2) rfl⟩
  obtain ⟨τ', a1, a2, a3, a4, p, hp, r', s', a5, a6⟩ := hq
  have hp := List.mem_singleton.mp hp
  subst hp
  cases r with
  | none => cases a6
  | some w =>
    obtain ⟨i, rfl, b1⟩ := a6
    have ei : i = (-2) := Int32.toInt_inj.mp (Option.some.inj (b1.symm.trans (xe_c (by rfl))))
    exact ⟨τ', by rw [ei], a1, a2, a4, a3⟩
def xc_1029 : xCo := (266, ([(0, (3, xk 0, 55)), (1, (0, (.ofNat 0, [(0, .ofNat 1)]), 0)), (2, (0, (.ofNat 0, [(1, .ofNat 1)]), 0)), (3, (0, (.ofNat 0, [(2, .ofNat 1)]), 0))], [], ((([(0, .ofNat 0, .ofNat 2147483647), (1, .negSucc 2147483647, .ofNat 2147483647), (2, .negSucc 2147483647, .ofNat 2147483647), (3, .ofNat 0, .ofNat 16)], [(.ofNat 0, [(3, .negSucc 0), (0, .ofNat 1)])]), 4), [], [((3, xk 0, 55), 6, (0, (.ofNat 0, [(3, .ofNat 1)]), 0))], [], 0)), [(some (0, (.negSucc 1, []), 0), ((([], []), 4), [], [], [], 0))], [(55, 0)], 0, 2)
def xc_1029_e : List xEn := []
def xc_1029_m : List (Nat × zm_M) := [(183, zm_m183), (193, zm_m193), (266, zm_m266)]
def xc_1029_u : List xCo := []
set_option maxRecDepth 100000 in
theorem xc_1029_0 : xchk0 xVV xc_1029_m xc_1029_u xc_1029 xc_1029_e 79 = true := by decide +kernel
set_option maxRecDepth 100000 in
theorem xc_1029_1 : xc_1029_e.all (xchk1 xVV xc_1029_m xc_1029_u xc_1029 xc_1029_e 79) = true := by decide +kernel
theorem xv_1029 {og : Nat → Option zm_C} : xV xVV xX xW og xc_1029 := xchk_ok (n := 79) (MT := xc_1029_m) (CT := xc_1029_u) (E := xc_1029_e) (by
  simp only [xc_1029_m, List.forall_mem_cons]
  exact ⟨rfl, rfl, rfl, fun _ h => by cases h⟩) (by
  simp only [xc_1029_u, List.forall_mem_cons]
  exact fun _ h => by cases h) xFl_good xXW_ok xc_1029_0 (List.all_eq_true.mp xc_1029_1)
theorem zb_m_late_1 {og : Nat → Option zm_C} {τ : List Nat} {h : zm_H} {a1 a2 a3 n : Int32} (hH : xHI xKT xSG τ h) (hX : xX τ h) (fn : xfd h 55 6 = some (.int n)) (cc : 0 ≤ a1.toInt ∧ 0 ≤ n.toInt ∧ n.toInt ≤ 16 ∧ 0 ≤ 0 + 1 * a1.toInt + (-1) * n.toInt) : zm_Y og 2 266 0 [(0, .ref 55), (1, .int a1), (2, .int a2), (3, .int a3)] [] h (xOF τ h 0 [(55, 0)] (fun r _ h1 => (r = some (.int (-2))))) := by
  have ea : xI32a = -2147483648 := rfl
  have eb : xI32b = 2147483647 := rfl
  have ra1 := xb_rng a1
  have ra2 := xb_rng a2
  have ra3 := xb_rng a3
  rw [ea, eb] at ra1 ra2 ra3
  refine (xv_1029 (og := og) [a1.toInt, a2.toInt, a3.toInt, n.toInt] [] τ h _ hH hX ⟨⟨⟨?_, ?_⟩, rfl⟩, ⟨rfl, fun k kd hk => ?_⟩, ?_, ?_⟩ ?_).mono (fun r h' hq => ?_)
  · intro q hq
    simp only [xc_1029, List.mem_cons, List.not_mem_nil, or_false] at hq
    rcases hq with rfl | rfl | rfl | rfl
    · exact ⟨_, rfl, by show 0 ≤ a1.toInt; omega, by show a1.toInt ≤ 2147483647; omega⟩
    · exact ⟨_, rfl, by show (-2147483648) ≤ a2.toInt; omega, by show a2.toInt ≤ 2147483647; omega⟩
    · exact ⟨_, rfl, by show (-2147483648) ≤ a3.toInt; omega, by show a3.toInt ≤ 2147483647; omega⟩
    · exact ⟨_, rfl, by show 0 ≤ n.toInt; omega, by show n.toInt ≤ 16; omega⟩
  · intro q hq
    simp only [xc_1029, List.mem_cons, List.not_mem_nil, or_false] at hq
    rcases hq with rfl
    · refine ⟨_, rfl, ?_⟩; show (0 : Int) ≤ 0 + ((-1) * n.toInt + (1 * a1.toInt + (0))); omega
  · simp [xc_1029] at hk
  · intro q hq
    simp only [xc_1029, List.mem_cons, List.not_mem_nil, or_false] at hq
    rcases hq with rfl
    · exact ⟨55, _, rfl, fn, _, rfl, xe_sym (s := 3) rfl⟩
  · intro q hq; cases hq
  · intro q hq
    simp only [xc_1029, List.mem_cons, List.not_mem_nil, or_false] at hq
    rcases hq with rfl | rfl | rfl | rfl
    · exact ⟨_, rfl, rfl⟩
    · exact ⟨_, rfl, a1, rfl, xe_sym (s := 0) rfl⟩
    · exact ⟨_, rfl, a2, rfl, xe_sym (s := 1) rfl⟩
    · exact ⟨_, rfl, a3, rfl, xe_sym (s := 2) rfl⟩
  obtain ⟨τ', a1, a2, a3, a4, p, hp, r', s', a5, a6⟩ := hq
  have hp := List.mem_singleton.mp hp
  subst hp
  cases r with
  | none => cases a6
  | some w =>
    obtain ⟨i, rfl, b1⟩ := a6
    have ei : i = (-2) := Int32.toInt_inj.mp (Option.some.inj (b1.symm.trans (xe_c (by rfl))))
    exact ⟨τ', by rw [ei], a1, a2, a4, a3⟩
def xc_1030 : xCo := (266, ([(0, (3, xk 0, 55)), (1, (0, (.ofNat 0, [(0, .ofNat 1)]), 0)), (2, (0, (.ofNat 0, [(1, .ofNat 1)]), 0)), (3, (0, (.ofNat 0, [(2, .ofNat 1)]), 0))], [], ((([(0, .ofNat 0, .ofNat 2147483647), (1, .negSucc 2147483647, .negSucc 0), (2, .negSucc 2147483647, .ofNat 2147483647), (3, .ofNat 0, .ofNat 16)], [(.negSucc 0, [(3, .ofNat 1), (0, .negSucc 0)])]), 4), [], [((3, xk 0, 55), 6, (0, (.ofNat 0, [(3, .ofNat 1)]), 0))], [], 0)), [(some (0, (.negSucc 1, []), 0), ((([], []), 4), [], [], [], 0))], [(55, 0)], 0, 2)
def xc_1030_e : List xEn := []
def xc_1030_m : List (Nat × zm_M) := [(183, zm_m183), (193, zm_m193), (266, zm_m266)]
def xc_1030_u : List xCo := []
set_option maxRecDepth 100000 in
theorem xc_1030_0 : xchk0 xVV xc_1030_m xc_1030_u xc_1030 xc_1030_e 96 = true := by decide +kernel
set_option maxRecDepth 100000 in
theorem xc_1030_1 : xc_1030_e.all (xchk1 xVV xc_1030_m xc_1030_u xc_1030 xc_1030_e 96) = true := by decide +kernel
theorem xv_1030 {og : Nat → Option zm_C} : xV xVV xX xW og xc_1030 := xchk_ok (n := 96) (MT := xc_1030_m) (CT := xc_1030_u) (E := xc_1030_e) (by
  simp only [xc_1030_m, List.forall_mem_cons]
  exact ⟨rfl, rfl, rfl, fun _ h => by cases h⟩) (by
  simp only [xc_1030_u, List.forall_mem_cons]
  exact fun _ h => by cases h) xFl_good xXW_ok xc_1030_0 (List.all_eq_true.mp xc_1030_1)
theorem zb_m_late_2 {og : Nat → Option zm_C} {τ : List Nat} {h : zm_H} {a1 a2 a3 n : Int32} (hH : xHI xKT xSG τ h) (hX : xX τ h) (fn : xfd h 55 6 = some (.int n)) (cc : 0 ≤ a1.toInt ∧ a2.toInt ≤ (-1) ∧ 0 ≤ n.toInt ∧ n.toInt ≤ 16 ∧ 0 ≤ (-1) + (-1) * a1.toInt + 1 * n.toInt) : zm_Y og 2 266 0 [(0, .ref 55), (1, .int a1), (2, .int a2), (3, .int a3)] [] h (xOF τ h 0 [(55, 0)] (fun r _ h1 => (r = some (.int (-2))))) := by
  have ea : xI32a = -2147483648 := rfl
  have eb : xI32b = 2147483647 := rfl
  have ra1 := xb_rng a1
  have ra2 := xb_rng a2
  have ra3 := xb_rng a3
  rw [ea, eb] at ra1 ra2 ra3
  refine (xv_1030 (og := og) [a1.toInt, a2.toInt, a3.toInt, n.toInt] [] τ h _ hH hX ⟨⟨⟨?_, ?_⟩, rfl⟩, ⟨rfl, fun k kd hk => ?_⟩, ?_, ?_⟩ ?_).mono (fun r h' hq => ?_)
  · intro q hq
    simp only [xc_1030, List.mem_cons, List.not_mem_nil, or_false] at hq
    rcases hq with rfl | rfl | rfl | rfl
    · exact ⟨_, rfl, by show 0 ≤ a1.toInt; omega, by show a1.toInt ≤ 2147483647; omega⟩
    · exact ⟨_, rfl, by show (-2147483648) ≤ a2.toInt; omega, by show a2.toInt ≤ (-1); omega⟩
    · exact ⟨_, rfl, by show (-2147483648) ≤ a3.toInt; omega, by show a3.toInt ≤ 2147483647; omega⟩
    · exact ⟨_, rfl, by show 0 ≤ n.toInt; omega, by show n.toInt ≤ 16; omega⟩
  · intro q hq
    simp only [xc_1030, List.mem_cons, List.not_mem_nil, or_false] at hq
    rcases hq with rfl
    · refine ⟨_, rfl, ?_⟩; show (0 : Int) ≤ (-1) + (1 * n.toInt + ((-1) * a1.toInt + (0))); omega
  · simp [xc_1030] at hk
  · intro q hq
    simp only [xc_1030, List.mem_cons, List.not_mem_nil, or_false] at hq
    rcases hq with rfl
    · exact ⟨55, _, rfl, fn, _, rfl, xe_sym (s := 3) rfl⟩
  · intro q hq; cases hq
  · intro q hq
    simp only [xc_1030, List.mem_cons, List.not_mem_nil, or_false] at hq
    rcases hq with rfl | rfl | rfl | rfl
    · exact ⟨_, rfl, rfl⟩
    · exact ⟨_, rfl, a1, rfl, xe_sym (s := 0) rfl⟩
    · exact ⟨_, rfl, a2, rfl, xe_sym (s := 1) rfl⟩
    · exact ⟨_, rfl, a3, rfl, xe_sym (s := 2) rfl⟩
  obtain ⟨τ', a1, a2, a3, a4, p, hp, r', s', a5, a6⟩ := hq
  have hp := List.mem_singleton.mp hp
  subst hp
  cases r with
  | none => cases a6
  | some w =>
    obtain ⟨i, rfl, b1⟩ := a6
    have ei : i = (-2) := Int32.toInt_inj.mp (Option.some.inj (b1.symm.trans (xe_c (by rfl))))
    exact ⟨τ', by rw [ei], a1, a2, a4, a3⟩
def xc_1031 : xCo := (266, ([(0, (3, xk 0, 55)), (1, (0, (.ofNat 0, [(0, .ofNat 1)]), 0)), (2, (0, (.ofNat 0, [(1, .ofNat 1)]), 0)), (3, (0, (.ofNat 0, [(2, .ofNat 1)]), 0))], [], ((([(0, .ofNat 0, .ofNat 2147483647), (1, .ofNat 0, .ofNat 2147483647), (2, .negSucc 2147483647, .ofNat 2147483647), (3, .ofNat 0, .ofNat 16), (4, .ofNat 0, .ofNat 99)], [(.negSucc 0, [(3, .ofNat 1), (0, .negSucc 0)]), (.ofNat 0, [(4, .negSucc 0), (1, .ofNat 1)])]), 5), [], [((3, xk 0, 55), 6, (0, (.ofNat 0, [(3, .ofNat 1)]), 0)), ((3, xk 0, 55), 5, (0, (.ofNat 0, [(4, .ofNat 1)]), 0))], [], 0)), [(some (0, (.negSucc 1, []), 0), ((([], []), 5), [], [], [], 0))], [(55, 0)], 0, 2)
def xc_1031_e : List xEn := []
def xc_1031_m : List (Nat × zm_M) := [(183, zm_m183), (193, zm_m193), (266, zm_m266)]
def xc_1031_u : List xCo := []
set_option maxRecDepth 100000 in
theorem xc_1031_0 : xchk0 xVV xc_1031_m xc_1031_u xc_1031 xc_1031_e 100 = true := by decide +kernel
set_option maxRecDepth 100000 in
theorem xc_1031_1 : xc_1031_e.all (xchk1 xVV xc_1031_m xc_1031_u xc_1031 xc_1031_e 100) = true := by decide +kernel
theorem xv_1031 {og : Nat → Option zm_C} : xV xVV xX xW og xc_1031 := xchk_ok (n := 100) (MT := xc_1031_m) (CT := xc_1031_u) (E := xc_1031_e) (by
  simp only [xc_1031_m, List.forall_mem_cons]
  exact ⟨rfl, rfl, rfl, fun _ h => by cases h⟩) (by
  simp only [xc_1031_u, List.forall_mem_cons]
  exact fun _ h => by cases h) xFl_good xXW_ok xc_1031_0 (List.all_eq_true.mp xc_1031_1)
theorem zb_m_late_3 {og : Nat → Option zm_C} {τ : List Nat} {h : zm_H} {a1 a2 a3 n y : Int32} (hH : xHI xKT xSG τ h) (hX : xX τ h) (fn : xfd h 55 6 = some (.int n)) (fy : xfd h 55 5 = some (.int y)) (cc : 0 ≤ a1.toInt ∧ 0 ≤ a2.toInt ∧ 0 ≤ n.toInt ∧ n.toInt ≤ 16 ∧ 0 ≤ y.toInt ∧ y.toInt ≤ 99 ∧ 0 ≤ (-1) + (-1) * a1.toInt + 1 * n.toInt ∧ 0 ≤ 0 + 1 * a2.toInt + (-1) * y.toInt) : zm_Y og 2 266 0 [(0, .ref 55), (1, .int a1), (2, .int a2), (3, .int a3)] [] h (xOF τ h 0 [(55, 0)] (fun r _ h1 => (r = some (.int (-2))))) := by
  have ea : xI32a = -2147483648 := rfl
  have eb : xI32b = 2147483647 := rfl
  have ra1 := xb_rng a1
  have ra2 := xb_rng a2
  have ra3 := xb_rng a3
  rw [ea, eb] at ra1 ra2 ra3
  refine (xv_1031 (og := og) [a1.toInt, a2.toInt, a3.toInt, n.toInt, y.toInt] [] τ h _ hH hX ⟨⟨⟨?_, ?_⟩, rfl⟩, ⟨rfl, fun k kd hk => ?_⟩, ?_, ?_⟩ ?_).mono (fun r h' hq => ?_)
  · intro q hq
    simp only [xc_1031, List.mem_cons, List.not_mem_nil, or_false] at hq
    rcases hq with rfl | rfl | rfl | rfl | rfl
    · exact ⟨_, rfl, by show 0 ≤ a1.toInt; omega, by show a1.toInt ≤ 2147483647; omega⟩
    · exact ⟨_, rfl, by show 0 ≤ a2.toInt; omega, by show a2.toInt ≤ 2147483647; omega⟩
    · exact ⟨_, rfl, by show (-2147483648) ≤ a3.toInt; omega, by show a3.toInt ≤ 2147483647; omega⟩
    · exact ⟨_, rfl, by show 0 ≤ n.toInt; omega, by show n.toInt ≤ 16; omega⟩
    · exact ⟨_, rfl, by show 0 ≤ y.toInt; omega, by show y.toInt ≤ 99; omega⟩
  · intro q hq
    simp only [xc_1031, List.mem_cons, List.not_mem_nil, or_false] at hq
    rcases hq with rfl | rfl
    · refine ⟨_, rfl, ?_⟩; show (0 : Int) ≤ (-1) + (1 * n.toInt + ((-1) * a1.toInt + (0))); omega
    · refine ⟨_, rfl, ?_⟩; show (0 : Int) ≤ 0 + ((-1) * y.toInt + (1 * a2.toInt + (0))); omega
  · simp [xc_1031] at hk
  · intro q hq
    simp only [xc_1031, List.mem_cons, List.not_mem_nil, or_false] at hq
    rcases hq with rfl | rfl
    · exact ⟨55, _, rfl, fn, _, rfl, xe_sym (s := 3) rfl⟩
    · exact ⟨55, _, rfl, fy, _, rfl, xe_sym (s := 4) rfl⟩
  · intro q hq; cases hq
  · intro q hq
    simp only [xc_1031, List.mem_cons, List.not_mem_nil, or_false] at hq
    rcases hq with rfl | rfl | rfl | rfl
    · exact ⟨_, rfl, rfl⟩
    · exact ⟨_, rfl, a1, rfl, xe_sym (s := 0) rfl⟩
    · exact ⟨_, rfl, a2, rfl, xe_sym (s := 1) rfl⟩
    · exact ⟨_, rfl, a3, rfl, xe_sym (s := 2) rfl⟩
  obtain ⟨τ', a1, a2, a3, a4, p, hp, r', s', a5, a6⟩ := hq
  have hp := List.mem_singleton.mp hp
  subst hp
  cases r with
  | none => cases a6
  | some w =>
    obtain ⟨i, rfl, b1⟩ := a6
    have ei : i = (-2) := Int32.toInt_inj.mp (Option.some.inj (b1.symm.trans (xe_c (by rfl))))
    exact ⟨τ', by rw [ei], a1, a2, a4, a3⟩
def xc_1032 : xCo := (266, ([(0, (3, xk 0, 55)), (1, (0, (.ofNat 0, [(0, .ofNat 1)]), 0)), (2, (0, (.ofNat 0, [(1, .ofNat 1)]), 0)), (3, (0, (.ofNat 0, [(2, .ofNat 1)]), 0))], [], ((([(0, .ofNat 0, .ofNat 2147483647), (1, .ofNat 0, .ofNat 2147483647), (2, .negSucc 2147483647, .negSucc 0), (3, .ofNat 0, .ofNat 16), (4, .ofNat 0, .ofNat 99)], [(.negSucc 0, [(3, .ofNat 1), (0, .negSucc 0)]), (.negSucc 0, [(4, .ofNat 1), (1, .negSucc 0)])]), 5), [], [((3, xk 0, 55), 6, (0, (.ofNat 0, [(3, .ofNat 1)]), 0)), ((3, xk 0, 55), 5, (0, (.ofNat 0, [(4, .ofNat 1)]), 0))], [], 0)), [(some (0, (.negSucc 1, []), 0), ((([], []), 5), [], [], [], 0))], [(55, 0)], 0, 2)
def xc_1032_e : List xEn := []
def xc_1032_m : List (Nat × zm_M) := [(183, zm_m183), (193, zm_m193), (266, zm_m266)]
def xc_1032_u : List xCo := []
set_option maxRecDepth 100000 in
theorem xc_1032_0 : xchk0 xVV xc_1032_m xc_1032_u xc_1032 xc_1032_e 113 = true := by decide +kernel
set_option maxRecDepth 100000 in
theorem xc_1032_1 : xc_1032_e.all (xchk1 xVV xc_1032_m xc_1032_u xc_1032 xc_1032_e 113) = true := by decide +kernel
theorem xv_1032 {og : Nat → Option zm_C} : xV xVV xX xW og xc_1032 := xchk_ok (n := 113) (MT := xc_1032_m) (CT := xc_1032_u) (E := xc_1032_e) (by
  simp only [xc_1032_m, List.forall_mem_cons]
  exact ⟨rfl, rfl, rfl, fun _ h => by cases h⟩) (by
  simp only [xc_1032_u, List.forall_mem_cons]
  exact fun _ h => by cases h) xFl_good xXW_ok xc_1032_0 (List.all_eq_true.mp xc_1032_1)
theorem zb_m_late_4 {og : Nat → Option zm_C} {τ : List Nat} {h : zm_H} {a1 a2 a3 n y : Int32} (hH : xHI xKT xSG τ h) (hX : xX τ h) (fn : xfd h 55 6 = some (.int n)) (fy : xfd h 55 5 = some (.int y)) (cc : 0 ≤ a1.toInt ∧ 0 ≤ a2.toInt ∧ a3.toInt ≤ (-1) ∧ 0 ≤ n.toInt ∧ n.toInt ≤ 16 ∧ 0 ≤ y.toInt ∧ y.toInt ≤ 99 ∧ 0 ≤ (-1) + (-1) * a1.toInt + 1 * n.toInt ∧ 0 ≤ (-1) + (-1) * a2.toInt + 1 * y.toInt) : zm_Y og 2 266 0 [(0, .ref 55), (1, .int a1), (2, .int a2), (3, .int a3)] [] h (xOF τ h 0 [(55, 0)] (fun r _ h1 => (r = some (.int (-2))))) := by
  have ea : xI32a = -2147483648 := rfl
  have eb : xI32b = 2147483647 := rfl
  have ra1 := xb_rng a1
  have ra2 := xb_rng a2
  have ra3 := xb_rng a3
  rw [ea, eb] at ra1 ra2 ra3
  refine (xv_1032 (og := og) [a1.toInt, a2.toInt, a3.toInt, n.toInt, y.toInt] [] τ h _ hH hX ⟨⟨⟨?_, ?_⟩, rfl⟩, ⟨rfl, fun k kd hk => ?_⟩, ?_, ?_⟩ ?_).mono (fun r h' hq => ?_)
  · intro q hq
    simp only [xc_1032, List.mem_cons, List.not_mem_nil, or_false] at hq
    rcases hq with rfl | rfl | rfl | rfl | rfl
    · exact ⟨_, rfl, by show 0 ≤ a1.toInt; omega, by show a1.toInt ≤ 2147483647; omega⟩
    · exact ⟨_, rfl, by show 0 ≤ a2.toInt; omega, by show a2.toInt ≤ 2147483647; omega⟩
    · exact ⟨_, rfl, by show (-2147483648) ≤ a3.toInt; omega, by show a3.toInt ≤ (-1); omega⟩
    · exact ⟨_, rfl, by show 0 ≤ n.toInt; omega, by show n.toInt ≤ 16; omega⟩
    · exact ⟨_, rfl, by show 0 ≤ y.toInt; omega, by show y.toInt ≤ 99; omega⟩
  · intro q hq
    simp only [xc_1032, List.mem_cons, List.not_mem_nil, or_false] at hq
    rcases hq with rfl | rfl
    · refine ⟨_, rfl, ?_⟩; show (0 : Int) ≤ (-1) + (1 * n.toInt + ((-1) * a1.toInt + (0))); omega
    · refine ⟨_, rfl, ?_⟩; show (0 : Int) ≤ (-1) + (1 * y.toInt + ((-1) * a2.toInt + (0))); omega
  · simp [xc_1032] at hk
  · intro q hq
    simp only [xc_1032, List.mem_cons, List.not_mem_nil, or_false] at hq
    rcases hq with rfl | rfl
    · exact ⟨55, _, rfl, fn, _, rfl, xe_sym (s := 3) rfl⟩
    · exact ⟨55, _, rfl, fy, _, rfl, xe_sym (s := 4) rfl⟩
  · intro q hq; cases hq
  · intro q hq
    simp only [xc_1032, List.mem_cons, List.not_mem_nil, or_false] at hq
    rcases hq with rfl | rfl | rfl | rfl
    · exact ⟨_, rfl, rfl⟩
    · exact ⟨_, rfl, a1, rfl, xe_sym (s := 0) rfl⟩
    · exact ⟨_, rfl, a2, rfl, xe_sym (s := 1) rfl⟩
    · exact ⟨_, rfl, a3, rfl, xe_sym (s := 2) rfl⟩
  obtain ⟨τ', a1, a2, a3, a4, p, hp, r', s', a5, a6⟩ := hq
  have hp := List.mem_singleton.mp hp
  subst hp
  cases r with
  | none => cases a6
  | some w =>
    obtain ⟨i, rfl, b1⟩ := a6
    have ei : i = (-2) := Int32.toInt_inj.mp (Option.some.inj (b1.symm.trans (xe_c (by rfl))))
    exact ⟨τ', by rw [ei], a1, a2, a4, a3⟩
def xc_1033 : xCo := (266, ([(0, (3, xk 0, 55)), (1, (0, (.ofNat 0, [(0, .ofNat 1)]), 0)), (2, (0, (.ofNat 0, [(1, .ofNat 1)]), 0)), (3, (0, (.ofNat 0, [(2, .ofNat 1)]), 0))], [], ((([(0, .ofNat 0, .ofNat 2147483647), (1, .ofNat 0, .ofNat 2147483647), (2, .ofNat 1001, .ofNat 2147483647), (3, .ofNat 0, .ofNat 16), (4, .ofNat 0, .ofNat 99)], [(.negSucc 0, [(3, .ofNat 1), (0, .negSucc 0)]), (.negSucc 0, [(4, .ofNat 1), (1, .negSucc 0)])]), 5), [], [((3, xk 0, 55), 6, (0, (.ofNat 0, [(3, .ofNat 1)]), 0)), ((3, xk 0, 55), 5, (0, (.ofNat 0, [(4, .ofNat 1)]), 0))], [], 0)), [(some (0, (.negSucc 1, []), 0), ((([], []), 5), [], [], [], 0))], [(55, 0)], 0, 2)
def xc_1033_e : List xEn := []
def xc_1033_m : List (Nat × zm_M) := [(183, zm_m183), (193, zm_m193), (266, zm_m266)]
def xc_1033_u : List xCo := []
set_option maxRecDepth 100000 in
theorem xc_1033_0 : xchk0 xVV xc_1033_m xc_1033_u xc_1033 xc_1033_e 117 = true := by decide +kernel
set_option maxRecDepth 100000 in
theorem xc_1033_1 : xc_1033_e.all (xchk1 xVV xc_1033_m xc_1033_u xc_1033 xc_1033_e 117) = true := by decide +kernel
theorem xv_1033 {og : Nat → Option zm_C} : xV xVV xX xW og xc_1033 := xchk_ok (n := 117) (MT := xc_1033_m) (CT := xc_1033_u) (E := xc_1033_e) (by
  simp only [xc_1033_m, List.forall_mem_cons]
  exact ⟨rfl, rfl, rfl, fun _ h => by cases h⟩) (by
  simp only [xc_1033_u, List.forall_mem_cons]
  exact fun _ h => by cases h) xFl_good xXW_ok xc_1033_0 (List.all_eq_true.mp xc_1033_1)
theorem zb_m_late_5 {og : Nat → Option zm_C} {τ : List Nat} {h : zm_H} {a1 a2 a3 n y : Int32} (hH : xHI xKT xSG τ h) (hX : xX τ h) (fn : xfd h 55 6 = some (.int n)) (fy : xfd h 55 5 = some (.int y)) (cc : 0 ≤ a1.toInt ∧ 0 ≤ a2.toInt ∧ 1001 ≤ a3.toInt ∧ 0 ≤ n.toInt ∧ n.toInt ≤ 16 ∧ 0 ≤ y.toInt ∧ y.toInt ≤ 99 ∧ 0 ≤ (-1) + (-1) * a1.toInt + 1 * n.toInt ∧ 0 ≤ (-1) + (-1) * a2.toInt + 1 * y.toInt) : zm_Y og 2 266 0 [(0, .ref 55), (1, .int a1), (2, .int a2), (3, .int a3)] [] h (xOF τ h 0 [(55, 0)] (fun r _ h1 => (r = some (.int (-2))))) := by
  have ea : xI32a = -2147483648 := rfl
  have eb : xI32b = 2147483647 := rfl
  have ra1 := xb_rng a1
  have ra2 := xb_rng a2
  have ra3 := xb_rng a3
  rw [ea, eb] at ra1 ra2 ra3
  refine (xv_1033 (og := og) [a1.toInt, a2.toInt, a3.toInt, n.toInt, y.toInt] [] τ h _ hH hX ⟨⟨⟨?_, ?_⟩, rfl⟩, ⟨rfl, fun k kd hk => ?_⟩, ?_, ?_⟩ ?_).mono (fun r h' hq => ?_)
  · intro q hq
    simp only [xc_1033, List.mem_cons, List.not_mem_nil, or_false] at hq
    rcases hq with rfl | rfl | rfl | rfl | rfl
    · exact ⟨_, rfl, by show 0 ≤ a1.toInt; omega, by show a1.toInt ≤ 2147483647; omega⟩
    · exact ⟨_, rfl, by show 0 ≤ a2.toInt; omega, by show a2.toInt ≤ 2147483647; omega⟩
    · exact ⟨_, rfl, by show 1001 ≤ a3.toInt; omega, by show a3.toInt ≤ 2147483647; omega⟩
    · exact ⟨_, rfl, by show 0 ≤ n.toInt; omega, by show n.toInt ≤ 16; omega⟩
    · exact ⟨_, rfl, by show 0 ≤ y.toInt; omega, by show y.toInt ≤ 99; omega⟩
  · intro q hq
    simp only [xc_1033, List.mem_cons, List.not_mem_nil, or_false] at hq
    rcases hq with rfl | rfl
    · refine ⟨_, rfl, ?_⟩; show (0 : Int) ≤ (-1) + (1 * n.toInt + ((-1) * a1.toInt + (0))); omega
    · refine ⟨_, rfl, ?_⟩; show (0 : Int) ≤ (-1) + (1 * y.toInt + ((-1) * a2.toInt + (0))); omega
  · simp [xc_1033] at hk
  · intro q hq
    simp only [xc_1033, List.mem_cons, List.not_mem_nil, or_false] at hq
    rcases hq with rfl | rfl
    · exact ⟨55, _, rfl, fn, _, rfl, xe_sym (s := 3) rfl⟩
    · exact ⟨55, _, rfl, fy, _, rfl, xe_sym (s := 4) rfl⟩
  · intro q hq; cases hq
  · intro q hq
    simp only [xc_1033, List.mem_cons, List.not_mem_nil, or_false] at hq
    rcases hq with rfl | rfl | rfl | rfl
    · exact ⟨_, rfl, rfl⟩
    · exact ⟨_, rfl, a1, rfl, xe_sym (s := 0) rfl⟩
    · exact ⟨_, rfl, a2, rfl, xe_sym (s := 1) rfl⟩
    · exact ⟨_, rfl, a3, rfl, xe_sym (s := 2) rfl⟩
  obtain ⟨τ', a1, a2, a3, a4, p, hp, r', s', a5, a6⟩ := hq
  have hp := List.mem_singleton.mp hp
  subst hp
  cases r with
  | none => cases a6
  | some w =>
    obtain ⟨i, rfl, b1⟩ := a6
    have ei : i = (-2) := Int32.toInt_inj.mp (Option.some.inj (b1.symm.trans (xe_c (by rfl))))
    exact ⟨τ', by rw [ei], a1, a2, a4, a3⟩
def xc_1034 : xCo := (266, ([(0, (3, xk 0, 55)), (1, (0, (.ofNat 0, [(0, .ofNat 1)]), 0)), (2, (0, (.ofNat 0, [(1, .ofNat 1)]), 0)), (3, (0, (.ofNat 0, [(2, .ofNat 1)]), 0))], [], ((([(0, .ofNat 0, .ofNat 2147483647), (1, .ofNat 0, .ofNat 2147483647), (2, .ofNat 0, .ofNat 1000), (3, .ofNat 0, .ofNat 16), (4, .ofNat 0, .ofNat 99)], [(.negSucc 0, [(3, .ofNat 1), (0, .negSucc 0)]), (.negSucc 0, [(4, .ofNat 1), (1, .negSucc 0)])]), 5), [], [((3, xk 0, 55), 6, (0, (.ofNat 0, [(3, .ofNat 1)]), 0)), ((3, xk 0, 55), 5, (0, (.ofNat 0, [(4, .ofNat 1)]), 0)), ((3, xk 0, 55), 8, (0, (.ofNat 1200, []), 0))], [], 0)), [(some (0, (.negSucc 2, []), 0), ((([], []), 5), [], [], [], 0))], [(55, 0)], 0, 2)
def xc_1034_e : List xEn := []
def xc_1034_m : List (Nat × zm_M) := [(183, zm_m183), (193, zm_m193), (266, zm_m266)]
def xc_1034_u : List xCo := []
set_option maxRecDepth 100000 in
theorem xc_1034_0 : xchk0 xVV xc_1034_m xc_1034_u xc_1034 xc_1034_e 122 = true := by decide +kernel
set_option maxRecDepth 100000 in
theorem xc_1034_1 : xc_1034_e.all (xchk1 xVV xc_1034_m xc_1034_u xc_1034 xc_1034_e 122) = true := by decide +kernel
theorem xv_1034 {og : Nat → Option zm_C} : xV xVV xX xW og xc_1034 := xchk_ok (n := 122) (MT := xc_1034_m) (CT := xc_1034_u) (E := xc_1034_e) (by
  simp only [xc_1034_m, List.forall_mem_cons]
  exact ⟨rfl, rfl, rfl, fun _ h => by cases h⟩) (by
  simp only [xc_1034_u, List.forall_mem_cons]
  exact fun _ h => by cases h) xFl_good xXW_ok xc_1034_0 (List.all_eq_true.mp xc_1034_1)
theorem zb_m_late_6 {og : Nat → Option zm_C} {τ : List Nat} {h : zm_H} {a1 a2 a3 n y L : Int32} (hH : xHI xKT xSG τ h) (hX : xX τ h) (fn : xfd h 55 6 = some (.int n)) (fy : xfd h 55 5 = some (.int y)) (fL : xfd h 55 8 = some (.int L)) (cc : 0 ≤ a1.toInt ∧ 0 ≤ a2.toInt ∧ 0 ≤ a3.toInt ∧ a3.toInt ≤ 1000 ∧ 0 ≤ n.toInt ∧ n.toInt ≤ 16 ∧ 0 ≤ y.toInt ∧ y.toInt ≤ 99 ∧ L.toInt = 1200 ∧ 0 ≤ (-1) + (-1) * a1.toInt + 1 * n.toInt ∧ 0 ≤ (-1) + (-1) * a2.toInt + 1 * y.toInt) : zm_Y og 2 266 0 [(0, .ref 55), (1, .int a1), (2, .int a2), (3, .int a3)] [] h (xOF τ h 0 [(55, 0)] (fun r _ h1 => (r = some (.int (-3))))) := by
  have ea : xI32a = -2147483648 := rfl
  have eb : xI32b = 2147483647 := rfl
  have ra1 := xb_rng a1
  have ra2 := xb_rng a2
  have ra3 := xb_rng a3
  rw [ea, eb] at ra1 ra2 ra3
  refine (xv_1034 (og := og) [a1.toInt, a2.toInt, a3.toInt, n.toInt, y.toInt] [] τ h _ hH hX ⟨⟨⟨?_, ?_⟩, rfl⟩, ⟨rfl, fun k kd hk => ?_⟩, ?_, ?_⟩ ?_).mono (fun r h' hq => ?_)
  · intro q hq
    simp only [xc_1034, List.mem_cons, List.not_mem_nil, or_false] at hq
    rcases hq with rfl | rfl | rfl | rfl | rfl
    · exact ⟨_, rfl, by show 0 ≤ a1.toInt; omega, by show a1.toInt ≤ 2147483647; omega⟩
    · exact ⟨_, rfl, by show 0 ≤ a2.toInt; omega, by show a2.toInt ≤ 2147483647; omega⟩
    · exact ⟨_, rfl, by show 0 ≤ a3.toInt; omega, by show a3.toInt ≤ 1000; omega⟩
    · exact ⟨_, rfl, by show 0 ≤ n.toInt; omega, by show n.toInt ≤ 16; omega⟩
    · exact ⟨_, rfl, by show 0 ≤ y.toInt; omega, by show y.toInt ≤ 99; omega⟩
  · intro q hq
    simp only [xc_1034, List.mem_cons, List.not_mem_nil, or_false] at hq
    rcases hq with rfl | rfl
    · refine ⟨_, rfl, ?_⟩; show (0 : Int) ≤ (-1) + (1 * n.toInt + ((-1) * a1.toInt + (0))); omega
    · refine ⟨_, rfl, ?_⟩; show (0 : Int) ≤ (-1) + (1 * y.toInt + ((-1) * a2.toInt + (0))); omega
  · simp [xc_1034] at hk
  · intro q hq
    simp only [xc_1034, List.mem_cons, List.not_mem_nil, or_false] at hq
    rcases hq with rfl | rfl | rfl
    · exact ⟨55, _, rfl, fn, _, rfl, xe_sym (s := 3) rfl⟩
    · exact ⟨55, _, rfl, fy, _, rfl, xe_sym (s := 4) rfl⟩
    · exact ⟨55, _, rfl, fL, _, rfl, xe_c (by show L.toInt = 1200; omega)⟩
  · intro q hq; cases hq
  · intro q hq
    simp only [xc_1034, List.mem_cons, List.not_mem_nil, or_false] at hq
    rcases hq with rfl | rfl | rfl | rfl
    · exact ⟨_, rfl, rfl⟩
    · exact ⟨_, rfl, a1, rfl, xe_sym (s := 0) rfl⟩
    · exact ⟨_, rfl, a2, rfl, xe_sym (s := 1) rfl⟩
    · exact ⟨_, rfl, a3, rfl, xe_sym (s := 2) rfl⟩
  obtain ⟨τ', a1, a2, a3, a4, p, hp, r', s', a5, a6⟩ := hq
  have hp := List.mem_singleton.mp hp
  subst hp
  cases r with
  | none => cases a6
  | some w =>
    obtain ⟨i, rfl, b1⟩ := a6
    have ei : i = (-3) := Int32.toInt_inj.mp (Option.some.inj (b1.symm.trans (xe_c (by rfl))))
    exact ⟨τ', by rw [ei], a1, a2, a4, a3⟩
def xc_1035 : xCo := (266, ([(0, (3, xk 0, 55)), (1, (0, (.ofNat 0, [(0, .ofNat 1)]), 0)), (2, (0, (.ofNat 0, [(1, .ofNat 1)]), 0)), (3, (0, (.ofNat 0, [(2, .ofNat 1)]), 0))], [], ((([(0, .ofNat 0, .ofNat 2147483647), (1, .ofNat 0, .ofNat 2147483647), (2, .ofNat 0, .ofNat 1000), (3, .ofNat 0, .ofNat 16), (4, .ofNat 0, .ofNat 99), (5, .ofNat 0, .ofNat 1199)], [(.negSucc 0, [(3, .ofNat 1), (0, .negSucc 0)]), (.negSucc 0, [(4, .ofNat 1), (1, .negSucc 0)])]), 6), [], [((3, xk 0, 55), 6, (0, (.ofNat 0, [(3, .ofNat 1)]), 0)), ((3, xk 0, 55), 5, (0, (.ofNat 0, [(4, .ofNat 1)]), 0)), ((3, xk 0, 55), 8, (0, (.ofNat 0, [(5, .ofNat 1)]), 0))], [], 0)), [(some (0, (.ofNat 0, []), 0), ((([], []), 6), [], [((3, xk 0, 55), 8, (0, (.ofNat 1, [(5, .ofNat 1)]), 0))], [], 0))], [(55, 0), (55, 8), (87, 0), (88, 0), (89, 0), (90, 0), (91, 0), (92, 0)], 0, 2)
def xc_1035_e : List xEn := []
def xc_1035_m : List (Nat × zm_M) := [(183, zm_m183), (193, zm_m193), (262, zm_m262), (266, zm_m266)]
def xc_1035_u : List xCo := []
set_option maxRecDepth 100000 in
theorem xc_1035_0 : xchk0 xVV xc_1035_m xc_1035_u xc_1035 xc_1035_e 173 = true := by decide +kernel
set_option maxRecDepth 100000 in
theorem xc_1035_1 : xc_1035_e.all (xchk1 xVV xc_1035_m xc_1035_u xc_1035 xc_1035_e 173) = true := by decide +kernel
theorem xv_1035 {og : Nat → Option zm_C} : xV xVV xX xW og xc_1035 := xchk_ok (n := 173) (MT := xc_1035_m) (CT := xc_1035_u) (E := xc_1035_e) (by
  simp only [xc_1035_m, List.forall_mem_cons]
  exact ⟨rfl, rfl, rfl, rfl, fun _ h => by cases h⟩) (by
  simp only [xc_1035_u, List.forall_mem_cons]
  exact fun _ h => by cases h) xFl_good xXW_ok xc_1035_0 (List.all_eq_true.mp xc_1035_1)
theorem zb_m_late_7 {og : Nat → Option zm_C} {τ : List Nat} {h : zm_H} {a1 a2 a3 n y L : Int32} (hH : xHI xKT xSG τ h) (hX : xX τ h) (fn : xfd h 55 6 = some (.int n)) (fy : xfd h 55 5 = some (.int y)) (fL : xfd h 55 8 = some (.int L)) (cc : 0 ≤ a1.toInt ∧ 0 ≤ a2.toInt ∧ 0 ≤ a3.toInt ∧ a3.toInt ≤ 1000 ∧ 0 ≤ n.toInt ∧ n.toInt ≤ 16 ∧ 0 ≤ y.toInt ∧ y.toInt ≤ 99 ∧ 0 ≤ L.toInt ∧ L.toInt ≤ 1199 ∧ 0 ≤ (-1) + (-1) * a1.toInt + 1 * n.toInt ∧ 0 ≤ (-1) + (-1) * a2.toInt + 1 * y.toInt) : zm_Y og 2 266 0 [(0, .ref 55), (1, .int a1), (2, .int a2), (3, .int a3)] [] h (xOF τ h 0 [(55, 0), (55, 8), (87, 0), (88, 0), (89, 0), (90, 0), (91, 0), (92, 0)] (fun r _ h1 => (r = some (.int 0)) ∧ xfd h1 55 8 = some (.int (L + 1)))) := by
  have ea : xI32a = -2147483648 := rfl
  have eb : xI32b = 2147483647 := rfl
  have ra1 := xb_rng a1
  have ra2 := xb_rng a2
  have ra3 := xb_rng a3
  rw [ea, eb] at ra1 ra2 ra3
  refine (xv_1035 (og := og) [a1.toInt, a2.toInt, a3.toInt, n.toInt, y.toInt, L.toInt] [] τ h _ hH hX ⟨⟨⟨?_, ?_⟩, rfl⟩, ⟨rfl, fun k kd hk => ?_⟩, ?_, ?_⟩ ?_).mono (fun r h' hq => ?_)
  · intro q hq
    simp only [xc_1035, List.mem_cons, List.not_mem_nil, or_false] at hq
    rcases hq with rfl | rfl | rfl | rfl | rfl | rfl
    · exact ⟨_, rfl, by show 0 ≤ a1.toInt; omega, by show a1.toInt ≤ 2147483647; omega⟩
    · exact ⟨_, rfl, by show 0 ≤ a2.toInt; omega, by show a2.toInt ≤ 2147483647; omega⟩
    · exact ⟨_, rfl, by show 0 ≤ a3.toInt; omega, by show a3.toInt ≤ 1000; omega⟩
    · exact ⟨_, rfl, by show 0 ≤ n.toInt; omega, by show n.toInt ≤ 16; omega⟩
    · exact ⟨_, rfl, by show 0 ≤ y.toInt; omega, by show y.toInt ≤ 99; omega⟩
    · exact ⟨_, rfl, by show 0 ≤ L.toInt; omega, by show L.toInt ≤ 1199; omega⟩
  · intro q hq
    simp only [xc_1035, List.mem_cons, List.not_mem_nil, or_false] at hq
    rcases hq with rfl | rfl
    · refine ⟨_, rfl, ?_⟩; show (0 : Int) ≤ (-1) + (1 * n.toInt + ((-1) * a1.toInt + (0))); omega
    · refine ⟨_, rfl, ?_⟩; show (0 : Int) ≤ (-1) + (1 * y.toInt + ((-1) * a2.toInt + (0))); omega
  · simp [xc_1035] at hk
  · intro q hq
    simp only [xc_1035, List.mem_cons, List.not_mem_nil, or_false] at hq
    rcases hq with rfl | rfl | rfl
    · exact ⟨55, _, rfl, fn, _, rfl, xe_sym (s := 3) rfl⟩
    · exact ⟨55, _, rfl, fy, _, rfl, xe_sym (s := 4) rfl⟩
    · exact ⟨55, _, rfl, fL, _, rfl, xe_sym (s := 5) rfl⟩
  · intro q hq; cases hq
  · intro q hq
    simp only [xc_1035, List.mem_cons, List.not_mem_nil, or_false] at hq
    rcases hq with rfl | rfl | rfl | rfl
    · exact ⟨_, rfl, rfl⟩
    · exact ⟨_, rfl, a1, rfl, xe_sym (s := 0) rfl⟩
    · exact ⟨_, rfl, a2, rfl, xe_sym (s := 1) rfl⟩
    · exact ⟨_, rfl, a3, rfl, xe_sym (s := 2) rfl⟩
  obtain ⟨τ', a1, a2, a3, a4, p, hp, r', s', a5, a6⟩ := hq
  have hp := List.mem_singleton.mp hp
  subst hp
  cases r with
  | none => cases a6
  | some w =>
    obtain ⟨i, rfl, b1⟩ := a6
    have ei : i = 0 := Int32.toInt_inj.mp (Option.some.inj (b1.symm.trans (xe_c (by rfl))))
    have m0 : xfd h' 55 8 = some (.int (L + 1)) := xmf_g a5.2.2.1 List.mem_cons_self (by show some ((1 : Int) + (1 * L.toInt + 0)) = some (L + 1 : Int32).toInt; rw [Int32.toInt_add, show (1 : Int32).toInt = 1 from rfl, xb_bm32 (by omega) (by omega)]; congr 1; omega)
    exact ⟨τ', ⟨by rw [ei], m0⟩, a1, a2, a4, a3⟩
def xc_1036 : xCo := (263, ([(0, (3, xk 0, 55)), (1, (0, (.ofNat 0, [(0, .ofNat 1)]), 0)), (2, (0, (.ofNat 0, [(1, .ofNat 1)]), 0))], [], ((([(0, .negSucc 2147483647, .negSucc 0), (1, .negSucc 2147483647, .ofNat 2147483647)], []), 2), [], [], [], 0)), [(some (0, (.ofNat 0, [(2, .ofNat 1)]), 0), ((([(2, .negSucc 2147483647, .ofNat 2147483647)], []), 3), [], [], [], 0))], [(55, 0)], 0, 1)
def xc_1036_e : List xEn := []
def xc_1036_m : List (Nat × zm_M) := [(183, zm_m183), (263, zm_m263)]
def xc_1036_u : List xCo := []
set_option maxRecDepth 100000 in
theorem xc_1036_0 : xchk0 xVV xc_1036_m xc_1036_u xc_1036 xc_1036_e 67 = true := by decide +kernel
set_option maxRecDepth 100000 in
theorem xc_1036_1 : xc_1036_e.all (xchk1 xVV xc_1036_m xc_1036_u xc_1036 xc_1036_e 67) = true := by decide +kernel
theorem xv_1036 {og : Nat → Option zm_C} : xV xVV xX xW og xc_1036 := xchk_ok (n := 67) (MT := xc_1036_m) (CT := xc_1036_u) (E := xc_1036_e) (by
  simp only [xc_1036_m, List.forall_mem_cons]
  exact ⟨rfl, rfl, fun _ h => by cases h⟩) (by
  simp only [xc_1036_u, List.forall_mem_cons]
  exact fun _ h => by cases h) xFl_good xXW_ok xc_1036_0 (List.all_eq_true.mp xc_1036_1)
theorem zb_m_look_0 {og : Nat → Option zm_C} {τ : List Nat} {h : zm_H} {a1 a2 : Int32} (hH : xHI xKT xSG τ h) (hX : xX τ h) (cc : a1.toInt ≤ (-1)) : zm_Y og 1 263 0 [(0, .ref 55), (1, .int a1), (2, .int a2)] [] h (xOF τ h 0 [(55, 0)] (fun r _ h1 => (∃ i : Int32, r = some (.int i)))) := by
  have ea : xI32a = -2147483648 := rfl
  have eb : xI32b = 2147483647 := rfl
  have ra1 := xb_rng a1
  have ra2 := xb_rng a2
  rw [ea, eb] at ra1 ra2
  refine (xv_1036 (og := og) [a1.toInt, a2.toInt] [] τ h _ hH hX ⟨⟨⟨?_, ?_⟩, rfl⟩, ⟨rfl, fun k kd hk => ?_⟩, ?_, ?_⟩ ?_).mono (fun r h' hq => ?_)
  · intro q hq
    simp only [xc_1036, List.mem_cons, List.not_mem_nil, or_false] at hq
    rcases hq with rfl | rfl
    · exact ⟨_, rfl, by show (-2147483648) ≤ a1.toInt; omega, by show a1.toInt ≤ (-1); omega⟩
    · exact ⟨_, rfl, by show (-2147483648) ≤ a2.toInt; omega, by show a2.toInt ≤ 2147483647; omega⟩
  · intro q hq; cases hq
  · simp [xc_1036] at hk
  · intro q hq; cases hq
  · intro q hq; cases hq
  · intro q hq
    simp only [xc_1036, List.mem_cons, List.not_mem_nil, or_false] at hq
    rcases hq with rfl | rfl | rfl
    · exact ⟨_, rfl, rfl⟩
    · exact ⟨_, rfl, a1, rfl, xe_sym (s := 0) rfl⟩
    · exact ⟨_, rfl, a2, rfl, xe_sym (s := 1) rfl⟩
  obtain ⟨τ', a1, a2, a3, a4, p, hp, r', s', a5, a6⟩ := hq
  have hp := List.mem_singleton.mp hp
  subst hp
  cases r with
  | none => cases a6
  | some w =>
    obtain ⟨i, rfl, b1⟩ := a6
    exact ⟨τ', ⟨i, rfl⟩, a1, a2, a4, a3⟩
def xc_1037 : xCo := (263, ([(0, (3, xk 0, 55)), (1, (0, (.ofNat 0, [(0, .ofNat 1)]), 0)), (2, (0, (.ofNat 0, [(1, .ofNat 1)]), 0))], [], ((([(0, .ofNat 4, .ofNat 2147483647), (1, .negSucc 2147483647, .ofNat 2147483647)], []), 2), [], [], [], 0)), [(some (0, (.ofNat 0, [(2, .ofNat 1)]), 0), ((([(2, .negSucc 2147483647, .ofNat 2147483647)], []), 3), [], [], [], 0))], [(55, 0)], 0, 1)
def xc_1037_e : List xEn := []
def xc_1037_m : List (Nat × zm_M) := [(183, zm_m183), (263, zm_m263)]
def xc_1037_u : List xCo := []
set_option maxRecDepth 100000 in
theorem xc_1037_0 : xchk0 xVV xc_1037_m xc_1037_u xc_1037 xc_1037_e 71 = true := by decide +kernel
set_option maxRecDepth 100000 in
theorem xc_1037_1 : xc_1037_e.all (xchk1 xVV xc_1037_m xc_1037_u xc_1037 xc_1037_e 71) = true := by decide +kernel
theorem xv_1037 {og : Nat → Option zm_C} : xV xVV xX xW og xc_1037 := xchk_ok (n := 71) (MT := xc_1037_m) (CT := xc_1037_u) (E := xc_1037_e) (by
  simp only [xc_1037_m, List.forall_mem_cons]
  exact ⟨rfl, rfl, fun _ h => by cases h⟩) (by
  simp only [xc_1037_u, List.forall_mem_cons]
  exact fun _ h => by cases h) xFl_good xXW_ok xc_1037_0 (List.all_eq_true.mp xc_1037_1)
theorem zb_m_look_1 {og : Nat → Option zm_C} {τ : List Nat} {h : zm_H} {a1 a2 : Int32} (hH : xHI xKT xSG τ h) (hX : xX τ h) (cc : 4 ≤ a1.toInt) : zm_Y og 1 263 0 [(0, .ref 55), (1, .int a1), (2, .int a2)] [] h (xOF τ h 0 [(55, 0)] (fun r _ h1 => (∃ i : Int32, r = some (.int i)))) := by
  have ea : xI32a = -2147483648 := rfl
  have eb : xI32b = 2147483647 := rfl
  have ra1 := xb_rng a1
  have ra2 := xb_rng a2
  rw [ea, eb] at ra1 ra2
  refine (xv_1037 (og := og) [a1.toInt, a2.toInt] [] τ h _ hH hX ⟨⟨⟨?_, ?_⟩, rfl⟩, ⟨rfl, fun k kd hk => ?_⟩, ?_, ?_⟩ ?_).mono (fun r h' hq => ?_)
  · intro q hq
    simp only [xc_1037, List.mem_cons, List.not_mem_nil, or_false] at hq
    rcases hq with rfl | rfl
    · exact ⟨_, rfl, by show 4 ≤ a1.toInt; omega, by show a1.toInt ≤ 2147483647; omega⟩
    · exact ⟨_, rfl, by show (-2147483648) ≤ a2.toInt; omega, by show a2.toInt ≤ 2147483647; omega⟩
  · intro q hq; cases hq
  · simp [xc_1037] at hk
  · intro q hq; cases hq
  · intro q hq; cases hq
  · intro q hq
    simp only [xc_1037, List.mem_cons, List.not_mem_nil, or_false] at hq
    rcases hq with rfl | rfl | rfl
    · exact ⟨_, rfl, rfl⟩
    · exact ⟨_, rfl, a1, rfl, xe_sym (s := 0) rfl⟩
    · exact ⟨_, rfl, a2, rfl, xe_sym (s := 1) rfl⟩
  obtain ⟨τ', a1, a2, a3, a4, p, hp, r', s', a5, a6⟩ := hq
  have hp := List.mem_singleton.mp hp
  subst hp
  cases r with
  | none => cases a6
  | some w =>
    obtain ⟨i, rfl, b1⟩ := a6
    exact ⟨τ', ⟨i, rfl⟩, a1, a2, a4, a3⟩
def xc_1038 : xCo := (263, ([(0, (3, xk 0, 55)), (1, (0, (.ofNat 0, [(0, .ofNat 1)]), 0)), (2, (0, (.ofNat 0, [(1, .ofNat 1)]), 0))], [], ((([(0, .ofNat 0, .ofNat 3), (1, .negSucc 2147483647, .negSucc 0)], []), 2), [], [], [], 0)), [(some (0, (.ofNat 0, [(2, .ofNat 1)]), 0), ((([(2, .negSucc 2147483647, .ofNat 2147483647)], []), 3), [], [], [], 0))], [(55, 0)], 0, 3)
def xc_1038_e : List xEn := []
def xc_1038_m : List (Nat × zm_M) := [(183, zm_m183), (192, zm_m192), (193, zm_m193), (263, zm_m263)]
def xc_1038_u : List xCo := []
set_option maxRecDepth 100000 in
theorem xc_1038_0 : xchk0 xVV xc_1038_m xc_1038_u xc_1038 xc_1038_e 98 = true := by decide +kernel
set_option maxRecDepth 100000 in
theorem xc_1038_1 : xc_1038_e.all (xchk1 xVV xc_1038_m xc_1038_u xc_1038 xc_1038_e 98) = true := by decide +kernel
theorem xv_1038 {og : Nat → Option zm_C} : xV xVV xX xW og xc_1038 := xchk_ok (n := 98) (MT := xc_1038_m) (CT := xc_1038_u) (E := xc_1038_e) (by
  simp only [xc_1038_m, List.forall_mem_cons]
  exact ⟨rfl, rfl, rfl, rfl, fun _ h => by cases h⟩) (by
  simp only [xc_1038_u, List.forall_mem_cons]
  exact fun _ h => by cases h) xFl_good xXW_ok xc_1038_0 (List.all_eq_true.mp xc_1038_1)
theorem zb_m_look_2 {og : Nat → Option zm_C} {τ : List Nat} {h : zm_H} {a1 a2 : Int32} (hH : xHI xKT xSG τ h) (hX : xX τ h) (cc : 0 ≤ a1.toInt ∧ a1.toInt ≤ 3 ∧ a2.toInt ≤ (-1)) : zm_Y og 3 263 0 [(0, .ref 55), (1, .int a1), (2, .int a2)] [] h (xOF τ h 0 [(55, 0)] (fun r _ h1 => (∃ i : Int32, r = some (.int i)))) := by
  have ea : xI32a = -2147483648 := rfl
  have eb : xI32b = 2147483647 := rfl
  have ra1 := xb_rng a1
  have ra2 := xb_rng a2
  rw [ea, eb] at ra1 ra2
  refine (xv_1038 (og := og) [a1.toInt, a2.toInt] [] τ h _ hH hX ⟨⟨⟨?_, ?_⟩, rfl⟩, ⟨rfl, fun k kd hk => ?_⟩, ?_, ?_⟩ ?_).mono (fun r h' hq => ?_)
  · intro q hq
    simp only [xc_1038, List.mem_cons, List.not_mem_nil, or_false] at hq
    rcases hq with rfl | rfl
    · exact ⟨_, rfl, by show 0 ≤ a1.toInt; omega, by show a1.toInt ≤ 3; omega⟩
    · exact ⟨_, rfl, by show (-2147483648) ≤ a2.toInt; omega, by show a2.toInt ≤ (-1); omega⟩
  · intro q hq; cases hq
  · simp [xc_1038] at hk
  · intro q hq; cases hq
  · intro q hq; cases hq
  · intro q hq
    simp only [xc_1038, List.mem_cons, List.not_mem_nil, or_false] at hq
    rcases hq with rfl | rfl | rfl
    · exact ⟨_, rfl, rfl⟩
    · exact ⟨_, rfl, a1, rfl, xe_sym (s := 0) rfl⟩
    · exact ⟨_, rfl, a2, rfl, xe_sym (s := 1) rfl⟩
  obtain ⟨τ', a1, a2, a3, a4, p, hp, r', s', a5, a6⟩ := hq
  have hp := List.mem_singleton.mp hp
  subst hp
  cases r with
  | none => cases a6
  | some w =>
    obtain ⟨i, rfl, b1⟩ := a6
    exact ⟨τ', ⟨i, rfl⟩, a1, a2, a4, a3⟩
def xc_1039 : xCo := (263, ([(0, (3, xk 0, 55)), (1, (0, (.ofNat 0, [(0, .ofNat 1)]), 0)), (2, (0, (.ofNat 0, [(1, .ofNat 1)]), 0))], [], ((([(0, .ofNat 0, .ofNat 3), (1, .ofNat 0, .ofNat 2147483647), (2, .ofNat 0, .ofNat 16)], [(.ofNat 0, [(2, .negSucc 0), (1, .ofNat 1)])]), 3), [], [((3, xk 0, 55), 6, (0, (.ofNat 0, [(2, .ofNat 1)]), 0))], [], 0)), [(some (0, (.ofNat 0, [(3, .ofNat 1)]), 0), ((([(3, .negSucc 2147483647, .ofNat 2147483647)], []), 4), [], [], [], 0))], [(55, 0)], 0, 3)
def xc_1039_e : List xEn := []
def xc_1039_m : List (Nat × zm_M) := [(183, zm_m183), (192, zm_m192), (193, zm_m193), (263, zm_m263)]
def xc_1039_u : List xCo := []
set_option maxRecDepth 100000 in
theorem xc_1039_0 : xchk0 xVV xc_1039_m xc_1039_u xc_1039 xc_1039_e 102 = true := by decide +kernel
set_option maxRecDepth 100000 in
theorem xc_1039_1 : xc_1039_e.all (xchk1 xVV xc_1039_m xc_1039_u xc_1039 xc_1039_e 102) = true := by decide +kernel
theorem xv_1039 {og : Nat → Option zm_C} : xV xVV xX xW og xc_1039 := xchk_ok (n := 102) (MT := xc_1039_m) (CT := xc_1039_u) (E := xc_1039_e) (by
  simp only [xc_1039_m, List.forall_mem_cons]
  exact ⟨rfl, rfl, rfl, rfl, fun _ h => by cases h⟩) (by
  simp only [xc_1039_u, List.forall_mem_cons]
  exact fun _ h => by cases h) xFl_good xXW_ok xc_1039_0 (List.all_eq_true.mp xc_1039_1)
theorem zb_m_look_3 {og : Nat → Option zm_C} {τ : List Nat} {h : zm_H} {a1 a2 n : Int32} (hH : xHI xKT xSG τ h) (hX : xX τ h) (fn : xfd h 55 6 = some (.int n)) (cc : 0 ≤ a1.toInt ∧ a1.toInt ≤ 3 ∧ 0 ≤ a2.toInt ∧ 0 ≤ n.toInt ∧ n.toInt ≤ 16 ∧ 0 ≤ 0 + 1 * a2.toInt + (-1) * n.toInt) : zm_Y og 3 263 0 [(0, .ref 55), (1, .int a1), (2, .int a2)] [] h (xOF τ h 0 [(55, 0)] (fun r _ h1 => (∃ i : Int32, r = some (.int i)))) := by
  have ea : xI32a = -2147483648 := rfl
  have eb : xI32b = 2147483647 := rfl
  have ra1 := xb_rng a1
  have ra2 := xb_rng a2
  rw [ea, eb] at ra1 ra2
  refine (xv_1039 (og := og) [a1.toInt, a2.toInt, n.toInt] [] τ h _ hH hX ⟨⟨⟨?_, ?_⟩, rfl⟩, ⟨rfl, fun k kd hk => ?_⟩, ?_, ?_⟩ ?_).mono (fun r h' hq => ?_)
  · intro q hq
    simp only [xc_1039, List.mem_cons, List.not_mem_nil, or_false] at hq
    rcases hq with rfl | rfl | rfl
    · exact ⟨_, rfl, by show 0 ≤ a1.toInt; omega, by show a1.toInt ≤ 3; omega⟩
    · exact ⟨_, rfl, by show 0 ≤ a2.toInt; omega, by show a2.toInt ≤ 2147483647; omega⟩
    · exact ⟨_, rfl, by show 0 ≤ n.toInt; omega, by show n.toInt ≤ 16; omega⟩
  · intro q hq
    simp only [xc_1039, List.mem_cons, List.not_mem_nil, or_false] at hq
    rcases hq with rfl
    · refine ⟨_, rfl, ?_⟩; show (0 : Int) ≤ 0 + ((-1) * n.toInt + (1 * a2.toInt + (0))); omega
  · simp [xc_1039] at hk
  · intro q hq
    simp only [xc_1039, List.mem_cons, List.not_mem_nil, or_false] at hq
    rcases hq with rfl
    · exact ⟨55, _, rfl, fn, _, rfl, xe_sym (s := 2) rfl⟩
  · intro q hq; cases hq
  · intro q hq
    simp only [xc_1039, List.mem_cons, List.not_mem_nil, or_false] at hq
    rcases hq with rfl | rfl | rfl
    · exact ⟨_, rfl, rfl⟩
    · exact ⟨_, rfl, a1, rfl, xe_sym (s := 0) rfl⟩
    · exact ⟨_, rfl, a2, rfl, xe_sym (s := 1) rfl⟩
  obtain ⟨τ', a1, a2, a3, a4, p, hp, r', s', a5, a6⟩ := hq
  have hp := List.mem_singleton.mp hp
  subst hp
  cases r with
  | none => cases a6
  | some w =>
    obtain ⟨i, rfl, b1⟩ := a6
    exact ⟨τ', ⟨i, rfl⟩, a1, a2, a4, a3⟩
def xc_1040 : xCo := (263, ([(0, (3, xk 0, 55)), (1, (0, (.ofNat 0, [(0, .ofNat 1)]), 0)), (2, (0, (.ofNat 0, [(1, .ofNat 1)]), 0))], [], ((([(0, .ofNat 0, .ofNat 3), (1, .ofNat 0, .ofNat 2147483647), (2, .ofNat 0, .ofNat 16)], [(.negSucc 0, [(2, .ofNat 1), (1, .negSucc 0)])]), 3), [], [((3, xk 0, 55), 6, (0, (.ofNat 0, [(2, .ofNat 1)]), 0))], [((3, xk 0, 69), (.ofNat 0, [(1, .ofNat 1)]), (0, (.ofNat 1, []), 0))], 0)), [(some (0, (.ofNat 0, [(3, .ofNat 1)]), 0), ((([(3, .negSucc 2147483647, .ofNat 2147483647)], []), 4), [], [], [], 0))], [(55, 0)], 0, 3)
def xc_1040_e : List xEn := []
def xc_1040_m : List (Nat × zm_M) := [(183, zm_m183), (192, zm_m192), (193, zm_m193), (263, zm_m263)]
def xc_1040_u : List xCo := []
set_option maxRecDepth 100000 in
theorem xc_1040_0 : xchk0 xVV xc_1040_m xc_1040_u xc_1040 xc_1040_e 108 = true := by decide +kernel
set_option maxRecDepth 100000 in
theorem xc_1040_1 : xc_1040_e.all (xchk1 xVV xc_1040_m xc_1040_u xc_1040 xc_1040_e 108) = true := by decide +kernel
theorem xv_1040 {og : Nat → Option zm_C} : xV xVV xX xW og xc_1040 := xchk_ok (n := 108) (MT := xc_1040_m) (CT := xc_1040_u) (E := xc_1040_e) (by
  simp only [xc_1040_m, List.forall_mem_cons]
  exact ⟨rfl, rfl, rfl, rfl, fun _ h => by cases h⟩) (by
  simp only [xc_1040_u, List.forall_mem_cons]
  exact fun _ h => by cases h) xFl_good xXW_ok xc_1040_0 (List.all_eq_true.mp xc_1040_1)
theorem zb_m_look_4 {og : Nat → Option zm_C} {τ : List Nat} {h : zm_H} {a1 a2 n : Int32} (hH : xHI xKT xSG τ h) (hX : xX τ h) (hb : xar h 69 a2.toInt.toNat = some (.int 1)) (fn : xfd h 55 6 = some (.int n)) (cc : 0 ≤ a1.toInt ∧ a1.toInt ≤ 3 ∧ 0 ≤ a2.toInt ∧ 0 ≤ n.toInt ∧ n.toInt ≤ 16 ∧ 0 ≤ (-1) + (-1) * a2.toInt + 1 * n.toInt) : zm_Y og 3 263 0 [(0, .ref 55), (1, .int a1), (2, .int a2)] [] h (xOF τ h 0 [(55, 0)] (fun r _ h1 => (∃ i : Int32, r = some (.int i)))) := by
  have ea : xI32a = -2147483648 := rfl
  have eb : xI32b = 2147483647 := rfl
  have ra1 := xb_rng a1
  have ra2 := xb_rng a2
  rw [ea, eb] at ra1 ra2
  refine (xv_1040 (og := og) [a1.toInt, a2.toInt, n.toInt] [] τ h _ hH hX ⟨⟨⟨?_, ?_⟩, rfl⟩, ⟨rfl, fun k kd hk => ?_⟩, ?_, ?_⟩ ?_).mono (fun r h' hq => ?_)
  · intro q hq
    simp only [xc_1040, List.mem_cons, List.not_mem_nil, or_false] at hq
    rcases hq with rfl | rfl | rfl
    · exact ⟨_, rfl, by show 0 ≤ a1.toInt; omega, by show a1.toInt ≤ 3; omega⟩
    · exact ⟨_, rfl, by show 0 ≤ a2.toInt; omega, by show a2.toInt ≤ 2147483647; omega⟩
    · exact ⟨_, rfl, by show 0 ≤ n.toInt; omega, by show n.toInt ≤ 16; omega⟩
  · intro q hq
    simp only [xc_1040, List.mem_cons, List.not_mem_nil, or_false] at hq
    rcases hq with rfl
    · refine ⟨_, rfl, ?_⟩; show (0 : Int) ≤ (-1) + (1 * n.toInt + ((-1) * a2.toInt + (0))); omega
  · simp [xc_1040] at hk
  · intro q hq
    simp only [xc_1040, List.mem_cons, List.not_mem_nil, or_false] at hq
    rcases hq with rfl
    · exact ⟨55, _, rfl, fn, _, rfl, xe_sym (s := 2) rfl⟩
  · intro q hq
    simp only [xc_1040, List.mem_cons, List.not_mem_nil, or_false] at hq
    rcases hq with rfl
    · exact ⟨69, a2.toInt.toNat, _, rfl, (xe_sym (s := 1) rfl).trans (congrArg some (by omega)), hb, _, rfl, xe_c rfl⟩
  · intro q hq
    simp only [xc_1040, List.mem_cons, List.not_mem_nil, or_false] at hq
    rcases hq with rfl | rfl | rfl
    · exact ⟨_, rfl, rfl⟩
    · exact ⟨_, rfl, a1, rfl, xe_sym (s := 0) rfl⟩
    · exact ⟨_, rfl, a2, rfl, xe_sym (s := 1) rfl⟩
  obtain ⟨τ', a1, a2, a3, a4, p, hp, r', s', a5, a6⟩ := hq
  have hp := List.mem_singleton.mp hp
  subst hp
  cases r with
  | none => cases a6
  | some w =>
    obtain ⟨i, rfl, b1⟩ := a6
    exact ⟨τ', ⟨i, rfl⟩, a1, a2, a4, a3⟩
def xc_1041 : xCo := (263, ([(0, (3, xk 0, 55)), (1, (0, (.ofNat 0, [(0, .ofNat 1)]), 0)), (2, (0, (.ofNat 0, [(1, .ofNat 1)]), 0))], [], ((([(0, .ofNat 0, .ofNat 3), (1, .ofNat 0, .ofNat 2147483647), (2, .ofNat 0, .ofNat 16)], [(.negSucc 0, [(2, .ofNat 1), (1, .negSucc 0)])]), 3), [], [((3, xk 0, 55), 6, (0, (.ofNat 0, [(2, .ofNat 1)]), 0)), ((3, xk 0, 55), 8, (0, (.ofNat 1200, []), 0))], [((3, xk 0, 69), (.ofNat 0, [(1, .ofNat 1)]), (0, (.ofNat 0, []), 0))], 0)), [(some (0, (.ofNat 0, [(3, .ofNat 1)]), 0), ((([(3, .negSucc 2147483647, .ofNat 2147483647)], []), 4), [], [], [], 0))], [(55, 0)], 0, 3)
def xc_1041_e : List xEn := []
def xc_1041_m : List (Nat × zm_M) := [(183, zm_m183), (192, zm_m192), (193, zm_m193), (263, zm_m263)]
def xc_1041_u : List xCo := []
set_option maxRecDepth 100000 in
theorem xc_1041_0 : xchk0 xVV xc_1041_m xc_1041_u xc_1041 xc_1041_e 113 = true := by decide +kernel
set_option maxRecDepth 100000 in
theorem xc_1041_1 : xc_1041_e.all (xchk1 xVV xc_1041_m xc_1041_u xc_1041 xc_1041_e 113) = true := by decide +kernel
theorem xv_1041 {og : Nat → Option zm_C} : xV xVV xX xW og xc_1041 := xchk_ok (n := 113) (MT := xc_1041_m) (CT := xc_1041_u) (E := xc_1041_e) (by
  simp only [xc_1041_m, List.forall_mem_cons]
  exact ⟨rfl, rfl, rfl, rfl, fun _ h => by cases h⟩) (by
  simp only [xc_1041_u, List.forall_mem_cons]
  exact fun _ h => by cases h) xFl_good xXW_ok xc_1041_0 (List.all_eq_true.mp xc_1041_1)
theorem zb_m_look_5 {og : Nat → Option zm_C} {τ : List Nat} {h : zm_H} {a1 a2 n L : Int32} (hH : xHI xKT xSG τ h) (hX : xX τ h) (hb : xar h 69 a2.toInt.toNat = some (.int 0)) (fn : xfd h 55 6 = some (.int n)) (fL : xfd h 55 8 = some (.int L)) (cc : 0 ≤ a1.toInt ∧ a1.toInt ≤ 3 ∧ 0 ≤ a2.toInt ∧ 0 ≤ n.toInt ∧ n.toInt ≤ 16 ∧ L.toInt = 1200 ∧ 0 ≤ (-1) + (-1) * a2.toInt + 1 * n.toInt) : zm_Y og 3 263 0 [(0, .ref 55), (1, .int a1), (2, .int a2)] [] h (xOF τ h 0 [(55, 0)] (fun r _ h1 => (∃ i : Int32, r = some (.int i)))) := by
  have ea : xI32a = -2147483648 := rfl
  have eb : xI32b = 2147483647 := rfl
  have ra1 := xb_rng a1
  have ra2 := xb_rng a2
  rw [ea, eb] at ra1 ra2
  refine (xv_1041 (og := og) [a1.toInt, a2.toInt, n.toInt] [] τ h _ hH hX ⟨⟨⟨?_, ?_⟩, rfl⟩, ⟨rfl, fun k kd hk => ?_⟩, ?_, ?_⟩ ?_).mono (fun r h' hq => ?_)
  · intro q hq
    simp only [xc_1041, List.mem_cons, List.not_mem_nil, or_false] at hq
    rcases hq with rfl | rfl | rfl
    · exact ⟨_, rfl, by show 0 ≤ a1.toInt; omega, by show a1.toInt ≤ 3; omega⟩
    · exact ⟨_, rfl, by show 0 ≤ a2.toInt; omega, by show a2.toInt ≤ 2147483647; omega⟩
    · exact ⟨_, rfl, by show 0 ≤ n.toInt; omega, by show n.toInt ≤ 16; omega⟩
  · intro q hq
    simp only [xc_1041, List.mem_cons, List.not_mem_nil, or_false] at hq
    rcases hq with rfl
    · refine ⟨_, rfl, ?_⟩; show (0 : Int) ≤ (-1) + (1 * n.toInt + ((-1) * a2.toInt + (0))); omega
  · simp [xc_1041] at hk
  · intro q hq
    simp only [xc_1041, List.mem_cons, List.not_mem_nil, or_false] at hq
    rcases hq with rfl | rfl
    · exact ⟨55, _, rfl, fn, _, rfl, xe_sym (s := 2) rfl⟩
    · exact ⟨55, _, rfl, fL, _, rfl, xe_c (by show L.toInt = 1200; omega)⟩
  · intro q hq
    simp only [xc_1041, List.mem_cons, List.not_mem_nil, or_false] at hq
    rcases hq with rfl
    · exact ⟨69, a2.toInt.toNat, _, rfl, (xe_sym (s := 1) rfl).trans (congrArg some (by omega)), hb, _, rfl, xe_c rfl⟩
  · intro q hq
    simp only [xc_1041, List.mem_cons, List.not_mem_nil, or_false] at hq
    rcases hq with rfl | rfl | rfl
    · exact ⟨_, rfl, rfl⟩
    · exact ⟨_, rfl, a1, rfl, xe_sym (s := 0) rfl⟩
    · exact ⟨_, rfl, a2, rfl, xe_sym (s := 1) rfl⟩
  obtain ⟨τ', a1, a2, a3, a4, p, hp, r', s', a5, a6⟩ := hq
  have hp := List.mem_singleton.mp hp
  subst hp
  cases r with
  | none => cases a6
  | some w =>
    obtain ⟨i, rfl, b1⟩ := a6
    exact ⟨τ', ⟨i, rfl⟩, a1, a2, a4, a3⟩
def xc_1042 : xCo := (263, ([(0, (3, xk 0, 55)), (1, (0, (.ofNat 0, [(0, .ofNat 1)]), 0)), (2, (0, (.ofNat 0, [(1, .ofNat 1)]), 0))], [], ((([(0, .ofNat 0, .ofNat 3), (1, .ofNat 0, .ofNat 2147483647), (2, .ofNat 0, .ofNat 16), (3, .ofNat 0, .ofNat 1199)], [(.negSucc 0, [(2, .ofNat 1), (1, .negSucc 0)])]), 4), [], [((3, xk 0, 55), 6, (0, (.ofNat 0, [(2, .ofNat 1)]), 0)), ((3, xk 0, 55), 8, (0, (.ofNat 0, [(3, .ofNat 1)]), 0))], [((3, xk 0, 69), (.ofNat 0, [(1, .ofNat 1)]), (0, (.ofNat 0, []), 0))], 0)), [(some (0, (.ofNat 0, [(4, .ofNat 1)]), 0), ((([(4, .negSucc 2147483647, .ofNat 2147483647)], []), 5), [], [((3, xk 0, 55), 8, (0, (.ofNat 1, [(3, .ofNat 1)]), 0))], [], 0))], [(55, 0), (55, 8), (55, 51), (55, 56), (55, 57), (55, 58), (55, 59), (55, 60), (55, 61), (55, 62), (55, 63), (55, 64), (55, 65), (55, 66), (55, 67), (55, 69), (55, 70), (55, 71), (55, 72), (55, 73), (55, 74), (55, 75), (55, 76), (55, 77), (55, 78), (55, 79), (55, 80), (87, 0), (88, 0), (89, 0), (90, 0), (91, 0), (92, 0)], 0, 49)
def xc_1042_e : List xEn := []
def xc_1042_m : List (Nat × zm_M) := [(183, zm_m183), (192, zm_m192), (193, zm_m193), (233, zm_m233), (236, zm_m236), (237, zm_m237), (262, zm_m262), (263, zm_m263), (264, zm_m264)]
def xc_1042_u : List xCo := [xc_252, xc_244, xc_240, xc_238]
set_option maxRecDepth 100000 in
theorem xc_1042_0 : xchk0 xVV xc_1042_m xc_1042_u xc_1042 xc_1042_e 198 = true := by decide +kernel
set_option maxRecDepth 100000 in
theorem xc_1042_1 : xc_1042_e.all (xchk1 xVV xc_1042_m xc_1042_u xc_1042 xc_1042_e 198) = true := by decide +kernel
theorem xv_1042 {og : Nat → Option zm_C} : xV xVV xX xW og xc_1042 := xchk_ok (n := 198) (MT := xc_1042_m) (CT := xc_1042_u) (E := xc_1042_e) (by
  simp only [xc_1042_m, List.forall_mem_cons]
  exact ⟨rfl, rfl, rfl, rfl, rfl, rfl, rfl, rfl, rfl, fun _ h => by cases h⟩) (by
  simp only [xc_1042_u, List.forall_mem_cons]
  exact ⟨xv_252, xv_244, xv_240, xv_238, fun _ h => by cases h⟩) xFl_good xXW_ok xc_1042_0 (List.all_eq_true.mp xc_1042_1)
theorem zb_m_look_6 {og : Nat → Option zm_C} {τ : List Nat} {h : zm_H} {a1 a2 n L : Int32} (hH : xHI xKT xSG τ h) (hX : xX τ h) (hb : xar h 69 a2.toInt.toNat = some (.int 0)) (fn : xfd h 55 6 = some (.int n)) (fL : xfd h 55 8 = some (.int L)) (cc : 0 ≤ a1.toInt ∧ a1.toInt ≤ 3 ∧ 0 ≤ a2.toInt ∧ 0 ≤ n.toInt ∧ n.toInt ≤ 16 ∧ 0 ≤ L.toInt ∧ L.toInt ≤ 1199 ∧ 0 ≤ (-1) + (-1) * a2.toInt + 1 * n.toInt) : zm_Y og 49 263 0 [(0, .ref 55), (1, .int a1), (2, .int a2)] [] h (xOF τ h 0 [(55, 0), (55, 8), (55, 51), (55, 56), (55, 57), (55, 58), (55, 59), (55, 60), (55, 61), (55, 62), (55, 63), (55, 64), (55, 65), (55, 66), (55, 67), (55, 69), (55, 70), (55, 71), (55, 72), (55, 73), (55, 74), (55, 75), (55, 76), (55, 77), (55, 78), (55, 79), (55, 80), (87, 0), (88, 0), (89, 0), (90, 0), (91, 0), (92, 0)] (fun r _ h1 => (∃ i : Int32, r = some (.int i)) ∧ xfd h1 55 8 = some (.int (L + 1)))) := by
  have ea : xI32a = -2147483648 := rfl
  have eb : xI32b = 2147483647 := rfl
  have ra1 := xb_rng a1
  have ra2 := xb_rng a2
  rw [ea, eb] at ra1 ra2
  refine (xv_1042 (og := og) [a1.toInt, a2.toInt, n.toInt, L.toInt] [] τ h _ hH hX ⟨⟨⟨?_, ?_⟩, rfl⟩, ⟨rfl, fun k kd hk => ?_⟩, ?_, ?_⟩ ?_).mono (fun r h' hq => ?_)
  · intro q hq
    simp only [xc_1042, List.mem_cons, List.not_mem_nil, or_false] at hq
    rcases hq with rfl | rfl | rfl | rfl
    · exact ⟨_, rfl, by show 0 ≤ a1.toInt; omega, by show a1.toInt ≤ 3; omega⟩
    · exact ⟨_, rfl, by show 0 ≤ a2.toInt; omega, by show a2.toInt ≤ 2147483647; omega⟩
    · exact ⟨_, rfl, by show 0 ≤ n.toInt; omega, by show n.toInt ≤ 16; omega⟩
    · exact ⟨_, rfl, by show 0 ≤ L.toInt; omega, by show L.toInt ≤ 1199; omega⟩
  · intro q hq
    simp only [xc_1042, List.mem_cons, List.not_mem_nil, or_false] at hq
    rcases hq with rfl
    · refine ⟨_, rfl, ?_⟩; show (0 : Int) ≤ (-1) + (1 * n.toInt + ((-1) * a2.toInt + (0))); omega
  · simp [xc_1042] at hk
  · intro q hq
    simp only [xc_1042, List.mem_cons, List.not_mem_nil, or_false] at hq
    rcases hq with rfl | rfl
    · exact ⟨55, _, rfl, fn, _, rfl, xe_sym (s := 2) rfl⟩
    · exact ⟨55, _, rfl, fL, _, rfl, xe_sym (s := 3) rfl⟩
  · intro q hq
    simp only [xc_1042, List.mem_cons, List.not_mem_nil, or_false] at hq
    rcases hq with rfl
    · exact ⟨69, a2.toInt.toNat, _, rfl, (xe_sym (s := 1) rfl).trans (congrArg some (by omega)), hb, _, rfl, xe_c rfl⟩
  · intro q hq
    simp only [xc_1042, List.mem_cons, List.not_mem_nil, or_false] at hq
    rcases hq with rfl | rfl | rfl
    · exact ⟨_, rfl, rfl⟩
    · exact ⟨_, rfl, a1, rfl, xe_sym (s := 0) rfl⟩
    · exact ⟨_, rfl, a2, rfl, xe_sym (s := 1) rfl⟩
  obtain ⟨τ', a1, a2, a3, a4, p, hp, r', s', a5, a6⟩ := hq
  have hp := List.mem_singleton.mp hp
  subst hp
  cases r with
  | none => cases a6
  | some w =>
    obtain ⟨i, rfl, b1⟩ := a6
    have m0 : xfd h' 55 8 = some (.int (L + 1)) := xmf_g a5.2.2.1 List.mem_cons_self (by show some ((1 : Int) + (1 * L.toInt + 0)) = some (L + 1 : Int32).toInt; rw [Int32.toInt_add, show (1 : Int32).toInt = 1 from rfl, xb_bm32 (by omega) (by omega)]; congr 1; omega)
    exact ⟨τ', ⟨⟨i, rfl⟩, m0⟩, a1, a2, a4, a3⟩
def xc_1043 : xCo := (196, ([(0, (3, xk 0, 55)), (1, (0, (.ofNat 0, [(0, .ofNat 1)]), 0)), (2, (0, (.ofNat 0, [(1, .ofNat 1)]), 0)), (3, (0, (.ofNat 0, [(2, .ofNat 1)]), 0))], [], ((([(0, .negSucc 2147483647, .negSucc 0), (1, .negSucc 2147483647, .ofNat 2147483647), (2, .negSucc 2147483647, .ofNat 2147483647)], []), 3), [], [], [], 0)), [(some (0, (.negSucc 1, []), 0), ((([], []), 3), [], [], [], 0))], [(55, 0)], 0, 2)
def xc_1043_e : List xEn := []
def xc_1043_m : List (Nat × zm_M) := [(183, zm_m183), (193, zm_m193), (196, zm_m196)]
def xc_1043_u : List xCo := []
set_option maxRecDepth 100000 in
theorem xc_1043_0 : xchk0 xVV xc_1043_m xc_1043_u xc_1043 xc_1043_e 75 = true := by decide +kernel
set_option maxRecDepth 100000 in
theorem xc_1043_1 : xc_1043_e.all (xchk1 xVV xc_1043_m xc_1043_u xc_1043 xc_1043_e 75) = true := by decide +kernel
theorem xv_1043 {og : Nat → Option zm_C} : xV xVV xX xW og xc_1043 := xchk_ok (n := 75) (MT := xc_1043_m) (CT := xc_1043_u) (E := xc_1043_e) (by
  simp only [xc_1043_m, List.forall_mem_cons]
  exact ⟨rfl, rfl, rfl, fun _ h => by cases h⟩) (by
  simp only [xc_1043_u, List.forall_mem_cons]
  exact fun _ h => by cases h) xFl_good xXW_ok xc_1043_0 (List.all_eq_true.mp xc_1043_1)
theorem zb_m_worth_0 {og : Nat → Option zm_C} {τ : List Nat} {h : zm_H} {a1 a2 a3 : Int32} (hH : xHI xKT xSG τ h) (hX : xX τ h) (cc : a1.toInt ≤ (-1)) : zm_Y og 2 196 0 [(0, .ref 55), (1, .int a1), (2, .int a2), (3, .int a3)] [] h (xOF τ h 0 [(55, 0)] (fun r _ h1 => (r = some (.int (-2))))) := by
  have ea : xI32a = -2147483648 := rfl
  have eb : xI32b = 2147483647 := rfl
  have ra1 := xb_rng a1
  have ra2 := xb_rng a2
  have ra3 := xb_rng a3
  rw [ea, eb] at ra1 ra2 ra3
  refine (xv_1043 (og := og) [a1.toInt, a2.toInt, a3.toInt] [] τ h _ hH hX ⟨⟨⟨?_, ?_⟩, rfl⟩, ⟨rfl, fun k kd hk => ?_⟩, ?_, ?_⟩ ?_).mono (fun r h' hq => ?_)
  · intro q hq
    simp only [xc_1043, List.mem_cons, List.not_mem_nil, or_false] at hq
    rcases hq with rfl | rfl | rfl
    · exact ⟨_, rfl, by show (-2147483648) ≤ a1.toInt; omega, by show a1.toInt ≤ (-1); omega⟩
    · exact ⟨_, rfl, by show (-2147483648) ≤ a2.toInt; omega, by show a2.toInt ≤ 2147483647; omega⟩
    · exact ⟨_, rfl, by show (-2147483648) ≤ a3.toInt; omega, by show a3.toInt ≤ 2147483647; omega⟩
  · intro q hq; cases hq
  · simp [xc_1043] at hk
  · intro q hq; cases hq
  · intro q hq; cases hq
  · intro q hq
    simp only [xc_1043, List.mem_cons, List.not_mem_nil, or_false] at hq
    rcases hq with rfl | rfl | rfl | rfl
    · exact ⟨_, rfl, rfl⟩
    · exact ⟨_, rfl, a1, rfl, xe_sym (s := 0) rfl⟩
    · exact ⟨_, rfl, a2, rfl, xe_sym (s := 1) rfl⟩
    · exact ⟨_, rfl, a3, rfl, xe_sym (s := 2) rfl⟩
  obtain ⟨τ', a1, a2, a3, a4, p, hp, r', s', a5, a6⟩ := hq
  have hp := List.mem_singleton.mp hp
  subst hp
  cases r with
  | none => cases a6
  | some w =>
    obtain ⟨i, rfl, b1⟩ := a6
    have ei : i = (-2) := Int32.toInt_inj.mp (Option.some.inj (b1.symm.trans (xe_c (by rfl))))
    exact ⟨τ', by rw [ei], a1, a2, a4, a3⟩
def xc_1044 : xCo := (196, ([(0, (3, xk 0, 55)), (1, (0, (.ofNat 0, [(0, .ofNat 1)]), 0)), (2, (0, (.ofNat 0, [(1, .ofNat 1)]), 0)), (3, (0, (.ofNat 0, [(2, .ofNat 1)]), 0))], [], ((([(0, .ofNat 0, .ofNat 2147483647), (1, .negSucc 2147483647, .ofNat 2147483647), (2, .negSucc 2147483647, .ofNat 2147483647), (3, .ofNat 0, .ofNat 16)], [(.ofNat 0, [(3, .negSucc 0), (0, .ofNat 1)])]), 4), [], [((3, xk 0, 55), 6, (0, (.ofNat 0, [(3, .ofNat 1)]), 0))], [], 0)), [(some (0, (.negSucc 1, []), 0), ((([], []), 4), [], [], [], 0))], [(55, 0)], 0, 2)
def xc_1044_e : List xEn := []
def xc_1044_m : List (Nat × zm_M) := [(183, zm_m183), (193, zm_m193), (196, zm_m196)]
def xc_1044_u : List xCo := []
set_option maxRecDepth 100000 in
theorem xc_1044_0 : xchk0 xVV xc_1044_m xc_1044_u xc_1044 xc_1044_e 79 = true := by decide +kernel
set_option maxRecDepth 100000 in
theorem xc_1044_1 : xc_1044_e.all (xchk1 xVV xc_1044_m xc_1044_u xc_1044 xc_1044_e 79) = true := by decide +kernel
theorem xv_1044 {og : Nat → Option zm_C} : xV xVV xX xW og xc_1044 := xchk_ok (n := 79) (MT := xc_1044_m) (CT := xc_1044_u) (E := xc_1044_e) (by
  simp only [xc_1044_m, List.forall_mem_cons]
  exact ⟨rfl, rfl, rfl, fun _ h => by cases h⟩) (by
  simp only [xc_1044_u, List.forall_mem_cons]
  exact fun _ h => by cases h) xFl_good xXW_ok xc_1044_0 (List.all_eq_true.mp xc_1044_1)
theorem zb_m_worth_1 {og : Nat → Option zm_C} {τ : List Nat} {h : zm_H} {a1 a2 a3 n : Int32} (hH : xHI xKT xSG τ h) (hX : xX τ h) (fn : xfd h 55 6 = some (.int n)) (cc : 0 ≤ a1.toInt ∧ 0 ≤ n.toInt ∧ n.toInt ≤ 16 ∧ 0 ≤ 0 + 1 * a1.toInt + (-1) * n.toInt) : zm_Y og 2 196 0 [(0, .ref 55), (1, .int a1), (2, .int a2), (3, .int a3)] [] h (xOF τ h 0 [(55, 0)] (fun r _ h1 => (r = some (.int (-2))))) := by
  have ea : xI32a = -2147483648 := rfl
  have eb : xI32b = 2147483647 := rfl
  have ra1 := xb_rng a1
  have ra2 := xb_rng a2
  have ra3 := xb_rng a3
  rw [ea, eb] at ra1 ra2 ra3
  refine (xv_1044 (og := og) [a1.toInt, a2.toInt, a3.toInt, n.toInt] [] τ h _ hH hX ⟨⟨⟨?_, ?_⟩, rfl⟩, ⟨rfl, fun k kd hk => ?_⟩, ?_, ?_⟩ ?_).mono (fun r h' hq => ?_)
  · intro q hq
    simp only [xc_1044, List.mem_cons, List.not_mem_nil, or_false] at hq
    rcases hq with rfl | rfl | rfl | rfl
    · exact ⟨_, rfl, by show 0 ≤ a1.toInt; omega, by show a1.toInt ≤ 2147483647; omega⟩
    · exact ⟨_, rfl, by show (-2147483648) ≤ a2.toInt; omega, by show a2.toInt ≤ 2147483647; omega⟩
    · exact ⟨_, rfl, by show (-2147483648) ≤ a3.toInt; omega, by show a3.toInt ≤ 2147483647; omega⟩
    · exact ⟨_, rfl, by show 0 ≤ n.toInt; omega, by show n.toInt ≤ 16; omega⟩
  · intro q hq
    simp only [xc_1044, List.mem_cons, List.not_mem_nil, or_false] at hq
    rcases hq with rfl
    · refine ⟨_, rfl, ?_⟩; show (0 : Int) ≤ 0 + ((-1) * n.toInt + (1 * a1.toInt + (0))); omega
  · simp [xc_1044] at hk
  · intro q hq
    simp only [xc_1044, List.mem_cons, List.not_mem_nil, or_false] at hq
    rcases hq with rfl
    · exact ⟨55, _, rfl, fn, _, rfl, xe_sym (s := 3) rfl⟩
  · intro q hq; cases hq
  · intro q hq
    simp only [xc_1044, List.mem_cons, List.not_mem_nil, or_false] at hq
    rcases hq with rfl | rfl | rfl | rfl
    · exact ⟨_, rfl, rfl⟩
    · exact ⟨_, rfl, a1, rfl, xe_sym (s := 0) rfl⟩
    · exact ⟨_, rfl, a2, rfl, xe_sym (s := 1) rfl⟩
    · exact ⟨_, rfl, a3, rfl, xe_sym (s := 2) rfl⟩
  obtain ⟨τ', a1, a2, a3, a4, p, hp, r', s', a5, a6⟩ := hq
  have hp := List.mem_singleton.mp hp
  subst hp
  cases r with
  | none => cases a6
  | some w =>
    obtain ⟨i, rfl, b1⟩ := a6
    have ei : i = (-2) := Int32.toInt_inj.mp (Option.some.inj (b1.symm.trans (xe_c (by rfl))))
    exact ⟨τ', by rw [ei], a1, a2, a4, a3⟩
def xc_1045 : xCo := (196, ([(0, (3, xk 0, 55)), (1, (0, (.ofNat 0, [(0, .ofNat 1)]), 0)), (2, (0, (.ofNat 0, [(1, .ofNat 1)]), 0)), (3, (0, (.ofNat 0, [(2, .ofNat 1)]), 0))], [], ((([(0, .ofNat 0, .ofNat 2147483647), (1, .negSucc 2147483647, .negSucc 0), (2, .negSucc 2147483647, .ofNat 2147483647), (3, .ofNat 0, .ofNat 16)], [(.negSucc 0, [(3, .ofNat 1), (0, .negSucc 0)])]), 4), [], [((3, xk 0, 55), 6, (0, (.ofNat 0, [(3, .ofNat 1)]), 0))], [], 0)), [(some (0, (.negSucc 1, []), 0), ((([], []), 4), [], [], [], 0))], [(55, 0)], 0, 2)
def xc_1045_e : List xEn := []
def xc_1045_m : List (Nat × zm_M) := [(183, zm_m183), (193, zm_m193), (196, zm_m196)]
def xc_1045_u : List xCo := []
set_option maxRecDepth 100000 in
theorem xc_1045_0 : xchk0 xVV xc_1045_m xc_1045_u xc_1045 xc_1045_e 92 = true := by decide +kernel
set_option maxRecDepth 100000 in
theorem xc_1045_1 : xc_1045_e.all (xchk1 xVV xc_1045_m xc_1045_u xc_1045 xc_1045_e 92) = true := by decide +kernel
theorem xv_1045 {og : Nat → Option zm_C} : xV xVV xX xW og xc_1045 := xchk_ok (n := 92) (MT := xc_1045_m) (CT := xc_1045_u) (E := xc_1045_e) (by
  simp only [xc_1045_m, List.forall_mem_cons]
  exact ⟨rfl, rfl, rfl, fun _ h => by cases h⟩) (by
  simp only [xc_1045_u, List.forall_mem_cons]
  exact fun _ h => by cases h) xFl_good xXW_ok xc_1045_0 (List.all_eq_true.mp xc_1045_1)
theorem zb_m_worth_2 {og : Nat → Option zm_C} {τ : List Nat} {h : zm_H} {a1 a2 a3 n : Int32} (hH : xHI xKT xSG τ h) (hX : xX τ h) (fn : xfd h 55 6 = some (.int n)) (cc : 0 ≤ a1.toInt ∧ a2.toInt ≤ (-1) ∧ 0 ≤ n.toInt ∧ n.toInt ≤ 16 ∧ 0 ≤ (-1) + (-1) * a1.toInt + 1 * n.toInt) : zm_Y og 2 196 0 [(0, .ref 55), (1, .int a1), (2, .int a2), (3, .int a3)] [] h (xOF τ h 0 [(55, 0)] (fun r _ h1 => (r = some (.int (-2))))) := by
  have ea : xI32a = -2147483648 := rfl
  have eb : xI32b = 2147483647 := rfl
  have ra1 := xb_rng a1
  have ra2 := xb_rng a2
  have ra3 := xb_rng a3
  rw [ea, eb] at ra1 ra2 ra3
  refine (xv_1045 (og := og) [a1.toInt, a2.toInt, a3.toInt, n.toInt] [] τ h _ hH hX ⟨⟨⟨?_, ?_⟩, rfl⟩, ⟨rfl, fun k kd hk => ?_⟩, ?_, ?_⟩ ?_).mono (fun r h' hq => ?_)
  · intro q hq
    simp only [xc_1045, List.mem_cons, List.not_mem_nil, or_false] at hq
    rcases hq with rfl | rfl | rfl | rfl
    · exact ⟨_, rfl, by show 0 ≤ a1.toInt; omega, by show a1.toInt ≤ 2147483647; omega⟩
    · exact ⟨_, rfl, by show (-2147483648) ≤ a2.toInt; omega, by show a2.toInt ≤ (-1); omega⟩
    · exact ⟨_, rfl, by show (-2147483648) ≤ a3.toInt; omega, by show a3.toInt ≤ 2147483647; omega⟩
    · exact ⟨_, rfl, by show 0 ≤ n.toInt; omega, by show n.toInt ≤ 16; omega⟩
  · intro q hq
    simp only [xc_1045, List.mem_cons, List.not_mem_nil, or_false] at hq
    rcases hq with rfl
    · refine ⟨_, rfl, ?_⟩; show (0 : Int) ≤ (-1) + (1 * n.toInt + ((-1) * a1.toInt + (0))); omega
  · simp [xc_1045] at hk
  · intro q hq
    simp only [xc_1045, List.mem_cons, List.not_mem_nil, or_false] at hq
    rcases hq with rfl
    · exact ⟨55, _, rfl, fn, _, rfl, xe_sym (s := 3) rfl⟩
  · intro q hq; cases hq
  · intro q hq
    simp only [xc_1045, List.mem_cons, List.not_mem_nil, or_false] at hq
    rcases hq with rfl | rfl | rfl | rfl
    · exact ⟨_, rfl, rfl⟩
    · exact ⟨_, rfl, a1, rfl, xe_sym (s := 0) rfl⟩
    · exact ⟨_, rfl, a2, rfl, xe_sym (s := 1) rfl⟩
    · exact ⟨_, rfl, a3, rfl, xe_sym (s := 2) rfl⟩
  obtain ⟨τ', a1, a2, a3, a4, p, hp, r', s', a5, a6⟩ := hq
  have hp := List.mem_singleton.mp hp
  subst hp
  cases r with
  | none => cases a6
  | some w =>
    obtain ⟨i, rfl, b1⟩ := a6
    have ei : i = (-2) := Int32.toInt_inj.mp (Option.some.inj (b1.symm.trans (xe_c (by rfl))))
    exact ⟨τ', by rw [ei], a1, a2, a4, a3⟩
def xc_1046 : xCo := (196, ([(0, (3, xk 0, 55)), (1, (0, (.ofNat 0, [(0, .ofNat 1)]), 0)), (2, (0, (.ofNat 0, [(1, .ofNat 1)]), 0)), (3, (0, (.ofNat 0, [(2, .ofNat 1)]), 0))], [], ((([(0, .ofNat 0, .ofNat 2147483647), (1, .ofNat 10001, .ofNat 2147483647), (2, .negSucc 2147483647, .ofNat 2147483647), (3, .ofNat 0, .ofNat 16)], [(.negSucc 0, [(3, .ofNat 1), (0, .negSucc 0)])]), 4), [], [((3, xk 0, 55), 6, (0, (.ofNat 0, [(3, .ofNat 1)]), 0))], [], 0)), [(some (0, (.negSucc 1, []), 0), ((([], []), 4), [], [], [], 0))], [(55, 0)], 0, 2)
def xc_1046_e : List xEn := []
def xc_1046_m : List (Nat × zm_M) := [(183, zm_m183), (193, zm_m193), (196, zm_m196)]
def xc_1046_u : List xCo := []
set_option maxRecDepth 100000 in
theorem xc_1046_0 : xchk0 xVV xc_1046_m xc_1046_u xc_1046 xc_1046_e 96 = true := by decide +kernel
set_option maxRecDepth 100000 in
theorem xc_1046_1 : xc_1046_e.all (xchk1 xVV xc_1046_m xc_1046_u xc_1046 xc_1046_e 96) = true := by decide +kernel
theorem xv_1046 {og : Nat → Option zm_C} : xV xVV xX xW og xc_1046 := xchk_ok (n := 96) (MT := xc_1046_m) (CT := xc_1046_u) (E := xc_1046_e) (by
  simp only [xc_1046_m, List.forall_mem_cons]
  exact ⟨rfl, rfl, rfl, fun _ h => by cases h⟩) (by
  simp only [xc_1046_u, List.forall_mem_cons]
  exact fun _ h => by cases h) xFl_good xXW_ok xc_1046_0 (List.all_eq_true.mp xc_1046_1)
theorem zb_m_worth_3 {og : Nat → Option zm_C} {τ : List Nat} {h : zm_H} {a1 a2 a3 n : Int32} (hH : xHI xKT xSG τ h) (hX : xX τ h) (fn : xfd h 55 6 = some (.int n)) (cc : 0 ≤ a1.toInt ∧ 10001 ≤ a2.toInt ∧ 0 ≤ n.toInt ∧ n.toInt ≤ 16 ∧ 0 ≤ (-1) + (-1) * a1.toInt + 1 * n.toInt) : zm_Y og 2 196 0 [(0, .ref 55), (1, .int a1), (2, .int a2), (3, .int a3)] [] h (xOF τ h 0 [(55, 0)] (fun r _ h1 => (r = some (.int (-2))))) := by
  have ea : xI32a = -2147483648 := rfl
  have eb : xI32b = 2147483647 := rfl
  have ra1 := xb_rng a1
  have ra2 := xb_rng a2
  have ra3 := xb_rng a3
  rw [ea, eb] at ra1 ra2 ra3
  refine (xv_1046 (og := og) [a1.toInt, a2.toInt, a3.toInt, n.toInt] [] τ h _ hH hX ⟨⟨⟨?_, ?_⟩, rfl⟩, ⟨rfl, fun k kd hk => ?_⟩, ?_, ?_⟩ ?_).mono (fun r h' hq => ?_)
  · intro q hq
    simp only [xc_1046, List.mem_cons, List.not_mem_nil, or_false] at hq
    rcases hq with rfl | rfl | rfl | rfl
    · exact ⟨_, rfl, by show 0 ≤ a1.toInt; omega, by show a1.toInt ≤ 2147483647; omega⟩
    · exact ⟨_, rfl, by show 10001 ≤ a2.toInt; omega, by show a2.toInt ≤ 2147483647; omega⟩
    · exact ⟨_, rfl, by show (-2147483648) ≤ a3.toInt; omega, by show a3.toInt ≤ 2147483647; omega⟩
    · exact ⟨_, rfl, by show 0 ≤ n.toInt; omega, by show n.toInt ≤ 16; omega⟩
  · intro q hq
    simp only [xc_1046, List.mem_cons, List.not_mem_nil, or_false] at hq
    rcases hq with rfl
    · refine ⟨_, rfl, ?_⟩; show (0 : Int) ≤ (-1) + (1 * n.toInt + ((-1) * a1.toInt + (0))); omega
  · simp [xc_1046] at hk
  · intro q hq
    simp only [xc_1046, List.mem_cons, List.not_mem_nil, or_false] at hq
    rcases hq with rfl
    · exact ⟨55, _, rfl, fn, _, rfl, xe_sym (s := 3) rfl⟩
  · intro q hq; cases hq
  · intro q hq
    simp only [xc_1046, List.mem_cons, List.not_mem_nil, or_false] at hq
    rcases hq with rfl | rfl | rfl | rfl
    · exact ⟨_, rfl, rfl⟩
    · exact ⟨_, rfl, a1, rfl, xe_sym (s := 0) rfl⟩
    · exact ⟨_, rfl, a2, rfl, xe_sym (s := 1) rfl⟩
    · exact ⟨_, rfl, a3, rfl, xe_sym (s := 2) rfl⟩
  obtain ⟨τ', a1, a2, a3, a4, p, hp, r', s', a5, a6⟩ := hq
  have hp := List.mem_singleton.mp hp
  subst hp
  cases r with
  | none => cases a6
  | some w =>
    obtain ⟨i, rfl, b1⟩ := a6
    have ei : i = (-2) := Int32.toInt_inj.mp (Option.some.inj (b1.symm.trans (xe_c (by rfl))))
    exact ⟨τ', by rw [ei], a1, a2, a4, a3⟩
def xc_1047 : xCo := (196, ([(0, (3, xk 0, 55)), (1, (0, (.ofNat 0, [(0, .ofNat 1)]), 0)), (2, (0, (.ofNat 0, [(1, .ofNat 1)]), 0)), (3, (0, (.ofNat 0, [(2, .ofNat 1)]), 0))], [], ((([(0, .ofNat 0, .ofNat 2147483647), (1, .ofNat 0, .ofNat 10000), (2, .negSucc 2147483647, .ofNat 0), (3, .ofNat 0, .ofNat 16)], [(.negSucc 0, [(3, .ofNat 1), (0, .negSucc 0)])]), 4), [], [((3, xk 0, 55), 6, (0, (.ofNat 0, [(3, .ofNat 1)]), 0))], [], 0)), [(some (0, (.negSucc 1, []), 0), ((([], []), 4), [], [], [], 0))], [(55, 0)], 0, 2)
def xc_1047_e : List xEn := []
def xc_1047_m : List (Nat × zm_M) := [(183, zm_m183), (193, zm_m193), (196, zm_m196)]
def xc_1047_u : List xCo := []
set_option maxRecDepth 100000 in
theorem xc_1047_0 : xchk0 xVV xc_1047_m xc_1047_u xc_1047 xc_1047_e 109 = true := by decide +kernel
set_option maxRecDepth 100000 in
theorem xc_1047_1 : xc_1047_e.all (xchk1 xVV xc_1047_m xc_1047_u xc_1047 xc_1047_e 109) = true := by decide +kernel
theorem xv_1047 {og : Nat → Option zm_C} : xV xVV xX xW og xc_1047 := xchk_ok (n := 109) (MT := xc_1047_m) (CT := xc_1047_u) (E := xc_1047_e) (by
  simp only [xc_1047_m, List.forall_mem_cons]
  exact ⟨rfl, rfl, rfl, fun _ h => by cases h⟩) (by
  simp only [xc_1047_u, List.forall_mem_cons]
  exact fun _ h => by cases h) xFl_good xXW_ok xc_1047_0 (List.all_eq_true.mp xc_1047_1)
theorem zb_m_worth_4 {og : Nat → Option zm_C} {τ : List Nat} {h : zm_H} {a1 a2 a3 n : Int32} (hH : xHI xKT xSG τ h) (hX : xX τ h) (fn : xfd h 55 6 = some (.int n)) (cc : 0 ≤ a1.toInt ∧ 0 ≤ a2.toInt ∧ a2.toInt ≤ 10000 ∧ a3.toInt ≤ 0 ∧ 0 ≤ n.toInt ∧ n.toInt ≤ 16 ∧ 0 ≤ (-1) + (-1) * a1.toInt + 1 * n.toInt) : zm_Y og 2 196 0 [(0, .ref 55), (1, .int a1), (2, .int a2), (3, .int a3)] [] h (xOF τ h 0 [(55, 0)] (fun r _ h1 => (r = some (.int (-2))))) := by
  have ea : xI32a = -2147483648 := rfl
  have eb : xI32b = 2147483647 := rfl
  have ra1 := xb_rng a1
  have ra2 := xb_rng a2
  have ra3 := xb_rng a3
  rw [ea, eb] at ra1 ra2 ra3
  refine (xv_1047 (og := og) [a1.toInt, a2.toInt, a3.toInt, n.toInt] [] τ h _ hH hX ⟨⟨⟨?_, ?_⟩, rfl⟩, ⟨rfl, fun k kd hk => ?_⟩, ?_, ?_⟩ ?_).mono (fun r h' hq => ?_)
  · intro q hq
    simp only [xc_1047, List.mem_cons, List.not_mem_nil, or_false] at hq
    rcases hq with rfl | rfl | rfl | rfl
    · exact ⟨_, rfl, by show 0 ≤ a1.toInt; omega, by show a1.toInt ≤ 2147483647; omega⟩
    · exact ⟨_, rfl, by show 0 ≤ a2.toInt; omega, by show a2.toInt ≤ 10000; omega⟩
    · exact ⟨_, rfl, by show (-2147483648) ≤ a3.toInt; omega, by show a3.toInt ≤ 0; omega⟩
    · exact ⟨_, rfl, by show 0 ≤ n.toInt; omega, by show n.toInt ≤ 16; omega⟩
  · intro q hq
    simp only [xc_1047, List.mem_cons, List.not_mem_nil, or_false] at hq
    rcases hq with rfl
    · refine ⟨_, rfl, ?_⟩; show (0 : Int) ≤ (-1) + (1 * n.toInt + ((-1) * a1.toInt + (0))); omega
  · simp [xc_1047] at hk
  · intro q hq
    simp only [xc_1047, List.mem_cons, List.not_mem_nil, or_false] at hq
    rcases hq with rfl
    · exact ⟨55, _, rfl, fn, _, rfl, xe_sym (s := 3) rfl⟩
  · intro q hq; cases hq
  · intro q hq
    simp only [xc_1047, List.mem_cons, List.not_mem_nil, or_false] at hq
    rcases hq with rfl | rfl | rfl | rfl
    · exact ⟨_, rfl, rfl⟩
    · exact ⟨_, rfl, a1, rfl, xe_sym (s := 0) rfl⟩
    · exact ⟨_, rfl, a2, rfl, xe_sym (s := 1) rfl⟩
    · exact ⟨_, rfl, a3, rfl, xe_sym (s := 2) rfl⟩
  obtain ⟨τ', a1, a2, a3, a4, p, hp, r', s', a5, a6⟩ := hq
  have hp := List.mem_singleton.mp hp
  subst hp
  cases r with
  | none => cases a6
  | some w =>
    obtain ⟨i, rfl, b1⟩ := a6
    have ei : i = (-2) := Int32.toInt_inj.mp (Option.some.inj (b1.symm.trans (xe_c (by rfl))))
    exact ⟨τ', by rw [ei], a1, a2, a4, a3⟩
def xc_1048 : xCo := (196, ([(0, (3, xk 0, 55)), (1, (0, (.ofNat 0, [(0, .ofNat 1)]), 0)), (2, (0, (.ofNat 0, [(1, .ofNat 1)]), 0)), (3, (0, (.ofNat 0, [(2, .ofNat 1)]), 0))], [], ((([(0, .ofNat 0, .ofNat 2147483647), (1, .ofNat 0, .ofNat 10000), (2, .ofNat 10, .ofNat 2147483647), (3, .ofNat 0, .ofNat 16)], [(.negSucc 0, [(3, .ofNat 1), (0, .negSucc 0)])]), 4), [], [((3, xk 0, 55), 6, (0, (.ofNat 0, [(3, .ofNat 1)]), 0))], [], 0)), [(some (0, (.negSucc 1, []), 0), ((([], []), 4), [], [], [], 0))], [(55, 0)], 0, 2)
def xc_1048_e : List xEn := []
def xc_1048_m : List (Nat × zm_M) := [(183, zm_m183), (193, zm_m193), (196, zm_m196)]
def xc_1048_u : List xCo := []
set_option maxRecDepth 100000 in
theorem xc_1048_0 : xchk0 xVV xc_1048_m xc_1048_u xc_1048 xc_1048_e 113 = true := by decide +kernel
set_option maxRecDepth 100000 in
theorem xc_1048_1 : xc_1048_e.all (xchk1 xVV xc_1048_m xc_1048_u xc_1048 xc_1048_e 113) = true := by decide +kernel
theorem xv_1048 {og : Nat → Option zm_C} : xV xVV xX xW og xc_1048 := xchk_ok (n := 113) (MT := xc_1048_m) (CT := xc_1048_u) (E := xc_1048_e) (by
  simp only [xc_1048_m, List.forall_mem_cons]
  exact ⟨rfl, rfl, rfl, fun _ h => by cases h⟩) (by
  simp only [xc_1048_u, List.forall_mem_cons]
  exact fun _ h => by cases h) xFl_good xXW_ok xc_1048_0 (List.all_eq_true.mp xc_1048_1)
theorem zb_m_worth_5 {og : Nat → Option zm_C} {τ : List Nat} {h : zm_H} {a1 a2 a3 n : Int32} (hH : xHI xKT xSG τ h) (hX : xX τ h) (fn : xfd h 55 6 = some (.int n)) (cc : 0 ≤ a1.toInt ∧ 0 ≤ a2.toInt ∧ a2.toInt ≤ 10000 ∧ 10 ≤ a3.toInt ∧ 0 ≤ n.toInt ∧ n.toInt ≤ 16 ∧ 0 ≤ (-1) + (-1) * a1.toInt + 1 * n.toInt) : zm_Y og 2 196 0 [(0, .ref 55), (1, .int a1), (2, .int a2), (3, .int a3)] [] h (xOF τ h 0 [(55, 0)] (fun r _ h1 => (r = some (.int (-2))))) := by
  have ea : xI32a = -2147483648 := rfl
  have eb : xI32b = 2147483647 := rfl
  have ra1 := xb_rng a1
  have ra2 := xb_rng a2
  have ra3 := xb_rng a3
  rw [ea, eb] at ra1 ra2 ra3
  refine (xv_1048 (og := og) [a1.toInt, a2.toInt, a3.toInt, n.toInt] [] τ h _ hH hX ⟨⟨⟨?_, ?_⟩, rfl⟩, ⟨rfl, fun k kd hk => ?_⟩, ?_, ?_⟩ ?_).mono (fun r h' hq => ?_)
  · intro q hq
    simp only [xc_1048, List.mem_cons, List.not_mem_nil, or_false] at hq
    rcases hq with rfl | rfl | rfl | rfl
    · exact ⟨_, rfl, by show 0 ≤ a1.toInt; omega, by show a1.toInt ≤ 2147483647; omega⟩
    · exact ⟨_, rfl, by show 0 ≤ a2.toInt; omega, by show a2.toInt ≤ 10000; omega⟩
    · exact ⟨_, rfl, by show 10 ≤ a3.toInt; omega, by show a3.toInt ≤ 2147483647; omega⟩
    · exact ⟨_, rfl, by show 0 ≤ n.toInt; omega, by show n.toInt ≤ 16; omega⟩
  · intro q hq
    simp only [xc_1048, List.mem_cons, List.not_mem_nil, or_false] at hq
    rcases hq with rfl
    · refine ⟨_, rfl, ?_⟩; show (0 : Int) ≤ (-1) + (1 * n.toInt + ((-1) * a1.toInt + (0))); omega
  · simp [xc_1048] at hk
  · intro q hq
    simp only [xc_1048, List.mem_cons, List.not_mem_nil, or_false] at hq
    rcases hq with rfl
    · exact ⟨55, _, rfl, fn, _, rfl, xe_sym (s := 3) rfl⟩
  · intro q hq; cases hq
  · intro q hq
    simp only [xc_1048, List.mem_cons, List.not_mem_nil, or_false] at hq
    rcases hq with rfl | rfl | rfl | rfl
    · exact ⟨_, rfl, rfl⟩
    · exact ⟨_, rfl, a1, rfl, xe_sym (s := 0) rfl⟩
    · exact ⟨_, rfl, a2, rfl, xe_sym (s := 1) rfl⟩
    · exact ⟨_, rfl, a3, rfl, xe_sym (s := 2) rfl⟩
  obtain ⟨τ', a1, a2, a3, a4, p, hp, r', s', a5, a6⟩ := hq
  have hp := List.mem_singleton.mp hp
  subst hp
  cases r with
  | none => cases a6
  | some w =>
    obtain ⟨i, rfl, b1⟩ := a6
    have ei : i = (-2) := Int32.toInt_inj.mp (Option.some.inj (b1.symm.trans (xe_c (by rfl))))
    exact ⟨τ', by rw [ei], a1, a2, a4, a3⟩
def xc_1049 : xCo := (196, ([(0, (3, xk 0, 55)), (1, (0, (.ofNat 0, [(0, .ofNat 1)]), 0)), (2, (0, (.ofNat 0, [(1, .ofNat 1)]), 0)), (3, (0, (.ofNat 0, [(2, .ofNat 1)]), 0))], [], ((([(0, .ofNat 0, .ofNat 2147483647), (1, .ofNat 0, .ofNat 10000), (2, .ofNat 1, .ofNat 9), (3, .ofNat 0, .ofNat 16)], [(.negSucc 0, [(3, .ofNat 1), (0, .negSucc 0)])]), 4), [], [((3, xk 0, 55), 6, (0, (.ofNat 0, [(3, .ofNat 1)]), 0))], [], 0)), [(some (0, (.ofNat 0, []), 0), ((([], []), 4), [], [], [], 0))], [(55, 0), (55, 82), (63, 0), (64, 0)], 0, 2)
def xc_1049_e : List xEn := []
def xc_1049_m : List (Nat × zm_M) := [(183, zm_m183), (193, zm_m193), (196, zm_m196)]
def xc_1049_u : List xCo := []
set_option maxRecDepth 100000 in
theorem xc_1049_0 : xchk0 xVV xc_1049_m xc_1049_u xc_1049 xc_1049_e 127 = true := by decide +kernel
set_option maxRecDepth 100000 in
theorem xc_1049_1 : xc_1049_e.all (xchk1 xVV xc_1049_m xc_1049_u xc_1049 xc_1049_e 127) = true := by decide +kernel
theorem xv_1049 {og : Nat → Option zm_C} : xV xVV xX xW og xc_1049 := xchk_ok (n := 127) (MT := xc_1049_m) (CT := xc_1049_u) (E := xc_1049_e) (by
  simp only [xc_1049_m, List.forall_mem_cons]
  exact ⟨rfl, rfl, rfl, fun _ h => by cases h⟩) (by
  simp only [xc_1049_u, List.forall_mem_cons]
  exact fun _ h => by cases h) xFl_good xXW_ok xc_1049_0 (List.all_eq_true.mp xc_1049_1)
theorem zb_m_worth_6 {og : Nat → Option zm_C} {τ : List Nat} {h : zm_H} {a1 a2 a3 n : Int32} (hH : xHI xKT xSG τ h) (hX : xX τ h) (fn : xfd h 55 6 = some (.int n)) (cc : 0 ≤ a1.toInt ∧ 0 ≤ a2.toInt ∧ a2.toInt ≤ 10000 ∧ 1 ≤ a3.toInt ∧ a3.toInt ≤ 9 ∧ 0 ≤ n.toInt ∧ n.toInt ≤ 16 ∧ 0 ≤ (-1) + (-1) * a1.toInt + 1 * n.toInt) : zm_Y og 2 196 0 [(0, .ref 55), (1, .int a1), (2, .int a2), (3, .int a3)] [] h (xOF τ h 0 [(55, 0), (55, 82), (63, 0), (64, 0)] (fun r _ h1 => (r = some (.int 0)))) := by
  have ea : xI32a = -2147483648 := rfl
  have eb : xI32b = 2147483647 := rfl
  have ra1 := xb_rng a1
  have ra2 := xb_rng a2
  have ra3 := xb_rng a3
  rw [ea, eb] at ra1 ra2 ra3
  refine (xv_1049 (og := og) [a1.toInt, a2.toInt, a3.toInt, n.toInt] [] τ h _ hH hX ⟨⟨⟨?_, ?_⟩, rfl⟩, ⟨rfl, fun k kd hk => ?_⟩, ?_, ?_⟩ ?_).mono (fun r h' hq => ?_)
  · intro q hq
    simp only [xc_1049, List.mem_cons, List.not_mem_nil, or_false] at hq
    rcases hq with rfl | rfl | rfl | rfl
    · exact ⟨_, rfl, by show 0 ≤ a1.toInt; omega, by show a1.toInt ≤ 2147483647; omega⟩
    · exact ⟨_, rfl, by show 0 ≤ a2.toInt; omega, by show a2.toInt ≤ 10000; omega⟩
    · exact ⟨_, rfl, by show 1 ≤ a3.toInt; omega, by show a3.toInt ≤ 9; omega⟩
    · exact ⟨_, rfl, by show 0 ≤ n.toInt; omega, by show n.toInt ≤ 16; omega⟩
  · intro q hq
    simp only [xc_1049, List.mem_cons, List.not_mem_nil, or_false] at hq
    rcases hq with rfl
    · refine ⟨_, rfl, ?_⟩; show (0 : Int) ≤ (-1) + (1 * n.toInt + ((-1) * a1.toInt + (0))); omega
  · simp [xc_1049] at hk
  · intro q hq
    simp only [xc_1049, List.mem_cons, List.not_mem_nil, or_false] at hq
    rcases hq with rfl
    · exact ⟨55, _, rfl, fn, _, rfl, xe_sym (s := 3) rfl⟩
  · intro q hq; cases hq
  · intro q hq
    simp only [xc_1049, List.mem_cons, List.not_mem_nil, or_false] at hq
    rcases hq with rfl | rfl | rfl | rfl
    · exact ⟨_, rfl, rfl⟩
    · exact ⟨_, rfl, a1, rfl, xe_sym (s := 0) rfl⟩
    · exact ⟨_, rfl, a2, rfl, xe_sym (s := 1) rfl⟩
    · exact ⟨_, rfl, a3, rfl, xe_sym (s := 2) rfl⟩
  obtain ⟨τ', a1, a2, a3, a4, p, hp, r', s', a5, a6⟩ := hq
  have hp := List.mem_singleton.mp hp
  subst hp
  cases r with
  | none => cases a6
  | some w =>
    obtain ⟨i, rfl, b1⟩ := a6
    have ei : i = 0 := Int32.toInt_inj.mp (Option.some.inj (b1.symm.trans (xe_c (by rfl))))
    exact ⟨τ', by rw [ei], a1, a2, a4, a3⟩
def xc_1050 : xCo := (267, ([(0, (3, xk 0, 55))], [], ((([], []), 0), [], [((3, xk 0, 55), 5, (0, (.ofNat 99, []), 0))], [], 0)), [(some (1, (.ofNat 0, [(0, .ofNat 1)]), 0), ((([(0, .negSucc 9223372036854775807, .ofNat 9223372036854775807)], []), 1), [], [], [], 0))], [(55, 0)], 0, 0)
def xc_1050_e : List xEn := []
def xc_1050_m : List (Nat × zm_M) := [(267, zm_m267)]
def xc_1050_u : List xCo := []
set_option maxRecDepth 100000 in
theorem xc_1050_0 : xchk0 xVV xc_1050_m xc_1050_u xc_1050 xc_1050_e 59 = true := by decide +kernel
set_option maxRecDepth 100000 in
theorem xc_1050_1 : xc_1050_e.all (xchk1 xVV xc_1050_m xc_1050_u xc_1050 xc_1050_e 59) = true := by decide +kernel
theorem xv_1050 {og : Nat → Option zm_C} : xV xVV xX xW og xc_1050 := xchk_ok (n := 59) (MT := xc_1050_m) (CT := xc_1050_u) (E := xc_1050_e) (by
  simp only [xc_1050_m, List.forall_mem_cons]
  exact ⟨rfl, fun _ h => by cases h⟩) (by
  simp only [xc_1050_u, List.forall_mem_cons]
  exact fun _ h => by cases h) xFl_good xXW_ok xc_1050_0 (List.all_eq_true.mp xc_1050_1)
theorem zb_m_go_0 {og : Nat → Option zm_C} {τ : List Nat} {h : zm_H} {y : Int32} (hH : xHI xKT xSG τ h) (hX : xX τ h) (fy : xfd h 55 5 = some (.int y)) (cc : y.toInt = 99) : zm_Y og 0 267 0 [(0, .ref 55)] [] h (xOF τ h 0 [(55, 0)] (fun r _ h1 => (∃ i : Int64, r = some (.long i)))) := by
  have ea : xI32a = -2147483648 := rfl
  have eb : xI32b = 2147483647 := rfl
  refine (xv_1050 (og := og) [] [] τ h _ hH hX ⟨⟨⟨?_, ?_⟩, rfl⟩, ⟨rfl, fun k kd hk => ?_⟩, ?_, ?_⟩ ?_).mono (fun r h' hq => ?_)
  · intro q hq; cases hq
  · intro q hq; cases hq
  · simp [xc_1050] at hk
  · intro q hq
    simp only [xc_1050, List.mem_cons, List.not_mem_nil, or_false] at hq
    rcases hq with rfl
    · exact ⟨55, _, rfl, fy, _, rfl, xe_c (by show y.toInt = 99; omega)⟩
  · intro q hq; cases hq
  · intro q hq
    simp only [xc_1050, List.mem_cons, List.not_mem_nil, or_false] at hq
    rcases hq with rfl
    · exact ⟨_, rfl, rfl⟩
  obtain ⟨τ', a1, a2, a3, a4, p, hp, r', s', a5, a6⟩ := hq
  have hp := List.mem_singleton.mp hp
  subst hp
  cases r with
  | none => cases a6
  | some w =>
    obtain ⟨i, rfl, b1⟩ := a6
    exact ⟨τ', ⟨i, rfl⟩, a1, a2, a4, a3⟩
def xc_1051 : xCo := (267, ([(0, (3, xk 0, 55))], [], ((([(0, .ofNat 0, .ofNat 98)], []), 1), [], [((3, xk 0, 55), 5, (0, (.ofNat 0, [(0, .ofNat 1)]), 0))], [], 0)), [(some (1, (.ofNat 0, [(1, .ofNat 1)]), 0), ((([(1, .negSucc 9223372036854775807, .ofNat 9223372036854775807)], []), 2), [], [((3, xk 0, 55), 5, (0, (.ofNat 1, [(0, .ofNat 1)]), 0))], [], 0))], [(55, 0), (55, 5), (55, 51), (55, 56), (55, 57), (55, 58), (55, 59), (55, 60), (55, 61), (55, 62), (55, 63), (55, 64), (55, 65), (55, 66), (55, 67), (55, 69), (55, 70), (55, 71), (55, 72), (55, 73), (55, 74), (55, 75), (55, 76), (55, 77), (55, 78), (55, 79), (55, 80), (55, 82), (70, 0)], 0, 48)
def xc_1051_e : List xEn := [(32, ([(0, (3, xk 0, 55)), (1, (0, (.ofNat 0, [(1, .ofNat 1)]), 0)), (2, (1, (.ofNat 0, [(2, .ofNat 1)]), 0)), (4, (0, (.ofNat 0, [(3, .ofNat 1)]), 0))], [], ((([(0, .ofNat 0, .ofNat 98), (1, .negSucc 0, .ofNat 11), (2, .negSucc 9223372036854775807, .ofNat 9223372036854775807), (3, .ofNat 0, .ofNat 16), (4, .ofNat 0, .ofNat 0)], [(.ofNat 0, [(4, .negSucc 0), (3, .ofNat 1)])]), 5), [], [((3, xk 0, 55), 5, (0, (.ofNat 0, [(0, .ofNat 1)]), 0)), ((3, xk 0, 55), 0, (0, (.ofNat 0, [(4, .ofNat 1)]), 0))], [], 0)), (.ofNat 305, [(3, .negSucc 17)])),
  (110, ([(0, (3, xk 0, 55)), (1, (0, (.ofNat 0, [(1, .ofNat 1)]), 0)), (2, (1, (.ofNat 0, [(2, .ofNat 1)]), 0)), (4, (0, (.ofNat 0, [(3, .ofNat 1)]), 0)), (8, (1, (.ofNat 0, [(4, .ofNat 1)]), 0)), (10, (0, (.ofNat 0, [(5, .ofNat 1)]), 0))], [], ((([(0, .ofNat 0, .ofNat 98), (1, .negSucc 0, .ofNat 11), (2, .negSucc 9223372036854775807, .ofNat 9223372036854775807), (3, .ofNat 0, .ofNat 15), (4, .negSucc 9223372036854775807, .ofNat 9223372036854775807), (5, .ofNat 0, .ofNat 16), (6, .ofNat 0, .ofNat 0), (7, .ofNat 1, .ofNat 16), (8, .ofNat 0, .ofNat 0), (9, .ofNat 0, .ofNat 0)], [(.ofNat 0, [(6, .negSucc 0), (3, .ofNat 1)]), (.negSucc 0, [(7, .ofNat 1), (3, .negSucc 0)]), (.ofNat 0, [(8, .negSucc 0), (3, .ofNat 1)]), (.ofNat 0, [(6, .negSucc 0), (5, .ofNat 1)]), (.ofNat 0, [(8, .negSucc 0), (5, .ofNat 1)])]), 10), [], [((3, xk 0, 55), 5, (0, (.ofNat 0, [(0, .ofNat 1)]), 0)), ((3, xk 0, 55), 0, (0, (.ofNat 0, [(6, .ofNat 1)]), 0)), ((3, xk 0, 55), 6, (0, (.ofNat 0, [(7, .ofNat 1)]), 0)), ((3, xk 0, 55), 24, (3, xk 0, 69)), ((3, xk 0, 55), 80, (0, (.ofNat 0, [(8, .ofNat 1)]), 0))], [((3, xk 0, 69), (.ofNat 0, [(3, .ofNat 1)]), (0, (.ofNat 0, [(9, .ofNat 1)]), 0))], 0)), (.ofNat 304, [(5, .negSucc 0), (3, .negSucc 17)]))]
def xc_1051_m : List (Nat × zm_M) := [(204, zm_m204), (233, zm_m233), (239, zm_m239), (241, zm_m241), (242, zm_m242), (267, zm_m267), (268, zm_m268)]
def xc_1051_u : List xCo := [xc_253, xc_246, xc_245, xc_240, xc_236]
set_option maxRecDepth 100000 in
theorem xc_1051_0 : xchk0 xVV xc_1051_m xc_1051_u xc_1051 xc_1051_e 208 = true := by decide +kernel
set_option maxRecDepth 100000 in
theorem xc_1051_1 : xc_1051_e.all (xchk1 xVV xc_1051_m xc_1051_u xc_1051 xc_1051_e 208) = true := by decide +kernel
theorem xv_1051 {og : Nat → Option zm_C} : xV xVV xX xW og xc_1051 := xchk_ok (n := 208) (MT := xc_1051_m) (CT := xc_1051_u) (E := xc_1051_e) (by
  simp only [xc_1051_m, List.forall_mem_cons]
  exact ⟨rfl, rfl, rfl, rfl, rfl, rfl, rfl, fun _ h => by cases h⟩) (by
  simp only [xc_1051_u, List.forall_mem_cons]
  exact ⟨xv_253, xv_246, xv_245, xv_240, xv_236, fun _ h => by cases h⟩) xFl_good xXW_ok xc_1051_0 (List.all_eq_true.mp xc_1051_1)
theorem zb_m_go_1 {og : Nat → Option zm_C} {τ : List Nat} {h : zm_H} {y : Int32} (hH : xHI xKT xSG τ h) (hX : xX τ h) (fy : xfd h 55 5 = some (.int y)) (cc : 0 ≤ y.toInt ∧ y.toInt ≤ 98) : zm_Y og 48 267 0 [(0, .ref 55)] [] h (xOF τ h 0 [(55, 0), (55, 5), (55, 51), (55, 56), (55, 57), (55, 58), (55, 59), (55, 60), (55, 61), (55, 62), (55, 63), (55, 64), (55, 65), (55, 66), (55, 67), (55, 69), (55, 70), (55, 71), (55, 72), (55, 73), (55, 74), (55, 75), (55, 76), (55, 77), (55, 78), (55, 79), (55, 80), (55, 82), (70, 0)] (fun r _ h1 => (∃ i : Int64, r = some (.long i)) ∧ xfd h1 55 5 = some (.int (y + 1)))) := by
  have ea : xI32a = -2147483648 := rfl
  have eb : xI32b = 2147483647 := rfl
  refine (xv_1051 (og := og) [y.toInt] [] τ h _ hH hX ⟨⟨⟨?_, ?_⟩, rfl⟩, ⟨rfl, fun k kd hk => ?_⟩, ?_, ?_⟩ ?_).mono (fun r h' hq => ?_)
  · intro q hq
    simp only [xc_1051, List.mem_cons, List.not_mem_nil, or_false] at hq
    rcases hq with rfl
    · exact ⟨_, rfl, by show 0 ≤ y.toInt; omega, by show y.toInt ≤ 98; omega⟩
  · intro q hq; cases hq
  · simp [xc_1051] at hk
  · intro q hq
    simp only [xc_1051, List.mem_cons, List.not_mem_nil, or_false] at hq
    rcases hq with rfl
    · exact ⟨55, _, rfl, fy, _, rfl, xe_sym (s := 0) rfl⟩
  · intro q hq; cases hq
  · intro q hq
    simp only [xc_1051, List.mem_cons, List.not_mem_nil, or_false] at hq
    rcases hq with rfl
    · exact ⟨_, rfl, rfl⟩
  obtain ⟨τ', a1, a2, a3, a4, p, hp, r', s', a5, a6⟩ := hq
  have hp := List.mem_singleton.mp hp
  subst hp
  cases r with
  | none => cases a6
  | some w =>
    obtain ⟨i, rfl, b1⟩ := a6
    have m0 : xfd h' 55 5 = some (.int (y + 1)) := xmf_g a5.2.2.1 List.mem_cons_self (by show some ((1 : Int) + (1 * y.toInt + 0)) = some (y + 1 : Int32).toInt; rw [Int32.toInt_add, show (1 : Int32).toInt = 1 from rfl, xb_bm32 (by omega) (by omega)]; congr 1; omega)
    exact ⟨τ', ⟨⟨i, rfl⟩, m0⟩, a1, a2, a4, a3⟩
