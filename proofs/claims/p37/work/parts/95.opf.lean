/-! Every operation, about its arguments (made by a program) -/
def xOQ (τ : List Nat) (h : zm_H) (t g : Nat) (ms : List (Nat × Nat)) (r : Option Value) (h' : zm_H) : Prop := (match t with
  | 0 => ∃ i : Int32, r = some (.int i)
  | 1 => ∃ i : Int64, r = some (.long i)
  | _ => r = none) ∧ ∃ τ', xHI xKT xSG τ' h' ∧ xX τ' h' ∧ xW h' ≤ xW h + g ∧ xF (xms ms) τ h τ' h'
theorem xOQ_of {c : xCo} {t : Nat} {ρ : List Int} {τ : List Nat} {h h' : zm_H} {r : Option Value} (ht : c.2.2.1.all (fun p => match p.1 with
  | some v => Nat.beq v.1 t && Nat.ble t 1
  | none => Nat.beq t 2) = true) (hq : xQc xVV xX xW c ρ [] τ h r h') : xOQ τ h t c.2.2.2.2.1 c.2.2.2.1 r h' := by
  obtain ⟨τ', h1, h2, h3, h4, p, hp, r', s', -, h6⟩ := hq
  have hp := List.all_eq_true.mp ht p hp
  refine ⟨?_, τ', h1, h2, h4, h3⟩
  obtain ⟨o, D⟩ := p
  cases o with
  | none =>
    have e : t = 2 := Nat.eq_of_beq_eq_true hp
    subst e
    cases r with
    | none => rfl
    | some v => cases h6
  | some a =>
    obtain ⟨ta, e, n⟩ := a
    simp only [Bool.and_eq_true] at hp
    have e1 : ta = t := Nat.eq_of_beq_eq_true hp.1
    have e2 := Nat.le_of_ble_eq_true hp.2
    subst e1
    cases r with
    | none => cases h6
    | some v =>
      rcases (show ta = 0 ∨ ta = 1 by omega) with rfl | rfl
      · obtain ⟨i, rfl, -⟩ := h6
        exact ⟨i, rfl⟩
      · obtain ⟨i, rfl, -⟩ := h6
        exact ⟨i, rfl⟩
theorem xo_x_light {og : Nat → Option zm_C} {τ : List Nat} {h : zm_H} (hH : xHI xKT xSG τ h) (hX : xX τ h) (a1 : Int32) (a2 : Int32) (a3 : Int32) : zm_Y og 1 9 0 [(0, .ref 0), (1, .int a1), (2, .int a2), (3, .int a3)] [] h (xOQ τ h 0 0 [(36, 9), (37, 0), (38, 0)]) := by
  refine (xv_129 (og := og) [a1.toInt, a2.toInt, a3.toInt] [] τ h _ hH hX ⟨⟨⟨?_, fun q hq => by cases hq⟩, rfl⟩, ⟨rfl, fun k kd hk => by simp [xc_129] at hk⟩, (fun q hq => by cases hq), (fun q hq => by cases hq)⟩ ?_).mono (fun r h' hq => xOQ_of (c := xc_129) (t := 0) rfl hq)
  · intro q hq
    simp only [xc_129, List.mem_cons, List.not_mem_nil, or_false] at hq
    rcases hq with rfl | rfl | rfl
    · exact ⟨_, rfl, (xb_rng a1).1, (xb_rng a1).2⟩
    · exact ⟨_, rfl, (xb_rng a2).1, (xb_rng a2).2⟩
    · exact ⟨_, rfl, (xb_rng a3).1, (xb_rng a3).2⟩
  · intro q hq
    simp only [xc_129, List.mem_cons, List.not_mem_nil, or_false] at hq
    rcases hq with rfl | rfl | rfl | rfl
    · exact ⟨_, rfl, rfl⟩
    · exact ⟨_, rfl, a1, rfl, xe_sym (s := 0) rfl⟩
    · exact ⟨_, rfl, a2, rfl, xe_sym (s := 1) rfl⟩
    · exact ⟨_, rfl, a3, rfl, xe_sym (s := 2) rfl⟩
theorem xo_x_terms {og : Nat → Option zm_C} {τ : List Nat} {h : zm_H} (hH : xHI xKT xSG τ h) (hX : xX τ h) (a1 : Int32) (a2 : Int32) (a3 : Int32) (a4 : Int32) : zm_Y og 1 11 0 [(0, .ref 0), (1, .int a1), (2, .int a2), (3, .int a3), (4, .int a4)] [] h (xOQ τ h 0 0 [(0, 4), (25, 0), (36, 3), (36, 4), (36, 9)]) := by
  refine (xv_130 (og := og) [a1.toInt, a2.toInt, a3.toInt, a4.toInt] [] τ h _ hH hX ⟨⟨⟨?_, fun q hq => by cases hq⟩, rfl⟩, ⟨rfl, fun k kd hk => by simp [xc_130] at hk⟩, (fun q hq => by cases hq), (fun q hq => by cases hq)⟩ ?_).mono (fun r h' hq => xOQ_of (c := xc_130) (t := 0) rfl hq)
  · intro q hq
    simp only [xc_130, List.mem_cons, List.not_mem_nil, or_false] at hq
    rcases hq with rfl | rfl | rfl | rfl
    · exact ⟨_, rfl, (xb_rng a1).1, (xb_rng a1).2⟩
    · exact ⟨_, rfl, (xb_rng a2).1, (xb_rng a2).2⟩
    · exact ⟨_, rfl, (xb_rng a3).1, (xb_rng a3).2⟩
    · exact ⟨_, rfl, (xb_rng a4).1, (xb_rng a4).2⟩
  · intro q hq
    simp only [xc_130, List.mem_cons, List.not_mem_nil, or_false] at hq
    rcases hq with rfl | rfl | rfl | rfl | rfl
    · exact ⟨_, rfl, rfl⟩
    · exact ⟨_, rfl, a1, rfl, xe_sym (s := 0) rfl⟩
    · exact ⟨_, rfl, a2, rfl, xe_sym (s := 1) rfl⟩
    · exact ⟨_, rfl, a3, rfl, xe_sym (s := 2) rfl⟩
    · exact ⟨_, rfl, a4, rfl, xe_sym (s := 3) rfl⟩
theorem xo_x_house {og : Nat → Option zm_C} {τ : List Nat} {h : zm_H} (hH : xHI xKT xSG τ h) (hX : xX τ h) (a1 : Int32) (a2 : Int32) (a3 : Int32) (a4 : Int32) : zm_Y og 12 12 0 [(0, .ref 0), (1, .int a1), (2, .int a2), (3, .int a3), (4, .int a4)] [] h (xOQ τ h 0 90 [(0, 1), (0, 2), (1, 0), (36, 9)]) := by
  refine (xv_57 (og := og) [a1.toInt, a2.toInt, a3.toInt, a4.toInt] [] τ h _ hH hX ⟨⟨⟨?_, fun q hq => by cases hq⟩, rfl⟩, ⟨rfl, fun k kd hk => by simp [xc_57] at hk⟩, (fun q hq => by cases hq), (fun q hq => by cases hq)⟩ ?_).mono (fun r h' hq => xOQ_of (c := xc_57) (t := 0) rfl hq)
  · intro q hq
    simp only [xc_57, List.mem_cons, List.not_mem_nil, or_false] at hq
    rcases hq with rfl | rfl | rfl | rfl
    · exact ⟨_, rfl, (xb_rng a1).1, (xb_rng a1).2⟩
    · exact ⟨_, rfl, (xb_rng a2).1, (xb_rng a2).2⟩
    · exact ⟨_, rfl, (xb_rng a3).1, (xb_rng a3).2⟩
    · exact ⟨_, rfl, (xb_rng a4).1, (xb_rng a4).2⟩
  · intro q hq
    simp only [xc_57, List.mem_cons, List.not_mem_nil, or_false] at hq
    rcases hq with rfl | rfl | rfl | rfl | rfl
    · exact ⟨_, rfl, rfl⟩
    · exact ⟨_, rfl, a1, rfl, xe_sym (s := 0) rfl⟩
    · exact ⟨_, rfl, a2, rfl, xe_sym (s := 1) rfl⟩
    · exact ⟨_, rfl, a3, rfl, xe_sym (s := 2) rfl⟩
    · exact ⟨_, rfl, a4, rfl, xe_sym (s := 3) rfl⟩
theorem xo_x_room {og : Nat → Option zm_C} {τ : List Nat} {h : zm_H} (hH : xHI xKT xSG τ h) (hX : xX τ h) (a1 : Int32) (a2 : Int32) (a3 : Int32) (a4 : Int32) : zm_Y og 13 16 0 [(0, .ref 0), (1, .int a1), (2, .int a2), (3, .int a3), (4, .int a4)] [] h (xOQ τ h 0 300 [(36, 9), (207, 5), (207, 7), (208, 0), (209, 0)]) := by
  refine (xv_131 (og := og) [a1.toInt, a2.toInt, a3.toInt, a4.toInt] [] τ h _ hH hX ⟨⟨⟨?_, fun q hq => by cases hq⟩, rfl⟩, ⟨rfl, fun k kd hk => by simp [xc_131] at hk⟩, (fun q hq => by cases hq), (fun q hq => by cases hq)⟩ ?_).mono (fun r h' hq => xOQ_of (c := xc_131) (t := 0) rfl hq)
  · intro q hq
    simp only [xc_131, List.mem_cons, List.not_mem_nil, or_false] at hq
    rcases hq with rfl | rfl | rfl | rfl
    · exact ⟨_, rfl, (xb_rng a1).1, (xb_rng a1).2⟩
    · exact ⟨_, rfl, (xb_rng a2).1, (xb_rng a2).2⟩
    · exact ⟨_, rfl, (xb_rng a3).1, (xb_rng a3).2⟩
    · exact ⟨_, rfl, (xb_rng a4).1, (xb_rng a4).2⟩
  · intro q hq
    simp only [xc_131, List.mem_cons, List.not_mem_nil, or_false] at hq
    rcases hq with rfl | rfl | rfl | rfl | rfl
    · exact ⟨_, rfl, rfl⟩
    · exact ⟨_, rfl, a1, rfl, xe_sym (s := 0) rfl⟩
    · exact ⟨_, rfl, a2, rfl, xe_sym (s := 1) rfl⟩
    · exact ⟨_, rfl, a3, rfl, xe_sym (s := 2) rfl⟩
    · exact ⟨_, rfl, a4, rfl, xe_sym (s := 3) rfl⟩
theorem xo_x_make {og : Nat → Option zm_C} {τ : List Nat} {h : zm_H} (hH : xHI xKT xSG τ h) (hX : xX τ h) (a1 : Int32) (a2 : Int32) (a3 : Int32) : zm_Y og 3 26 0 [(0, .ref 0), (1, .int a1), (2, .int a2), (3, .int a3)] [] h (xOQ τ h 0 0 [(36, 9), (210, 6)]) := by
  refine (xv_132 (og := og) [a1.toInt, a2.toInt, a3.toInt] [] τ h _ hH hX ⟨⟨⟨?_, fun q hq => by cases hq⟩, rfl⟩, ⟨rfl, fun k kd hk => by simp [xc_132] at hk⟩, (fun q hq => by cases hq), (fun q hq => by cases hq)⟩ ?_).mono (fun r h' hq => xOQ_of (c := xc_132) (t := 0) rfl hq)
  · intro q hq
    simp only [xc_132, List.mem_cons, List.not_mem_nil, or_false] at hq
    rcases hq with rfl | rfl | rfl
    · exact ⟨_, rfl, (xb_rng a1).1, (xb_rng a1).2⟩
    · exact ⟨_, rfl, (xb_rng a2).1, (xb_rng a2).2⟩
    · exact ⟨_, rfl, (xb_rng a3).1, (xb_rng a3).2⟩
  · intro q hq
    simp only [xc_132, List.mem_cons, List.not_mem_nil, or_false] at hq
    rcases hq with rfl | rfl | rfl | rfl
    · exact ⟨_, rfl, rfl⟩
    · exact ⟨_, rfl, a1, rfl, xe_sym (s := 0) rfl⟩
    · exact ⟨_, rfl, a2, rfl, xe_sym (s := 1) rfl⟩
    · exact ⟨_, rfl, a3, rfl, xe_sym (s := 2) rfl⟩
theorem xo_x_worth {og : Nat → Option zm_C} {τ : List Nat} {h : zm_H} (hH : xHI xKT xSG τ h) (hX : xX τ h) (a1 : Int32) (a2 : Int32) (a3 : Int32) : zm_Y og 2 28 0 [(0, .ref 0), (1, .int a1), (2, .int a2), (3, .int a3)] [] h (xOQ τ h 0 0 [(36, 9), (207, 1), (207, 2)]) := by
  refine (xv_133 (og := og) [a1.toInt, a2.toInt, a3.toInt] [] τ h _ hH hX ⟨⟨⟨?_, fun q hq => by cases hq⟩, rfl⟩, ⟨rfl, fun k kd hk => by simp [xc_133] at hk⟩, (fun q hq => by cases hq), (fun q hq => by cases hq)⟩ ?_).mono (fun r h' hq => xOQ_of (c := xc_133) (t := 0) rfl hq)
  · intro q hq
    simp only [xc_133, List.mem_cons, List.not_mem_nil, or_false] at hq
    rcases hq with rfl | rfl | rfl
    · exact ⟨_, rfl, (xb_rng a1).1, (xb_rng a1).2⟩
    · exact ⟨_, rfl, (xb_rng a2).1, (xb_rng a2).2⟩
    · exact ⟨_, rfl, (xb_rng a3).1, (xb_rng a3).2⟩
  · intro q hq
    simp only [xc_133, List.mem_cons, List.not_mem_nil, or_false] at hq
    rcases hq with rfl | rfl | rfl | rfl
    · exact ⟨_, rfl, rfl⟩
    · exact ⟨_, rfl, a1, rfl, xe_sym (s := 0) rfl⟩
    · exact ⟨_, rfl, a2, rfl, xe_sym (s := 1) rfl⟩
    · exact ⟨_, rfl, a3, rfl, xe_sym (s := 2) rfl⟩
theorem xo_x_roof {og : Nat → Option zm_C} {τ : List Nat} {h : zm_H} (hH : xHI xKT xSG τ h) (hX : xX τ h) (a1 : Int32) (a2 : Int32) : zm_Y og 3 29 0 [(0, .ref 0), (1, .int a1), (2, .int a2)] [] h (xOQ τ h 0 0 [(0, 2), (36, 9), (207, 4)]) := by
  refine (xv_134 (og := og) [a1.toInt, a2.toInt] [] τ h _ hH hX ⟨⟨⟨?_, fun q hq => by cases hq⟩, rfl⟩, ⟨rfl, fun k kd hk => by simp [xc_134] at hk⟩, (fun q hq => by cases hq), (fun q hq => by cases hq)⟩ ?_).mono (fun r h' hq => xOQ_of (c := xc_134) (t := 0) rfl hq)
  · intro q hq
    simp only [xc_134, List.mem_cons, List.not_mem_nil, or_false] at hq
    rcases hq with rfl | rfl
    · exact ⟨_, rfl, (xb_rng a1).1, (xb_rng a1).2⟩
    · exact ⟨_, rfl, (xb_rng a2).1, (xb_rng a2).2⟩
  · intro q hq
    simp only [xc_134, List.mem_cons, List.not_mem_nil, or_false] at hq
    rcases hq with rfl | rfl | rfl
    · exact ⟨_, rfl, rfl⟩
    · exact ⟨_, rfl, a1, rfl, xe_sym (s := 0) rfl⟩
    · exact ⟨_, rfl, a2, rfl, xe_sym (s := 1) rfl⟩
theorem xo_x_down {og : Nat → Option zm_C} {τ : List Nat} {h : zm_H} (hH : xHI xKT xSG τ h) (hX : xX τ h) (a1 : Int32) : zm_Y og 3 30 0 [(0, .ref 0), (1, .int a1)] [] h (xOQ τ h 0 0 [(0, 2), (36, 9), (207, 4), (207, 9)]) := by
  refine (xv_135 (og := og) [a1.toInt] [] τ h _ hH hX ⟨⟨⟨?_, fun q hq => by cases hq⟩, rfl⟩, ⟨rfl, fun k kd hk => by simp [xc_135] at hk⟩, (fun q hq => by cases hq), (fun q hq => by cases hq)⟩ ?_).mono (fun r h' hq => xOQ_of (c := xc_135) (t := 0) rfl hq)
  · intro q hq
    simp only [xc_135, List.mem_cons, List.not_mem_nil, or_false] at hq
    rcases hq with rfl
    · exact ⟨_, rfl, (xb_rng a1).1, (xb_rng a1).2⟩
  · intro q hq
    simp only [xc_135, List.mem_cons, List.not_mem_nil, or_false] at hq
    rcases hq with rfl | rfl
    · exact ⟨_, rfl, rfl⟩
    · exact ⟨_, rfl, a1, rfl, xe_sym (s := 0) rfl⟩
theorem xo_x_feed {og : Nat → Option zm_C} {τ : List Nat} {h : zm_H} (hH : xHI xKT xSG τ h) (hX : xX τ h) (a1 : Int32) (a2 : Int32) (a3 : Int32) (a4 : Int32) (a5 : Int32) : zm_Y og 1 31 0 [(0, .ref 0), (1, .int a1), (2, .int a2), (3, .int a3), (4, .int a4), (5, .int a5)] [] h (xOQ τ h 0 0 [(2, 1), (3, 0)]) := by
  refine (xv_136 (og := og) [a1.toInt, a2.toInt, a3.toInt, a4.toInt, a5.toInt] [] τ h _ hH hX ⟨⟨⟨?_, fun q hq => by cases hq⟩, rfl⟩, ⟨rfl, fun k kd hk => by simp [xc_136] at hk⟩, (fun q hq => by cases hq), (fun q hq => by cases hq)⟩ ?_).mono (fun r h' hq => xOQ_of (c := xc_136) (t := 0) rfl hq)
  · intro q hq
    simp only [xc_136, List.mem_cons, List.not_mem_nil, or_false] at hq
    rcases hq with rfl | rfl | rfl | rfl | rfl
    · exact ⟨_, rfl, (xb_rng a1).1, (xb_rng a1).2⟩
    · exact ⟨_, rfl, (xb_rng a2).1, (xb_rng a2).2⟩
    · exact ⟨_, rfl, (xb_rng a3).1, (xb_rng a3).2⟩
    · exact ⟨_, rfl, (xb_rng a4).1, (xb_rng a4).2⟩
    · exact ⟨_, rfl, (xb_rng a5).1, (xb_rng a5).2⟩
  · intro q hq
    simp only [xc_136, List.mem_cons, List.not_mem_nil, or_false] at hq
    rcases hq with rfl | rfl | rfl | rfl | rfl | rfl
    · exact ⟨_, rfl, rfl⟩
    · exact ⟨_, rfl, a1, rfl, xe_sym (s := 0) rfl⟩
    · exact ⟨_, rfl, a2, rfl, xe_sym (s := 1) rfl⟩
    · exact ⟨_, rfl, a3, rfl, xe_sym (s := 2) rfl⟩
    · exact ⟨_, rfl, a4, rfl, xe_sym (s := 3) rfl⟩
    · exact ⟨_, rfl, a5, rfl, xe_sym (s := 4) rfl⟩
theorem xo_x_end {og : Nat → Option zm_C} {τ : List Nat} {h : zm_H} (hH : xHI xKT xSG τ h) (hX : xX τ h) (a1 : Int32) : zm_Y og 1 34 0 [(0, .ref 0), (1, .int a1)] [] h (xOQ τ h 0 0 [(2, 1)]) := by
  refine (xv_137 (og := og) [a1.toInt] [] τ h _ hH hX ⟨⟨⟨?_, fun q hq => by cases hq⟩, rfl⟩, ⟨rfl, fun k kd hk => by simp [xc_137] at hk⟩, (fun q hq => by cases hq), (fun q hq => by cases hq)⟩ ?_).mono (fun r h' hq => xOQ_of (c := xc_137) (t := 0) rfl hq)
  · intro q hq
    simp only [xc_137, List.mem_cons, List.not_mem_nil, or_false] at hq
    rcases hq with rfl
    · exact ⟨_, rfl, (xb_rng a1).1, (xb_rng a1).2⟩
  · intro q hq
    simp only [xc_137, List.mem_cons, List.not_mem_nil, or_false] at hq
    rcases hq with rfl | rfl
    · exact ⟨_, rfl, rfl⟩
    · exact ⟨_, rfl, a1, rfl, xe_sym (s := 0) rfl⟩
theorem xo_x_act {og : Nat → Option zm_C} {τ : List Nat} {h : zm_H} (hH : xHI xKT xSG τ h) (hX : xX τ h) (a1 : Int32) : zm_Y og 52 35 0 [(0, .ref 0), (1, .int a1)] [] h (xOQ τ h 0 500 [(0, 5), (2, 1), (2, 5), (2, 6), (2, 7), (2, 8), (2, 9), (4, 0), (5, 0), (6, 0), (7, 0), (7, 1), (7, 2), (8, 0), (36, 9), (200, 1), (200, 7), (200, 8), (200, 9), (201, 0), (202, 0), (203, 0), (204, 0), (205, 0), (206, 0)]) := by
  refine (xv_138 (og := og) [a1.toInt] [] τ h _ hH hX ⟨⟨⟨?_, fun q hq => by cases hq⟩, rfl⟩, ⟨rfl, fun k kd hk => by simp [xc_138] at hk⟩, (fun q hq => by cases hq), (fun q hq => by cases hq)⟩ ?_).mono (fun r h' hq => xOQ_of (c := xc_138) (t := 0) rfl hq)
  · intro q hq
    simp only [xc_138, List.mem_cons, List.not_mem_nil, or_false] at hq
    rcases hq with rfl
    · exact ⟨_, rfl, (xb_rng a1).1, (xb_rng a1).2⟩
  · intro q hq
    simp only [xc_138, List.mem_cons, List.not_mem_nil, or_false] at hq
    rcases hq with rfl | rfl
    · exact ⟨_, rfl, rfl⟩
    · exact ⟨_, rfl, a1, rfl, xe_sym (s := 0) rfl⟩
theorem xo_x_fault {og : Nat → Option zm_C} {τ : List Nat} {h : zm_H} (hH : xHI xKT xSG τ h) (hX : xX τ h) : zm_Y og 0 73 0 [(0, .ref 0)] [] h (xOQ τ h 0 0 []) := by
  refine (xv_139 (og := og) [] [] τ h _ hH hX ⟨⟨⟨?_, fun q hq => by cases hq⟩, rfl⟩, ⟨rfl, fun k kd hk => by simp [xc_139] at hk⟩, (fun q hq => by cases hq), (fun q hq => by cases hq)⟩ ?_).mono (fun r h' hq => xOQ_of (c := xc_139) (t := 0) rfl hq)
  · intro q hq; cases hq
  · intro q hq
    simp only [xc_139, List.mem_cons, List.not_mem_nil, or_false] at hq
    rcases hq with rfl
    · exact ⟨_, rfl, rfl⟩
theorem xo_x_weight {og : Nat → Option zm_C} {τ : List Nat} {h : zm_H} (hH : xHI xKT xSG τ h) (hX : xX τ h) (a1 : Int32) (a2 : Int32) (a3 : Int32) : zm_Y og 4 74 0 [(0, .ref 0), (1, .int a1), (2, .int a2), (3, .int a3)] [] h (xOQ τ h 0 0 [(23, 0), (24, 0)]) := by
  refine (xv_140 (og := og) [a1.toInt, a2.toInt, a3.toInt] [] τ h _ hH hX ⟨⟨⟨?_, fun q hq => by cases hq⟩, rfl⟩, ⟨rfl, fun k kd hk => by simp [xc_140] at hk⟩, (fun q hq => by cases hq), (fun q hq => by cases hq)⟩ ?_).mono (fun r h' hq => xOQ_of (c := xc_140) (t := 0) rfl hq)
  · intro q hq
    simp only [xc_140, List.mem_cons, List.not_mem_nil, or_false] at hq
    rcases hq with rfl | rfl | rfl
    · exact ⟨_, rfl, (xb_rng a1).1, (xb_rng a1).2⟩
    · exact ⟨_, rfl, (xb_rng a2).1, (xb_rng a2).2⟩
    · exact ⟨_, rfl, (xb_rng a3).1, (xb_rng a3).2⟩
  · intro q hq
    simp only [xc_140, List.mem_cons, List.not_mem_nil, or_false] at hq
    rcases hq with rfl | rfl | rfl | rfl
    · exact ⟨_, rfl, rfl⟩
    · exact ⟨_, rfl, a1, rfl, xe_sym (s := 0) rfl⟩
    · exact ⟨_, rfl, a2, rfl, xe_sym (s := 1) rfl⟩
    · exact ⟨_, rfl, a3, rfl, xe_sym (s := 2) rfl⟩
theorem xo_x_counted {og : Nat → Option zm_C} {τ : List Nat} {h : zm_H} (hH : xHI xKT xSG τ h) (hX : xX τ h) (a1 : Int32) (a2 : Int32) (a3 : Int32) : zm_Y og 6 84 0 [(0, .ref 0), (1, .int a1), (2, .int a2), (3, .int a3)] [] h (xOQ τ h 0 0 [(23, 0), (24, 0)]) := by
  refine (xv_141 (og := og) [a1.toInt, a2.toInt, a3.toInt] [] τ h _ hH hX ⟨⟨⟨?_, fun q hq => by cases hq⟩, rfl⟩, ⟨rfl, fun k kd hk => by simp [xc_141] at hk⟩, (fun q hq => by cases hq), (fun q hq => by cases hq)⟩ ?_).mono (fun r h' hq => xOQ_of (c := xc_141) (t := 0) rfl hq)
  · intro q hq
    simp only [xc_141, List.mem_cons, List.not_mem_nil, or_false] at hq
    rcases hq with rfl | rfl | rfl
    · exact ⟨_, rfl, (xb_rng a1).1, (xb_rng a1).2⟩
    · exact ⟨_, rfl, (xb_rng a2).1, (xb_rng a2).2⟩
    · exact ⟨_, rfl, (xb_rng a3).1, (xb_rng a3).2⟩
  · intro q hq
    simp only [xc_141, List.mem_cons, List.not_mem_nil, or_false] at hq
    rcases hq with rfl | rfl | rfl | rfl
    · exact ⟨_, rfl, rfl⟩
    · exact ⟨_, rfl, a1, rfl, xe_sym (s := 0) rfl⟩
    · exact ⟨_, rfl, a2, rfl, xe_sym (s := 1) rfl⟩
    · exact ⟨_, rfl, a3, rfl, xe_sym (s := 2) rfl⟩
theorem xo_x_tax {og : Nat → Option zm_C} {τ : List Nat} {h : zm_H} (hH : xHI xKT xSG τ h) (hX : xX τ h) (a1 : Int32) (a2 : Int32) (a3 : Int32) : zm_Y og 5 89 0 [(0, .ref 0), (1, .int a1), (2, .int a2), (3, .int a3)] [] h (xOQ τ h 1 0 [(23, 0), (24, 0)]) := by
  refine (xv_142 (og := og) [a1.toInt, a2.toInt, a3.toInt] [] τ h _ hH hX ⟨⟨⟨?_, fun q hq => by cases hq⟩, rfl⟩, ⟨rfl, fun k kd hk => by simp [xc_142] at hk⟩, (fun q hq => by cases hq), (fun q hq => by cases hq)⟩ ?_).mono (fun r h' hq => xOQ_of (c := xc_142) (t := 1) rfl hq)
  · intro q hq
    simp only [xc_142, List.mem_cons, List.not_mem_nil, or_false] at hq
    rcases hq with rfl | rfl | rfl
    · exact ⟨_, rfl, (xb_rng a1).1, (xb_rng a1).2⟩
    · exact ⟨_, rfl, (xb_rng a2).1, (xb_rng a2).2⟩
    · exact ⟨_, rfl, (xb_rng a3).1, (xb_rng a3).2⟩
  · intro q hq
    simp only [xc_142, List.mem_cons, List.not_mem_nil, or_false] at hq
    rcases hq with rfl | rfl | rfl | rfl
    · exact ⟨_, rfl, rfl⟩
    · exact ⟨_, rfl, a1, rfl, xe_sym (s := 0) rfl⟩
    · exact ⟨_, rfl, a2, rfl, xe_sym (s := 1) rfl⟩
    · exact ⟨_, rfl, a3, rfl, xe_sym (s := 2) rfl⟩
theorem xo_x_due {og : Nat → Option zm_C} {τ : List Nat} {h : zm_H} (hH : xHI xKT xSG τ h) (hX : xX τ h) (a1 : Int32) : zm_Y og 6 92 0 [(0, .ref 0), (1, .int a1)] [] h (xOQ τ h 1 0 [(23, 0), (24, 0), (54, 0)]) := by
  refine (xv_35 (og := og) [a1.toInt] [] τ h _ hH hX ⟨⟨⟨?_, fun q hq => by cases hq⟩, rfl⟩, ⟨rfl, fun k kd hk => by simp [xc_35] at hk⟩, (fun q hq => by cases hq), (fun q hq => by cases hq)⟩ ?_).mono (fun r h' hq => xOQ_of (c := xc_35) (t := 1) rfl hq)
  · intro q hq
    simp only [xc_35, List.mem_cons, List.not_mem_nil, or_false] at hq
    rcases hq with rfl
    · exact ⟨_, rfl, (xb_rng a1).1, (xb_rng a1).2⟩
  · intro q hq
    simp only [xc_35, List.mem_cons, List.not_mem_nil, or_false] at hq
    rcases hq with rfl | rfl
    · exact ⟨_, rfl, rfl⟩
    · exact ⟨_, rfl, a1, rfl, xe_sym (s := 0) rfl⟩
theorem xo_x_plan {og : Nat → Option zm_C} {τ : List Nat} {h : zm_H} (hH : xHI xKT xSG τ h) (hX : xX τ h) (a1 : Int32) (a2 : Int32) : zm_Y og 14 95 0 [(0, .ref 0), (1, .int a1), (2, .int a2)] [] h (xOQ τ h 1 0 [(23, 0), (24, 0), (36, 7), (36, 8), (36, 9), (36, 10), (36, 11), (36, 12), (36, 13), (36, 14), (39, 0), (40, 0), (212, 0), (213, 0), (214, 0), (215, 0), (216, 0)]) := by
  refine (xv_51 (og := og) [a1.toInt, a2.toInt] [] τ h _ hH hX ⟨⟨⟨?_, fun q hq => by cases hq⟩, rfl⟩, ⟨rfl, fun k kd hk => by simp [xc_51] at hk⟩, (fun q hq => by cases hq), (fun q hq => by cases hq)⟩ ?_).mono (fun r h' hq => xOQ_of (c := xc_51) (t := 1) rfl hq)
  · intro q hq
    simp only [xc_51, List.mem_cons, List.not_mem_nil, or_false] at hq
    rcases hq with rfl | rfl
    · exact ⟨_, rfl, (xb_rng a1).1, (xb_rng a1).2⟩
    · exact ⟨_, rfl, (xb_rng a2).1, (xb_rng a2).2⟩
  · intro q hq
    simp only [xc_51, List.mem_cons, List.not_mem_nil, or_false] at hq
    rcases hq with rfl | rfl | rfl
    · exact ⟨_, rfl, rfl⟩
    · exact ⟨_, rfl, a1, rfl, xe_sym (s := 0) rfl⟩
    · exact ⟨_, rfl, a2, rfl, xe_sym (s := 1) rfl⟩
theorem xo_x_planned {og : Nat → Option zm_C} {τ : List Nat} {h : zm_H} (hH : xHI xKT xSG τ h) (hX : xX τ h) (a1 : Int32) : zm_Y og 1 104 0 [(0, .ref 0), (1, .int a1)] [] h (xOQ τ h 0 0 []) := by
  refine (xv_52 (og := og) [a1.toInt] [] τ h _ hH hX ⟨⟨⟨?_, fun q hq => by cases hq⟩, rfl⟩, ⟨rfl, fun k kd hk => by simp [xc_52] at hk⟩, (fun q hq => by cases hq), (fun q hq => by cases hq)⟩ ?_).mono (fun r h' hq => xOQ_of (c := xc_52) (t := 0) rfl hq)
  · intro q hq
    simp only [xc_52, List.mem_cons, List.not_mem_nil, or_false] at hq
    rcases hq with rfl
    · exact ⟨_, rfl, (xb_rng a1).1, (xb_rng a1).2⟩
  · intro q hq
    simp only [xc_52, List.mem_cons, List.not_mem_nil, or_false] at hq
    rcases hq with rfl | rfl
    · exact ⟨_, rfl, rfl⟩
    · exact ⟨_, rfl, a1, rfl, xe_sym (s := 0) rfl⟩
theorem xo_x_owner {og : Nat → Option zm_C} {τ : List Nat} {h : zm_H} (hH : xHI xKT xSG τ h) (hX : xX τ h) : zm_Y og 3 105 0 [(0, .ref 0)] [] h (xOQ τ h 0 0 [(36, 9), (210, 6)]) := by
  refine (xv_53 (og := og) [] [] τ h _ hH hX ⟨⟨⟨?_, fun q hq => by cases hq⟩, rfl⟩, ⟨rfl, fun k kd hk => by simp [xc_53] at hk⟩, (fun q hq => by cases hq), (fun q hq => by cases hq)⟩ ?_).mono (fun r h' hq => xOQ_of (c := xc_53) (t := 0) rfl hq)
  · intro q hq; cases hq
  · intro q hq
    simp only [xc_53, List.mem_cons, List.not_mem_nil, or_false] at hq
    rcases hq with rfl
    · exact ⟨_, rfl, rfl⟩
theorem xo_x_held {og : Nat → Option zm_C} {τ : List Nat} {h : zm_H} (hH : xHI xKT xSG τ h) (hX : xX τ h) (a1 : Int32) (a2 : Int32) (a3 : Int32) (a4 : Int32) (a5 : Int32) (a6 : Int32) (b4 : 0 ≤ a4.toInt ∧ a4.toInt ≤ 1) (b5 : 0 ≤ a5.toInt ∧ a5.toInt ≤ 1) (b6 : 0 ≤ a6.toInt ∧ a6.toInt ≤ 1) : zm_Y og 12 107 0 [(0, .ref 0), (1, .int a1), (2, .int a2), (3, .int a3), (4, .int a4), (5, .int a5), (6, .int a6)] [] h (xOQ τ h 0 30 [(25, 1), (26, 0), (36, 9)]) := by
  refine (xv_56 (og := og) [a1.toInt, a2.toInt, a3.toInt, a4.toInt, a5.toInt, a6.toInt] [] τ h _ hH hX ⟨⟨⟨?_, fun q hq => by cases hq⟩, rfl⟩, ⟨rfl, fun k kd hk => by simp [xc_56] at hk⟩, (fun q hq => by cases hq), (fun q hq => by cases hq)⟩ ?_).mono (fun r h' hq => xOQ_of (c := xc_56) (t := 0) rfl hq)
  · intro q hq
    simp only [xc_56, List.mem_cons, List.not_mem_nil, or_false] at hq
    rcases hq with rfl | rfl | rfl | rfl | rfl | rfl
    · exact ⟨_, rfl, (xb_rng a1).1, (xb_rng a1).2⟩
    · exact ⟨_, rfl, (xb_rng a2).1, (xb_rng a2).2⟩
    · exact ⟨_, rfl, (xb_rng a3).1, (xb_rng a3).2⟩
    · exact ⟨_, rfl, b4.1, b4.2⟩
    · exact ⟨_, rfl, b5.1, b5.2⟩
    · exact ⟨_, rfl, b6.1, b6.2⟩
  · intro q hq
    simp only [xc_56, List.mem_cons, List.not_mem_nil, or_false] at hq
    rcases hq with rfl | rfl | rfl | rfl | rfl | rfl | rfl
    · exact ⟨_, rfl, rfl⟩
    · exact ⟨_, rfl, a1, rfl, xe_sym (s := 0) rfl⟩
    · exact ⟨_, rfl, a2, rfl, xe_sym (s := 1) rfl⟩
    · exact ⟨_, rfl, a3, rfl, xe_sym (s := 2) rfl⟩
    · exact ⟨_, rfl, a4, rfl, xe_sym (s := 3) rfl⟩
    · exact ⟨_, rfl, a5, rfl, xe_sym (s := 4) rfl⟩
    · exact ⟨_, rfl, a6, rfl, xe_sym (s := 5) rfl⟩
theorem xo_x_nearest {og : Nat → Option zm_C} {τ : List Nat} {h : zm_H} (hH : xHI xKT xSG τ h) (hX : xX τ h) (a1 : Int32) (a2 : Int32) : zm_Y og 3 110 0 [(0, .ref 0), (1, .int a1), (2, .int a2)] [] h (xOQ τ h 0 0 []) := by
  refine (xv_143 (og := og) [a1.toInt, a2.toInt] [] τ h _ hH hX ⟨⟨⟨?_, fun q hq => by cases hq⟩, rfl⟩, ⟨rfl, fun k kd hk => by simp [xc_143] at hk⟩, (fun q hq => by cases hq), (fun q hq => by cases hq)⟩ ?_).mono (fun r h' hq => xOQ_of (c := xc_143) (t := 0) rfl hq)
  · intro q hq
    simp only [xc_143, List.mem_cons, List.not_mem_nil, or_false] at hq
    rcases hq with rfl | rfl
    · exact ⟨_, rfl, (xb_rng a1).1, (xb_rng a1).2⟩
    · exact ⟨_, rfl, (xb_rng a2).1, (xb_rng a2).2⟩
  · intro q hq
    simp only [xc_143, List.mem_cons, List.not_mem_nil, or_false] at hq
    rcases hq with rfl | rfl | rfl
    · exact ⟨_, rfl, rfl⟩
    · exact ⟨_, rfl, a1, rfl, xe_sym (s := 0) rfl⟩
    · exact ⟨_, rfl, a2, rfl, xe_sym (s := 1) rfl⟩
theorem xo_x_appeal {og : Nat → Option zm_C} {τ : List Nat} {h : zm_H} (hH : xHI xKT xSG τ h) (hX : xX τ h) (a1 : Int32) (a2 : Int32) : zm_Y og 4 114 0 [(0, .ref 0), (1, .int a1), (2, .int a2)] [] h (xOQ τ h 0 0 [(23, 0), (24, 0), (25, 1), (26, 0), (36, 9), (210, 7)]) := by
  refine (xv_144 (og := og) [a1.toInt, a2.toInt] [] τ h _ hH hX ⟨⟨⟨?_, fun q hq => by cases hq⟩, rfl⟩, ⟨rfl, fun k kd hk => by simp [xc_144] at hk⟩, (fun q hq => by cases hq), (fun q hq => by cases hq)⟩ ?_).mono (fun r h' hq => xOQ_of (c := xc_144) (t := 0) rfl hq)
  · intro q hq
    simp only [xc_144, List.mem_cons, List.not_mem_nil, or_false] at hq
    rcases hq with rfl | rfl
    · exact ⟨_, rfl, (xb_rng a1).1, (xb_rng a1).2⟩
    · exact ⟨_, rfl, (xb_rng a2).1, (xb_rng a2).2⟩
  · intro q hq
    simp only [xc_144, List.mem_cons, List.not_mem_nil, or_false] at hq
    rcases hq with rfl | rfl | rfl
    · exact ⟨_, rfl, rfl⟩
    · exact ⟨_, rfl, a1, rfl, xe_sym (s := 0) rfl⟩
    · exact ⟨_, rfl, a2, rfl, xe_sym (s := 1) rfl⟩
theorem xo_x_overrule {og : Nat → Option zm_C} {τ : List Nat} {h : zm_H} (hH : xHI xKT xSG τ h) (hX : xX τ h) (a1 : Int32) : zm_Y og 2 116 0 [(0, .ref 0), (1, .int a1)] [] h (xOQ τ h 0 0 [(26, 0), (36, 9), (210, 7)]) := by
  refine (xv_31 (og := og) [a1.toInt] [] τ h _ hH hX ⟨⟨⟨?_, fun q hq => by cases hq⟩, rfl⟩, ⟨rfl, fun k kd hk => by simp [xc_31] at hk⟩, (fun q hq => by cases hq), (fun q hq => by cases hq)⟩ ?_).mono (fun r h' hq => xOQ_of (c := xc_31) (t := 0) rfl hq)
  · intro q hq
    simp only [xc_31, List.mem_cons, List.not_mem_nil, or_false] at hq
    rcases hq with rfl
    · exact ⟨_, rfl, (xb_rng a1).1, (xb_rng a1).2⟩
  · intro q hq
    simp only [xc_31, List.mem_cons, List.not_mem_nil, or_false] at hq
    rcases hq with rfl | rfl
    · exact ⟨_, rfl, rfl⟩
    · exact ⟨_, rfl, a1, rfl, xe_sym (s := 0) rfl⟩
theorem xo_x_heldOf {og : Nat → Option zm_C} {τ : List Nat} {h : zm_H} (hH : xHI xKT xSG τ h) (hX : xX τ h) (a1 : Int32) (a2 : Int32) : zm_Y og 1 119 0 [(0, .ref 0), (1, .int a1), (2, .int a2)] [] h (xOQ τ h 0 0 []) := by
  refine (xv_145 (og := og) [a1.toInt, a2.toInt] [] τ h _ hH hX ⟨⟨⟨?_, fun q hq => by cases hq⟩, rfl⟩, ⟨rfl, fun k kd hk => by simp [xc_145] at hk⟩, (fun q hq => by cases hq), (fun q hq => by cases hq)⟩ ?_).mono (fun r h' hq => xOQ_of (c := xc_145) (t := 0) rfl hq)
  · intro q hq
    simp only [xc_145, List.mem_cons, List.not_mem_nil, or_false] at hq
    rcases hq with rfl | rfl
    · exact ⟨_, rfl, (xb_rng a1).1, (xb_rng a1).2⟩
    · exact ⟨_, rfl, (xb_rng a2).1, (xb_rng a2).2⟩
  · intro q hq
    simp only [xc_145, List.mem_cons, List.not_mem_nil, or_false] at hq
    rcases hq with rfl | rfl | rfl
    · exact ⟨_, rfl, rfl⟩
    · exact ⟨_, rfl, a1, rfl, xe_sym (s := 0) rfl⟩
    · exact ⟨_, rfl, a2, rfl, xe_sym (s := 1) rfl⟩
theorem xo_x_walk {og : Nat → Option zm_C} {τ : List Nat} {h : zm_H} (hH : xHI xKT xSG τ h) (hX : xX τ h) (a1 : Int32) (a2 : Int32) : zm_Y og 6 120 0 [(0, .ref 0), (1, .int a1), (2, .int a2)] [] h (xOQ τ h 0 0 [(23, 0), (24, 0), (27, 6), (28, 0), (29, 0), (30, 0), (31, 0), (32, 0), (33, 0), (34, 0)]) := by
  refine (xv_146 (og := og) [a1.toInt, a2.toInt] [] τ h _ hH hX ⟨⟨⟨?_, fun q hq => by cases hq⟩, rfl⟩, ⟨rfl, fun k kd hk => by simp [xc_146] at hk⟩, (fun q hq => by cases hq), (fun q hq => by cases hq)⟩ ?_).mono (fun r h' hq => xOQ_of (c := xc_146) (t := 0) rfl hq)
  · intro q hq
    simp only [xc_146, List.mem_cons, List.not_mem_nil, or_false] at hq
    rcases hq with rfl | rfl
    · exact ⟨_, rfl, (xb_rng a1).1, (xb_rng a1).2⟩
    · exact ⟨_, rfl, (xb_rng a2).1, (xb_rng a2).2⟩
  · intro q hq
    simp only [xc_146, List.mem_cons, List.not_mem_nil, or_false] at hq
    rcases hq with rfl | rfl | rfl
    · exact ⟨_, rfl, rfl⟩
    · exact ⟨_, rfl, a1, rfl, xe_sym (s := 0) rfl⟩
    · exact ⟨_, rfl, a2, rfl, xe_sym (s := 1) rfl⟩
theorem xo_x_look {og : Nat → Option zm_C} {τ : List Nat} {h : zm_H} (hH : xHI xKT xSG τ h) (hX : xX τ h) (a1 : Int32) (a2 : Int32) : zm_Y og 6 126 0 [(0, .ref 0), (1, .int a1), (2, .int a2)] [] h (xOQ τ h 0 0 [(23, 0), (24, 0), (27, 6), (28, 0), (29, 0), (30, 0), (31, 0), (32, 0), (33, 0)]) := by
  refine (xv_147 (og := og) [a1.toInt, a2.toInt] [] τ h _ hH hX ⟨⟨⟨?_, fun q hq => by cases hq⟩, rfl⟩, ⟨rfl, fun k kd hk => by simp [xc_147] at hk⟩, (fun q hq => by cases hq), (fun q hq => by cases hq)⟩ ?_).mono (fun r h' hq => xOQ_of (c := xc_147) (t := 0) rfl hq)
  · intro q hq
    simp only [xc_147, List.mem_cons, List.not_mem_nil, or_false] at hq
    rcases hq with rfl | rfl
    · exact ⟨_, rfl, (xb_rng a1).1, (xb_rng a1).2⟩
    · exact ⟨_, rfl, (xb_rng a2).1, (xb_rng a2).2⟩
  · intro q hq
    simp only [xc_147, List.mem_cons, List.not_mem_nil, or_false] at hq
    rcases hq with rfl | rfl | rfl
    · exact ⟨_, rfl, rfl⟩
    · exact ⟨_, rfl, a1, rfl, xe_sym (s := 0) rfl⟩
    · exact ⟨_, rfl, a2, rfl, xe_sym (s := 1) rfl⟩
theorem xo_x_route {og : Nat → Option zm_C} {τ : List Nat} {h : zm_H} (hH : xHI xKT xSG τ h) (hX : xX τ h) (a1 : Int32) (a2 : Int32) : zm_Y og 7 128 0 [(0, .ref 0), (1, .int a1), (2, .int a2)] [] h (xOQ τ h 0 1028 [(0, 14), (0, 15), (23, 0), (24, 0), (217, 0), (218, 0)]) := by
  refine (xv_148 (og := og) [a1.toInt, a2.toInt] [] τ h _ hH hX ⟨⟨⟨?_, fun q hq => by cases hq⟩, rfl⟩, ⟨rfl, fun k kd hk => by simp [xc_148] at hk⟩, (fun q hq => by cases hq), (fun q hq => by cases hq)⟩ ?_).mono (fun r h' hq => xOQ_of (c := xc_148) (t := 0) rfl hq)
  · intro q hq
    simp only [xc_148, List.mem_cons, List.not_mem_nil, or_false] at hq
    rcases hq with rfl | rfl
    · exact ⟨_, rfl, (xb_rng a1).1, (xb_rng a1).2⟩
    · exact ⟨_, rfl, (xb_rng a2).1, (xb_rng a2).2⟩
  · intro q hq
    simp only [xc_148, List.mem_cons, List.not_mem_nil, or_false] at hq
    rcases hq with rfl | rfl | rfl
    · exact ⟨_, rfl, rfl⟩
    · exact ⟨_, rfl, a1, rfl, xe_sym (s := 0) rfl⟩
    · exact ⟨_, rfl, a2, rfl, xe_sym (s := 1) rfl⟩
theorem xo_x_late {og : Nat → Option zm_C} {τ : List Nat} {h : zm_H} (hH : xHI xKT xSG τ h) (hX : xX τ h) (a1 : Int32) (a2 : Int32) (a3 : Int32) : zm_Y og 2 131 0 [(0, .ref 0), (1, .int a1), (2, .int a2), (3, .int a3)] [] h (xOQ τ h 0 0 [(27, 6), (28, 0), (29, 0), (30, 0), (31, 0), (32, 0), (33, 0)]) := by
  refine (xv_149 (og := og) [a1.toInt, a2.toInt, a3.toInt] [] τ h _ hH hX ⟨⟨⟨?_, fun q hq => by cases hq⟩, rfl⟩, ⟨rfl, fun k kd hk => by simp [xc_149] at hk⟩, (fun q hq => by cases hq), (fun q hq => by cases hq)⟩ ?_).mono (fun r h' hq => xOQ_of (c := xc_149) (t := 0) rfl hq)
  · intro q hq
    simp only [xc_149, List.mem_cons, List.not_mem_nil, or_false] at hq
    rcases hq with rfl | rfl | rfl
    · exact ⟨_, rfl, (xb_rng a1).1, (xb_rng a1).2⟩
    · exact ⟨_, rfl, (xb_rng a2).1, (xb_rng a2).2⟩
    · exact ⟨_, rfl, (xb_rng a3).1, (xb_rng a3).2⟩
  · intro q hq
    simp only [xc_149, List.mem_cons, List.not_mem_nil, or_false] at hq
    rcases hq with rfl | rfl | rfl | rfl
    · exact ⟨_, rfl, rfl⟩
    · exact ⟨_, rfl, a1, rfl, xe_sym (s := 0) rfl⟩
    · exact ⟨_, rfl, a2, rfl, xe_sym (s := 1) rfl⟩
    · exact ⟨_, rfl, a3, rfl, xe_sym (s := 2) rfl⟩
theorem xo_x_go {og : Nat → Option zm_C} {τ : List Nat} {h : zm_H} (hH : xHI xKT xSG τ h) (hX : xX τ h) : zm_Y og 6 132 0 [(0, .ref 0)] [] h (xOQ τ h 1 0 [(0, 3), (23, 0), (24, 0), (35, 0), (36, 9), (54, 0), (207, 10)]) := by
  refine (xv_150 (og := og) [] [] τ h _ hH hX ⟨⟨⟨?_, fun q hq => by cases hq⟩, rfl⟩, ⟨rfl, fun k kd hk => by simp [xc_150] at hk⟩, (fun q hq => by cases hq), (fun q hq => by cases hq)⟩ ?_).mono (fun r h' hq => xOQ_of (c := xc_150) (t := 1) rfl hq)
  · intro q hq; cases hq
  · intro q hq
    simp only [xc_150, List.mem_cons, List.not_mem_nil, or_false] at hq
    rcases hq with rfl
    · exact ⟨_, rfl, rfl⟩
theorem xo_x_roll {og : Nat → Option zm_C} {τ : List Nat} {h : zm_H} (hH : xHI xKT xSG τ h) (hX : xX τ h) (a1 : Int32) (a2 : Int32) (a3 : Int32) (a4 : Int32) : zm_Y og 3 136 0 [(0, .ref 0), (1, .int a1), (2, .int a2), (3, .int a3), (4, .int a4)] [] h (xOQ τ h 0 0 []) := by
  refine (xv_151 (og := og) [a1.toInt, a2.toInt, a3.toInt, a4.toInt] [] τ h _ hH hX ⟨⟨⟨?_, fun q hq => by cases hq⟩, rfl⟩, ⟨rfl, fun k kd hk => by simp [xc_151] at hk⟩, (fun q hq => by cases hq), (fun q hq => by cases hq)⟩ ?_).mono (fun r h' hq => xOQ_of (c := xc_151) (t := 0) rfl hq)
  · intro q hq
    simp only [xc_151, List.mem_cons, List.not_mem_nil, or_false] at hq
    rcases hq with rfl | rfl | rfl | rfl
    · exact ⟨_, rfl, (xb_rng a1).1, (xb_rng a1).2⟩
    · exact ⟨_, rfl, (xb_rng a2).1, (xb_rng a2).2⟩
    · exact ⟨_, rfl, (xb_rng a3).1, (xb_rng a3).2⟩
    · exact ⟨_, rfl, (xb_rng a4).1, (xb_rng a4).2⟩
  · intro q hq
    simp only [xc_151, List.mem_cons, List.not_mem_nil, or_false] at hq
    rcases hq with rfl | rfl | rfl | rfl | rfl
    · exact ⟨_, rfl, rfl⟩
    · exact ⟨_, rfl, a1, rfl, xe_sym (s := 0) rfl⟩
    · exact ⟨_, rfl, a2, rfl, xe_sym (s := 1) rfl⟩
    · exact ⟨_, rfl, a3, rfl, xe_sym (s := 2) rfl⟩
    · exact ⟨_, rfl, a4, rfl, xe_sym (s := 3) rfl⟩
theorem xo_x_span {og : Nat → Option zm_C} {τ : List Nat} {h : zm_H} (hH : xHI xKT xSG τ h) (hX : xX τ h) (a1 : Int32) (a2 : Int32) (a3 : Int32) (a4 : Int32) : zm_Y og 3 139 0 [(0, .ref 0), (1, .int a1), (2, .int a2), (3, .int a3), (4, .int a4)] [] h (xOQ τ h 0 0 [(35, 0)]) := by
  refine (xv_152 (og := og) [a1.toInt, a2.toInt, a3.toInt, a4.toInt] [] τ h _ hH hX ⟨⟨⟨?_, fun q hq => by cases hq⟩, rfl⟩, ⟨rfl, fun k kd hk => by simp [xc_152] at hk⟩, (fun q hq => by cases hq), (fun q hq => by cases hq)⟩ ?_).mono (fun r h' hq => xOQ_of (c := xc_152) (t := 0) rfl hq)
  · intro q hq
    simp only [xc_152, List.mem_cons, List.not_mem_nil, or_false] at hq
    rcases hq with rfl | rfl | rfl | rfl
    · exact ⟨_, rfl, (xb_rng a1).1, (xb_rng a1).2⟩
    · exact ⟨_, rfl, (xb_rng a2).1, (xb_rng a2).2⟩
    · exact ⟨_, rfl, (xb_rng a3).1, (xb_rng a3).2⟩
    · exact ⟨_, rfl, (xb_rng a4).1, (xb_rng a4).2⟩
  · intro q hq
    simp only [xc_152, List.mem_cons, List.not_mem_nil, or_false] at hq
    rcases hq with rfl | rfl | rfl | rfl | rfl
    · exact ⟨_, rfl, rfl⟩
    · exact ⟨_, rfl, a1, rfl, xe_sym (s := 0) rfl⟩
    · exact ⟨_, rfl, a2, rfl, xe_sym (s := 1) rfl⟩
    · exact ⟨_, rfl, a3, rfl, xe_sym (s := 2) rfl⟩
    · exact ⟨_, rfl, a4, rfl, xe_sym (s := 3) rfl⟩
theorem xo_x_habit {og : Nat → Option zm_C} {τ : List Nat} {h : zm_H} (hH : xHI xKT xSG τ h) (hX : xX τ h) (a1 : Int32) (a2 : Int32) (a3 : Int32) : zm_Y og 2 141 0 [(0, .ref 0), (1, .int a1), (2, .int a2), (3, .int a3)] [] h (xOQ τ h 0 0 [(35, 0)]) := by
  refine (xv_153 (og := og) [a1.toInt, a2.toInt, a3.toInt] [] τ h _ hH hX ⟨⟨⟨?_, fun q hq => by cases hq⟩, rfl⟩, ⟨rfl, fun k kd hk => by simp [xc_153] at hk⟩, (fun q hq => by cases hq), (fun q hq => by cases hq)⟩ ?_).mono (fun r h' hq => xOQ_of (c := xc_153) (t := 0) rfl hq)
  · intro q hq
    simp only [xc_153, List.mem_cons, List.not_mem_nil, or_false] at hq
    rcases hq with rfl | rfl | rfl
    · exact ⟨_, rfl, (xb_rng a1).1, (xb_rng a1).2⟩
    · exact ⟨_, rfl, (xb_rng a2).1, (xb_rng a2).2⟩
    · exact ⟨_, rfl, (xb_rng a3).1, (xb_rng a3).2⟩
  · intro q hq
    simp only [xc_153, List.mem_cons, List.not_mem_nil, or_false] at hq
    rcases hq with rfl | rfl | rfl | rfl
    · exact ⟨_, rfl, rfl⟩
    · exact ⟨_, rfl, a1, rfl, xe_sym (s := 0) rfl⟩
    · exact ⟨_, rfl, a2, rfl, xe_sym (s := 1) rfl⟩
    · exact ⟨_, rfl, a3, rfl, xe_sym (s := 2) rfl⟩
theorem xo_x_ask {og : Nat → Option zm_C} {τ : List Nat} {h : zm_H} (hH : xHI xKT xSG τ h) (hX : xX τ h) (a1 : Int32) : zm_Y og 51 143 0 [(0, .ref 0), (1, .int a1)] [] h (xOQ τ h 0 0 [(0, 5), (2, 1), (2, 5), (2, 6), (2, 7), (2, 8), (2, 9), (4, 0), (5, 0), (6, 0), (23, 0), (24, 0), (35, 0), (41, 3), (41, 4), (42, 0), (43, 0), (44, 0), (200, 1), (200, 7), (200, 9), (201, 0), (202, 0), (203, 0), (204, 0), (205, 0), (206, 0)]) := by
  refine (xv_154 (og := og) [a1.toInt] [] τ h _ hH hX ⟨⟨⟨?_, fun q hq => by cases hq⟩, rfl⟩, ⟨rfl, fun k kd hk => by simp [xc_154] at hk⟩, (fun q hq => by cases hq), (fun q hq => by cases hq)⟩ ?_).mono (fun r h' hq => xOQ_of (c := xc_154) (t := 0) rfl hq)
  · intro q hq
    simp only [xc_154, List.mem_cons, List.not_mem_nil, or_false] at hq
    rcases hq with rfl
    · exact ⟨_, rfl, (xb_rng a1).1, (xb_rng a1).2⟩
  · intro q hq
    simp only [xc_154, List.mem_cons, List.not_mem_nil, or_false] at hq
    rcases hq with rfl | rfl
    · exact ⟨_, rfl, rfl⟩
    · exact ⟨_, rfl, a1, rfl, xe_sym (s := 0) rfl⟩
theorem xo_x_answer {og : Nat → Option zm_C} {τ : List Nat} {h : zm_H} (hH : xHI xKT xSG τ h) (hX : xX τ h) (a1 : Int32) (a2 : Int32) : zm_Y og 1 153 0 [(0, .ref 0), (1, .int a1), (2, .int a2)] [] h (xOQ τ h 1 0 []) := by
  refine (xv_155 (og := og) [a1.toInt, a2.toInt] [] τ h _ hH hX ⟨⟨⟨?_, fun q hq => by cases hq⟩, rfl⟩, ⟨rfl, fun k kd hk => by simp [xc_155] at hk⟩, (fun q hq => by cases hq), (fun q hq => by cases hq)⟩ ?_).mono (fun r h' hq => xOQ_of (c := xc_155) (t := 1) rfl hq)
  · intro q hq
    simp only [xc_155, List.mem_cons, List.not_mem_nil, or_false] at hq
    rcases hq with rfl | rfl
    · exact ⟨_, rfl, (xb_rng a1).1, (xb_rng a1).2⟩
    · exact ⟨_, rfl, (xb_rng a2).1, (xb_rng a2).2⟩
  · intro q hq
    simp only [xc_155, List.mem_cons, List.not_mem_nil, or_false] at hq
    rcases hq with rfl | rfl | rfl
    · exact ⟨_, rfl, rfl⟩
    · exact ⟨_, rfl, a1, rfl, xe_sym (s := 0) rfl⟩
    · exact ⟨_, rfl, a2, rfl, xe_sym (s := 1) rfl⟩
theorem xo_x_match {og : Nat → Option zm_C} {τ : List Nat} {h : zm_H} (hH : xHI xKT xSG τ h) (hX : xX τ h) (a1 : Int32) (a2 : Int32) (a3 : Int32) : zm_Y og 3 154 0 [(0, .ref 0), (1, .int a1), (2, .int a2), (3, .int a3)] [] h (xOQ τ h 0 3734 [(45, 4), (45, 5), (53, 0), (219, 0)]) := by
  refine (xv_156 (og := og) [a1.toInt, a2.toInt, a3.toInt] [] τ h _ hH hX ⟨⟨⟨?_, fun q hq => by cases hq⟩, rfl⟩, ⟨rfl, fun k kd hk => by simp [xc_156] at hk⟩, (fun q hq => by cases hq), (fun q hq => by cases hq)⟩ ?_).mono (fun r h' hq => xOQ_of (c := xc_156) (t := 0) rfl hq)
  · intro q hq
    simp only [xc_156, List.mem_cons, List.not_mem_nil, or_false] at hq
    rcases hq with rfl | rfl | rfl
    · exact ⟨_, rfl, (xb_rng a1).1, (xb_rng a1).2⟩
    · exact ⟨_, rfl, (xb_rng a2).1, (xb_rng a2).2⟩
    · exact ⟨_, rfl, (xb_rng a3).1, (xb_rng a3).2⟩
  · intro q hq
    simp only [xc_156, List.mem_cons, List.not_mem_nil, or_false] at hq
    rcases hq with rfl | rfl | rfl | rfl
    · exact ⟨_, rfl, rfl⟩
    · exact ⟨_, rfl, a1, rfl, xe_sym (s := 0) rfl⟩
    · exact ⟨_, rfl, a2, rfl, xe_sym (s := 1) rfl⟩
    · exact ⟨_, rfl, a3, rfl, xe_sym (s := 2) rfl⟩
theorem xo_x_matched {og : Nat → Option zm_C} {τ : List Nat} {h : zm_H} (hH : xHI xKT xSG τ h) (hX : xX τ h) (a1 : Int32) : zm_Y og 1 159 0 [(0, .ref 0), (1, .int a1)] [] h (xOQ τ h 0 0 []) := by
  refine (xv_157 (og := og) [a1.toInt] [] τ h _ hH hX ⟨⟨⟨?_, fun q hq => by cases hq⟩, rfl⟩, ⟨rfl, fun k kd hk => by simp [xc_157] at hk⟩, (fun q hq => by cases hq), (fun q hq => by cases hq)⟩ ?_).mono (fun r h' hq => xOQ_of (c := xc_157) (t := 0) rfl hq)
  · intro q hq
    simp only [xc_157, List.mem_cons, List.not_mem_nil, or_false] at hq
    rcases hq with rfl
    · exact ⟨_, rfl, (xb_rng a1).1, (xb_rng a1).2⟩
  · intro q hq
    simp only [xc_157, List.mem_cons, List.not_mem_nil, or_false] at hq
    rcases hq with rfl | rfl
    · exact ⟨_, rfl, rfl⟩
    · exact ⟨_, rfl, a1, rfl, xe_sym (s := 0) rfl⟩
theorem xo_x_beside {og : Nat → Option zm_C} {τ : List Nat} {h : zm_H} (hH : xHI xKT xSG τ h) (hX : xX τ h) (a1 : Int32) (a2 : Int32) : zm_Y og 52 160 0 [(0, .ref 0), (1, .int a1), (2, .int a2)] [] h (xOQ τ h 1 0 [(0, 5), (2, 1), (2, 5), (2, 6), (2, 7), (2, 8), (2, 9), (4, 0), (5, 0), (6, 0), (23, 0), (24, 0), (36, 10), (36, 11), (36, 12), (36, 13), (36, 14), (39, 0), (200, 1), (200, 7), (200, 9), (201, 0), (202, 0), (203, 0), (204, 0), (205, 0), (206, 0), (212, 0), (213, 0), (214, 0), (215, 0), (216, 0)]) := by
  refine (xv_158 (og := og) [a1.toInt, a2.toInt] [] τ h _ hH hX ⟨⟨⟨?_, fun q hq => by cases hq⟩, rfl⟩, ⟨rfl, fun k kd hk => by simp [xc_158] at hk⟩, (fun q hq => by cases hq), (fun q hq => by cases hq)⟩ ?_).mono (fun r h' hq => xOQ_of (c := xc_158) (t := 1) rfl hq)
  · intro q hq
    simp only [xc_158, List.mem_cons, List.not_mem_nil, or_false] at hq
    rcases hq with rfl | rfl
    · exact ⟨_, rfl, (xb_rng a1).1, (xb_rng a1).2⟩
    · exact ⟨_, rfl, (xb_rng a2).1, (xb_rng a2).2⟩
  · intro q hq
    simp only [xc_158, List.mem_cons, List.not_mem_nil, or_false] at hq
    rcases hq with rfl | rfl | rfl
    · exact ⟨_, rfl, rfl⟩
    · exact ⟨_, rfl, a1, rfl, xe_sym (s := 0) rfl⟩
    · exact ⟨_, rfl, a2, rfl, xe_sym (s := 1) rfl⟩
theorem xo_x_heap {og : Nat → Option zm_C} {τ : List Nat} {h : zm_H} (hH : xHI xKT xSG τ h) (hX : xX τ h) (a1 : Int32) : zm_Y og 6 163 0 [(0, .ref 0), (1, .int a1)] [] h (xOQ τ h 0 0 [(23, 0), (24, 0)]) := by
  refine (xv_159 (og := og) [a1.toInt] [] τ h _ hH hX ⟨⟨⟨?_, fun q hq => by cases hq⟩, rfl⟩, ⟨rfl, fun k kd hk => by simp [xc_159] at hk⟩, (fun q hq => by cases hq), (fun q hq => by cases hq)⟩ ?_).mono (fun r h' hq => xOQ_of (c := xc_159) (t := 0) rfl hq)
  · intro q hq
    simp only [xc_159, List.mem_cons, List.not_mem_nil, or_false] at hq
    rcases hq with rfl
    · exact ⟨_, rfl, (xb_rng a1).1, (xb_rng a1).2⟩
  · intro q hq
    simp only [xc_159, List.mem_cons, List.not_mem_nil, or_false] at hq
    rcases hq with rfl | rfl
    · exact ⟨_, rfl, rfl⟩
    · exact ⟨_, rfl, a1, rfl, xe_sym (s := 0) rfl⟩
theorem xo_x_houseOf {og : Nat → Option zm_C} {τ : List Nat} {h : zm_H} (hH : xHI xKT xSG τ h) (hX : xX τ h) (a1 : Int32) (a2 : Int32) : zm_Y og 2 164 0 [(0, .ref 0), (1, .int a1), (2, .int a2)] [] h (xOQ τ h 0 0 []) := by
  refine (xv_160 (og := og) [a1.toInt, a2.toInt] [] τ h _ hH hX ⟨⟨⟨?_, fun q hq => by cases hq⟩, rfl⟩, ⟨rfl, fun k kd hk => by simp [xc_160] at hk⟩, (fun q hq => by cases hq), (fun q hq => by cases hq)⟩ ?_).mono (fun r h' hq => xOQ_of (c := xc_160) (t := 0) rfl hq)
  · intro q hq
    simp only [xc_160, List.mem_cons, List.not_mem_nil, or_false] at hq
    rcases hq with rfl | rfl
    · exact ⟨_, rfl, (xb_rng a1).1, (xb_rng a1).2⟩
    · exact ⟨_, rfl, (xb_rng a2).1, (xb_rng a2).2⟩
  · intro q hq
    simp only [xc_160, List.mem_cons, List.not_mem_nil, or_false] at hq
    rcases hq with rfl | rfl | rfl
    · exact ⟨_, rfl, rfl⟩
    · exact ⟨_, rfl, a1, rfl, xe_sym (s := 0) rfl⟩
    · exact ⟨_, rfl, a2, rfl, xe_sym (s := 1) rfl⟩
theorem xo_x_opening {og : Nat → Option zm_C} {τ : List Nat} {h : zm_H} (hH : xHI xKT xSG τ h) (hX : xX τ h) (a1 : Int32) (a2 : Int32) (a3 : Int32) : zm_Y og 3 166 0 [(0, .ref 0), (1, .int a1), (2, .int a2), (3, .int a3)] [] h (xOQ τ h 0 0 []) := by
  refine (xv_161 (og := og) [a1.toInt, a2.toInt, a3.toInt] [] τ h _ hH hX ⟨⟨⟨?_, fun q hq => by cases hq⟩, rfl⟩, ⟨rfl, fun k kd hk => by simp [xc_161] at hk⟩, (fun q hq => by cases hq), (fun q hq => by cases hq)⟩ ?_).mono (fun r h' hq => xOQ_of (c := xc_161) (t := 0) rfl hq)
  · intro q hq
    simp only [xc_161, List.mem_cons, List.not_mem_nil, or_false] at hq
    rcases hq with rfl | rfl | rfl
    · exact ⟨_, rfl, (xb_rng a1).1, (xb_rng a1).2⟩
    · exact ⟨_, rfl, (xb_rng a2).1, (xb_rng a2).2⟩
    · exact ⟨_, rfl, (xb_rng a3).1, (xb_rng a3).2⟩
  · intro q hq
    simp only [xc_161, List.mem_cons, List.not_mem_nil, or_false] at hq
    rcases hq with rfl | rfl | rfl | rfl
    · exact ⟨_, rfl, rfl⟩
    · exact ⟨_, rfl, a1, rfl, xe_sym (s := 0) rfl⟩
    · exact ⟨_, rfl, a2, rfl, xe_sym (s := 1) rfl⟩
    · exact ⟨_, rfl, a3, rfl, xe_sym (s := 2) rfl⟩
theorem xo_x_paid {og : Nat → Option zm_C} {τ : List Nat} {h : zm_H} (hH : xHI xKT xSG τ h) (hX : xX τ h) (a1 : Int32) : zm_Y og 2 168 0 [(0, .ref 0), (1, .int a1)] [] h (xOQ τ h 1 0 []) := by
  refine (xv_162 (og := og) [a1.toInt] [] τ h _ hH hX ⟨⟨⟨?_, fun q hq => by cases hq⟩, rfl⟩, ⟨rfl, fun k kd hk => by simp [xc_162] at hk⟩, (fun q hq => by cases hq), (fun q hq => by cases hq)⟩ ?_).mono (fun r h' hq => xOQ_of (c := xc_162) (t := 1) rfl hq)
  · intro q hq
    simp only [xc_162, List.mem_cons, List.not_mem_nil, or_false] at hq
    rcases hq with rfl
    · exact ⟨_, rfl, (xb_rng a1).1, (xb_rng a1).2⟩
  · intro q hq
    simp only [xc_162, List.mem_cons, List.not_mem_nil, or_false] at hq
    rcases hq with rfl | rfl
    · exact ⟨_, rfl, rfl⟩
    · exact ⟨_, rfl, a1, rfl, xe_sym (s := 0) rfl⟩
theorem xo_x_count {og : Nat → Option zm_C} {τ : List Nat} {h : zm_H} (hH : xHI xKT xSG τ h) (hX : xX τ h) (a1 : Int32) : zm_Y og 2 169 0 [(0, .ref 0), (1, .int a1)] [] h (xOQ τ h 0 0 []) := by
  refine (xv_163 (og := og) [a1.toInt] [] τ h _ hH hX ⟨⟨⟨?_, fun q hq => by cases hq⟩, rfl⟩, ⟨rfl, fun k kd hk => by simp [xc_163] at hk⟩, (fun q hq => by cases hq), (fun q hq => by cases hq)⟩ ?_).mono (fun r h' hq => xOQ_of (c := xc_163) (t := 0) rfl hq)
  · intro q hq
    simp only [xc_163, List.mem_cons, List.not_mem_nil, or_false] at hq
    rcases hq with rfl
    · exact ⟨_, rfl, (xb_rng a1).1, (xb_rng a1).2⟩
  · intro q hq
    simp only [xc_163, List.mem_cons, List.not_mem_nil, or_false] at hq
    rcases hq with rfl | rfl
    · exact ⟨_, rfl, rfl⟩
    · exact ⟨_, rfl, a1, rfl, xe_sym (s := 0) rfl⟩
theorem xo_x_row {og : Nat → Option zm_C} {τ : List Nat} {h : zm_H} (hH : xHI xKT xSG τ h) (hX : xX τ h) (a1 : Int32) (a2 : Int32) (a3 : Int32) : zm_Y og 2 173 0 [(0, .ref 0), (1, .int a1), (2, .int a2), (3, .int a3)] [] h (xOQ τ h 0 0 [(51, 0), (52, 0), (211, 0)]) := by
  refine (xv_164 (og := og) [a1.toInt, a2.toInt, a3.toInt] [] τ h _ hH hX ⟨⟨⟨?_, fun q hq => by cases hq⟩, rfl⟩, ⟨rfl, fun k kd hk => by simp [xc_164] at hk⟩, (fun q hq => by cases hq), (fun q hq => by cases hq)⟩ ?_).mono (fun r h' hq => xOQ_of (c := xc_164) (t := 0) rfl hq)
  · intro q hq
    simp only [xc_164, List.mem_cons, List.not_mem_nil, or_false] at hq
    rcases hq with rfl | rfl | rfl
    · exact ⟨_, rfl, (xb_rng a1).1, (xb_rng a1).2⟩
    · exact ⟨_, rfl, (xb_rng a2).1, (xb_rng a2).2⟩
    · exact ⟨_, rfl, (xb_rng a3).1, (xb_rng a3).2⟩
  · intro q hq
    simp only [xc_164, List.mem_cons, List.not_mem_nil, or_false] at hq
    rcases hq with rfl | rfl | rfl | rfl
    · exact ⟨_, rfl, rfl⟩
    · exact ⟨_, rfl, a1, rfl, xe_sym (s := 0) rfl⟩
    · exact ⟨_, rfl, a2, rfl, xe_sym (s := 1) rfl⟩
    · exact ⟨_, rfl, a3, rfl, xe_sym (s := 2) rfl⟩
theorem xo_x_tear {og : Nat → Option zm_C} {τ : List Nat} {h : zm_H} (hH : xHI xKT xSG τ h) (hX : xX τ h) (a1 : Int32) : zm_Y og 2 175 0 [(0, .ref 0), (1, .int a1)] [] h (xOQ τ h 0 0 [(51, 0)]) := by
  refine (xv_165 (og := og) [a1.toInt] [] τ h _ hH hX ⟨⟨⟨?_, fun q hq => by cases hq⟩, rfl⟩, ⟨rfl, fun k kd hk => by simp [xc_165] at hk⟩, (fun q hq => by cases hq), (fun q hq => by cases hq)⟩ ?_).mono (fun r h' hq => xOQ_of (c := xc_165) (t := 0) rfl hq)
  · intro q hq
    simp only [xc_165, List.mem_cons, List.not_mem_nil, or_false] at hq
    rcases hq with rfl
    · exact ⟨_, rfl, (xb_rng a1).1, (xb_rng a1).2⟩
  · intro q hq
    simp only [xc_165, List.mem_cons, List.not_mem_nil, or_false] at hq
    rcases hq with rfl | rfl
    · exact ⟨_, rfl, rfl⟩
    · exact ⟨_, rfl, a1, rfl, xe_sym (s := 0) rfl⟩
theorem xo_x_write {og : Nat → Option zm_C} {τ : List Nat} {h : zm_H} (hH : xHI xKT xSG τ h) (hX : xX τ h) (a1 : Int32) (a2 : Int32) (a3 : Int64) : zm_Y og 2 176 0 [(0, .ref 0), (1, .int a1), (2, .int a2), (3, .long a3)] [] h (xOQ τ h 0 0 [(211, 0)]) := by
  refine (xv_166 (og := og) [a1.toInt, a2.toInt, a3.toInt] [] τ h _ hH hX ⟨⟨⟨?_, fun q hq => by cases hq⟩, rfl⟩, ⟨rfl, fun k kd hk => by simp [xc_166] at hk⟩, (fun q hq => by cases hq), (fun q hq => by cases hq)⟩ ?_).mono (fun r h' hq => xOQ_of (c := xc_166) (t := 0) rfl hq)
  · intro q hq
    simp only [xc_166, List.mem_cons, List.not_mem_nil, or_false] at hq
    rcases hq with rfl | rfl | rfl
    · exact ⟨_, rfl, (xb_rng a1).1, (xb_rng a1).2⟩
    · exact ⟨_, rfl, (xb_rng a2).1, (xb_rng a2).2⟩
    · exact ⟨_, rfl, (xb_rngL a3).1, (xb_rngL a3).2⟩
  · intro q hq
    simp only [xc_166, List.mem_cons, List.not_mem_nil, or_false] at hq
    rcases hq with rfl | rfl | rfl | rfl
    · exact ⟨_, rfl, rfl⟩
    · exact ⟨_, rfl, a1, rfl, xe_sym (s := 0) rfl⟩
    · exact ⟨_, rfl, a2, rfl, xe_sym (s := 1) rfl⟩
    · exact ⟨_, rfl, a3, rfl, xe_sym (s := 2) rfl⟩
theorem xo_x_paste {og : Nat → Option zm_C} {τ : List Nat} {h : zm_H} (hH : xHI xKT xSG τ h) (hX : xX τ h) (a1 : Int32) (a2 : Int32) (a3 : Int32) (a4 : Int32) (a5 : Int32) : zm_Y og 2 178 0 [(0, .ref 0), (1, .int a1), (2, .int a2), (3, .int a3), (4, .int a4), (5, .int a5)] [] h (xOQ τ h 0 0 [(211, 0)]) := by
  refine (xv_167 (og := og) [a1.toInt, a2.toInt, a3.toInt, a4.toInt, a5.toInt] [] τ h _ hH hX ⟨⟨⟨?_, fun q hq => by cases hq⟩, rfl⟩, ⟨rfl, fun k kd hk => by simp [xc_167] at hk⟩, (fun q hq => by cases hq), (fun q hq => by cases hq)⟩ ?_).mono (fun r h' hq => xOQ_of (c := xc_167) (t := 0) rfl hq)
  · intro q hq
    simp only [xc_167, List.mem_cons, List.not_mem_nil, or_false] at hq
    rcases hq with rfl | rfl | rfl | rfl | rfl
    · exact ⟨_, rfl, (xb_rng a1).1, (xb_rng a1).2⟩
    · exact ⟨_, rfl, (xb_rng a2).1, (xb_rng a2).2⟩
    · exact ⟨_, rfl, (xb_rng a3).1, (xb_rng a3).2⟩
    · exact ⟨_, rfl, (xb_rng a4).1, (xb_rng a4).2⟩
    · exact ⟨_, rfl, (xb_rng a5).1, (xb_rng a5).2⟩
  · intro q hq
    simp only [xc_167, List.mem_cons, List.not_mem_nil, or_false] at hq
    rcases hq with rfl | rfl | rfl | rfl | rfl | rfl
    · exact ⟨_, rfl, rfl⟩
    · exact ⟨_, rfl, a1, rfl, xe_sym (s := 0) rfl⟩
    · exact ⟨_, rfl, a2, rfl, xe_sym (s := 1) rfl⟩
    · exact ⟨_, rfl, a3, rfl, xe_sym (s := 2) rfl⟩
    · exact ⟨_, rfl, a4, rfl, xe_sym (s := 3) rfl⟩
    · exact ⟨_, rfl, a5, rfl, xe_sym (s := 4) rfl⟩
theorem xo_m_light {og : Nat → Option zm_C} {τ : List Nat} {h : zm_H} (hH : xHI xKT xSG τ h) (hX : xX τ h) (a1 : Int32) (a2 : Int32) (a3 : Int32) : zm_Y og 1 188 0 [(0, .ref 55), (1, .int a1), (2, .int a2), (3, .int a3)] [] h (xOQ τ h 0 0 [(55, 0), (55, 82), (60, 0), (61, 0)]) := by
  refine (xv_266 (og := og) [a1.toInt, a2.toInt, a3.toInt] [] τ h _ hH hX ⟨⟨⟨?_, fun q hq => by cases hq⟩, rfl⟩, ⟨rfl, fun k kd hk => by simp [xc_266] at hk⟩, (fun q hq => by cases hq), (fun q hq => by cases hq)⟩ ?_).mono (fun r h' hq => xOQ_of (c := xc_266) (t := 0) rfl hq)
  · intro q hq
    simp only [xc_266, List.mem_cons, List.not_mem_nil, or_false] at hq
    rcases hq with rfl | rfl | rfl
    · exact ⟨_, rfl, (xb_rng a1).1, (xb_rng a1).2⟩
    · exact ⟨_, rfl, (xb_rng a2).1, (xb_rng a2).2⟩
    · exact ⟨_, rfl, (xb_rng a3).1, (xb_rng a3).2⟩
  · intro q hq
    simp only [xc_266, List.mem_cons, List.not_mem_nil, or_false] at hq
    rcases hq with rfl | rfl | rfl | rfl
    · exact ⟨_, rfl, rfl⟩
    · exact ⟨_, rfl, a1, rfl, xe_sym (s := 0) rfl⟩
    · exact ⟨_, rfl, a2, rfl, xe_sym (s := 1) rfl⟩
    · exact ⟨_, rfl, a3, rfl, xe_sym (s := 2) rfl⟩
theorem xo_m_terms {og : Nat → Option zm_C} {τ : List Nat} {h : zm_H} (hH : xHI xKT xSG τ h) (hX : xX τ h) (a1 : Int32) (a2 : Int32) (a3 : Int32) (a4 : Int32) : zm_Y og 1 189 0 [(0, .ref 55), (1, .int a1), (2, .int a2), (3, .int a3), (4, .int a4)] [] h (xOQ τ h 0 0 [(55, 0), (55, 11), (55, 12), (55, 13), (55, 14), (55, 82)]) := by
  refine (xv_267 (og := og) [a1.toInt, a2.toInt, a3.toInt, a4.toInt] [] τ h _ hH hX ⟨⟨⟨?_, fun q hq => by cases hq⟩, rfl⟩, ⟨rfl, fun k kd hk => by simp [xc_267] at hk⟩, (fun q hq => by cases hq), (fun q hq => by cases hq)⟩ ?_).mono (fun r h' hq => xOQ_of (c := xc_267) (t := 0) rfl hq)
  · intro q hq
    simp only [xc_267, List.mem_cons, List.not_mem_nil, or_false] at hq
    rcases hq with rfl | rfl | rfl | rfl
    · exact ⟨_, rfl, (xb_rng a1).1, (xb_rng a1).2⟩
    · exact ⟨_, rfl, (xb_rng a2).1, (xb_rng a2).2⟩
    · exact ⟨_, rfl, (xb_rng a3).1, (xb_rng a3).2⟩
    · exact ⟨_, rfl, (xb_rng a4).1, (xb_rng a4).2⟩
  · intro q hq
    simp only [xc_267, List.mem_cons, List.not_mem_nil, or_false] at hq
    rcases hq with rfl | rfl | rfl | rfl | rfl
    · exact ⟨_, rfl, rfl⟩
    · exact ⟨_, rfl, a1, rfl, xe_sym (s := 0) rfl⟩
    · exact ⟨_, rfl, a2, rfl, xe_sym (s := 1) rfl⟩
    · exact ⟨_, rfl, a3, rfl, xe_sym (s := 2) rfl⟩
    · exact ⟨_, rfl, a4, rfl, xe_sym (s := 3) rfl⟩
theorem xo_m_house {og : Nat → Option zm_C} {τ : List Nat} {h : zm_H} (hH : xHI xKT xSG τ h) (hX : xX τ h) (a1 : Int32) (a2 : Int32) (a3 : Int32) (a4 : Int32) : zm_Y og 1 190 0 [(0, .ref 55), (1, .int a1), (2, .int a2), (3, .int a3), (4, .int a4)] [] h (xOQ τ h 0 0 [(55, 0), (55, 6), (55, 10), (55, 82), (62, 0), (63, 0), (64, 0), (65, 0), (68, 0)]) := by
  refine (xv_259 (og := og) [a1.toInt, a2.toInt, a3.toInt, a4.toInt] [] τ h _ hH hX ⟨⟨⟨?_, fun q hq => by cases hq⟩, rfl⟩, ⟨rfl, fun k kd hk => by simp [xc_259] at hk⟩, (fun q hq => by cases hq), (fun q hq => by cases hq)⟩ ?_).mono (fun r h' hq => xOQ_of (c := xc_259) (t := 0) rfl hq)
  · intro q hq
    simp only [xc_259, List.mem_cons, List.not_mem_nil, or_false] at hq
    rcases hq with rfl | rfl | rfl | rfl
    · exact ⟨_, rfl, (xb_rng a1).1, (xb_rng a1).2⟩
    · exact ⟨_, rfl, (xb_rng a2).1, (xb_rng a2).2⟩
    · exact ⟨_, rfl, (xb_rng a3).1, (xb_rng a3).2⟩
    · exact ⟨_, rfl, (xb_rng a4).1, (xb_rng a4).2⟩
  · intro q hq
    simp only [xc_259, List.mem_cons, List.not_mem_nil, or_false] at hq
    rcases hq with rfl | rfl | rfl | rfl | rfl
    · exact ⟨_, rfl, rfl⟩
    · exact ⟨_, rfl, a1, rfl, xe_sym (s := 0) rfl⟩
    · exact ⟨_, rfl, a2, rfl, xe_sym (s := 1) rfl⟩
    · exact ⟨_, rfl, a3, rfl, xe_sym (s := 2) rfl⟩
    · exact ⟨_, rfl, a4, rfl, xe_sym (s := 3) rfl⟩
theorem xo_m_room {og : Nat → Option zm_C} {τ : List Nat} {h : zm_H} (hH : xHI xKT xSG τ h) (hX : xX τ h) (a1 : Int32) (a2 : Int32) (a3 : Int32) (a4 : Int32) : zm_Y og 3 191 0 [(0, .ref 55), (1, .int a1), (2, .int a2), (3, .int a3), (4, .int a4)] [] h (xOQ τ h 0 0 [(55, 0), (55, 82), (66, 0), (67, 0), (71, 0), (72, 0), (73, 0), (74, 0), (75, 0), (76, 0), (77, 0), (78, 0)]) := by
  refine (xv_268 (og := og) [a1.toInt, a2.toInt, a3.toInt, a4.toInt] [] τ h _ hH hX ⟨⟨⟨?_, fun q hq => by cases hq⟩, rfl⟩, ⟨rfl, fun k kd hk => by simp [xc_268] at hk⟩, (fun q hq => by cases hq), (fun q hq => by cases hq)⟩ ?_).mono (fun r h' hq => xOQ_of (c := xc_268) (t := 0) rfl hq)
  · intro q hq
    simp only [xc_268, List.mem_cons, List.not_mem_nil, or_false] at hq
    rcases hq with rfl | rfl | rfl | rfl
    · exact ⟨_, rfl, (xb_rng a1).1, (xb_rng a1).2⟩
    · exact ⟨_, rfl, (xb_rng a2).1, (xb_rng a2).2⟩
    · exact ⟨_, rfl, (xb_rng a3).1, (xb_rng a3).2⟩
    · exact ⟨_, rfl, (xb_rng a4).1, (xb_rng a4).2⟩
  · intro q hq
    simp only [xc_268, List.mem_cons, List.not_mem_nil, or_false] at hq
    rcases hq with rfl | rfl | rfl | rfl | rfl
    · exact ⟨_, rfl, rfl⟩
    · exact ⟨_, rfl, a1, rfl, xe_sym (s := 0) rfl⟩
    · exact ⟨_, rfl, a2, rfl, xe_sym (s := 1) rfl⟩
    · exact ⟨_, rfl, a3, rfl, xe_sym (s := 2) rfl⟩
    · exact ⟨_, rfl, a4, rfl, xe_sym (s := 3) rfl⟩
theorem xo_m_make {og : Nat → Option zm_C} {τ : List Nat} {h : zm_H} (hH : xHI xKT xSG τ h) (hX : xX τ h) (a1 : Int32) (a2 : Int32) (a3 : Int32) : zm_Y og 3 194 0 [(0, .ref 55), (1, .int a1), (2, .int a2), (3, .int a3)] [] h (xOQ τ h 0 0 [(55, 0), (55, 82), (75, 0)]) := by
  refine (xv_269 (og := og) [a1.toInt, a2.toInt, a3.toInt] [] τ h _ hH hX ⟨⟨⟨?_, fun q hq => by cases hq⟩, rfl⟩, ⟨rfl, fun k kd hk => by simp [xc_269] at hk⟩, (fun q hq => by cases hq), (fun q hq => by cases hq)⟩ ?_).mono (fun r h' hq => xOQ_of (c := xc_269) (t := 0) rfl hq)
  · intro q hq
    simp only [xc_269, List.mem_cons, List.not_mem_nil, or_false] at hq
    rcases hq with rfl | rfl | rfl
    · exact ⟨_, rfl, (xb_rng a1).1, (xb_rng a1).2⟩
    · exact ⟨_, rfl, (xb_rng a2).1, (xb_rng a2).2⟩
    · exact ⟨_, rfl, (xb_rng a3).1, (xb_rng a3).2⟩
  · intro q hq
    simp only [xc_269, List.mem_cons, List.not_mem_nil, or_false] at hq
    rcases hq with rfl | rfl | rfl | rfl
    · exact ⟨_, rfl, rfl⟩
    · exact ⟨_, rfl, a1, rfl, xe_sym (s := 0) rfl⟩
    · exact ⟨_, rfl, a2, rfl, xe_sym (s := 1) rfl⟩
    · exact ⟨_, rfl, a3, rfl, xe_sym (s := 2) rfl⟩
theorem xo_m_worth {og : Nat → Option zm_C} {τ : List Nat} {h : zm_H} (hH : xHI xKT xSG τ h) (hX : xX τ h) (a1 : Int32) (a2 : Int32) (a3 : Int32) : zm_Y og 2 196 0 [(0, .ref 55), (1, .int a1), (2, .int a2), (3, .int a3)] [] h (xOQ τ h 0 0 [(55, 0), (55, 82), (63, 0), (64, 0)]) := by
  refine (xv_270 (og := og) [a1.toInt, a2.toInt, a3.toInt] [] τ h _ hH hX ⟨⟨⟨?_, fun q hq => by cases hq⟩, rfl⟩, ⟨rfl, fun k kd hk => by simp [xc_270] at hk⟩, (fun q hq => by cases hq), (fun q hq => by cases hq)⟩ ?_).mono (fun r h' hq => xOQ_of (c := xc_270) (t := 0) rfl hq)
  · intro q hq
    simp only [xc_270, List.mem_cons, List.not_mem_nil, or_false] at hq
    rcases hq with rfl | rfl | rfl
    · exact ⟨_, rfl, (xb_rng a1).1, (xb_rng a1).2⟩
    · exact ⟨_, rfl, (xb_rng a2).1, (xb_rng a2).2⟩
    · exact ⟨_, rfl, (xb_rng a3).1, (xb_rng a3).2⟩
  · intro q hq
    simp only [xc_270, List.mem_cons, List.not_mem_nil, or_false] at hq
    rcases hq with rfl | rfl | rfl | rfl
    · exact ⟨_, rfl, rfl⟩
    · exact ⟨_, rfl, a1, rfl, xe_sym (s := 0) rfl⟩
    · exact ⟨_, rfl, a2, rfl, xe_sym (s := 1) rfl⟩
    · exact ⟨_, rfl, a3, rfl, xe_sym (s := 2) rfl⟩
theorem xo_m_roof {og : Nat → Option zm_C} {τ : List Nat} {h : zm_H} (hH : xHI xKT xSG τ h) (hX : xX τ h) (a1 : Int32) (a2 : Int32) : zm_Y og 3 197 0 [(0, .ref 55), (1, .int a1), (2, .int a2)] [] h (xOQ τ h 0 0 [(55, 0), (55, 10), (55, 82), (68, 0)]) := by
  refine (xv_271 (og := og) [a1.toInt, a2.toInt] [] τ h _ hH hX ⟨⟨⟨?_, fun q hq => by cases hq⟩, rfl⟩, ⟨rfl, fun k kd hk => by simp [xc_271] at hk⟩, (fun q hq => by cases hq), (fun q hq => by cases hq)⟩ ?_).mono (fun r h' hq => xOQ_of (c := xc_271) (t := 0) rfl hq)
  · intro q hq
    simp only [xc_271, List.mem_cons, List.not_mem_nil, or_false] at hq
    rcases hq with rfl | rfl
    · exact ⟨_, rfl, (xb_rng a1).1, (xb_rng a1).2⟩
    · exact ⟨_, rfl, (xb_rng a2).1, (xb_rng a2).2⟩
  · intro q hq
    simp only [xc_271, List.mem_cons, List.not_mem_nil, or_false] at hq
    rcases hq with rfl | rfl | rfl
    · exact ⟨_, rfl, rfl⟩
    · exact ⟨_, rfl, a1, rfl, xe_sym (s := 0) rfl⟩
    · exact ⟨_, rfl, a2, rfl, xe_sym (s := 1) rfl⟩
theorem xo_m_down {og : Nat → Option zm_C} {τ : List Nat} {h : zm_H} (hH : xHI xKT xSG τ h) (hX : xX τ h) (a1 : Int32) : zm_Y og 3 198 0 [(0, .ref 55), (1, .int a1)] [] h (xOQ τ h 0 0 [(55, 0), (55, 10), (55, 82), (68, 0), (69, 0)]) := by
  refine (xv_272 (og := og) [a1.toInt] [] τ h _ hH hX ⟨⟨⟨?_, fun q hq => by cases hq⟩, rfl⟩, ⟨rfl, fun k kd hk => by simp [xc_272] at hk⟩, (fun q hq => by cases hq), (fun q hq => by cases hq)⟩ ?_).mono (fun r h' hq => xOQ_of (c := xc_272) (t := 0) rfl hq)
  · intro q hq
    simp only [xc_272, List.mem_cons, List.not_mem_nil, or_false] at hq
    rcases hq with rfl
    · exact ⟨_, rfl, (xb_rng a1).1, (xb_rng a1).2⟩
  · intro q hq
    simp only [xc_272, List.mem_cons, List.not_mem_nil, or_false] at hq
    rcases hq with rfl | rfl
    · exact ⟨_, rfl, rfl⟩
    · exact ⟨_, rfl, a1, rfl, xe_sym (s := 0) rfl⟩
theorem xo_m_feed {og : Nat → Option zm_C} {τ : List Nat} {h : zm_H} (hH : xHI xKT xSG τ h) (hX : xX τ h) (a1 : Int32) (a2 : Int32) (a3 : Int32) (a4 : Int32) (a5 : Int32) : zm_Y og 0 199 0 [(0, .ref 55), (1, .int a1), (2, .int a2), (3, .int a3), (4, .int a4), (5, .int a5)] [] h (xOQ τ h 0 0 [(55, 0), (55, 50), (94, 0)]) := by
  refine (xv_273 (og := og) [a1.toInt, a2.toInt, a3.toInt, a4.toInt, a5.toInt] [] τ h _ hH hX ⟨⟨⟨?_, fun q hq => by cases hq⟩, rfl⟩, ⟨rfl, fun k kd hk => by simp [xc_273] at hk⟩, (fun q hq => by cases hq), (fun q hq => by cases hq)⟩ ?_).mono (fun r h' hq => xOQ_of (c := xc_273) (t := 0) rfl hq)
  · intro q hq
    simp only [xc_273, List.mem_cons, List.not_mem_nil, or_false] at hq
    rcases hq with rfl | rfl | rfl | rfl | rfl
    · exact ⟨_, rfl, (xb_rng a1).1, (xb_rng a1).2⟩
    · exact ⟨_, rfl, (xb_rng a2).1, (xb_rng a2).2⟩
    · exact ⟨_, rfl, (xb_rng a3).1, (xb_rng a3).2⟩
    · exact ⟨_, rfl, (xb_rng a4).1, (xb_rng a4).2⟩
    · exact ⟨_, rfl, (xb_rng a5).1, (xb_rng a5).2⟩
  · intro q hq
    simp only [xc_273, List.mem_cons, List.not_mem_nil, or_false] at hq
    rcases hq with rfl | rfl | rfl | rfl | rfl | rfl
    · exact ⟨_, rfl, rfl⟩
    · exact ⟨_, rfl, a1, rfl, xe_sym (s := 0) rfl⟩
    · exact ⟨_, rfl, a2, rfl, xe_sym (s := 1) rfl⟩
    · exact ⟨_, rfl, a3, rfl, xe_sym (s := 2) rfl⟩
    · exact ⟨_, rfl, a4, rfl, xe_sym (s := 3) rfl⟩
    · exact ⟨_, rfl, a5, rfl, xe_sym (s := 4) rfl⟩
theorem xo_m_end {og : Nat → Option zm_C} {τ : List Nat} {h : zm_H} (hH : xHI xKT xSG τ h) (hX : xX τ h) (a1 : Int32) : zm_Y og 1 200 0 [(0, .ref 55), (1, .int a1)] [] h (xOQ τ h 0 0 [(55, 0), (55, 50)]) := by
  refine (xv_274 (og := og) [a1.toInt] [] τ h _ hH hX ⟨⟨⟨?_, fun q hq => by cases hq⟩, rfl⟩, ⟨rfl, fun k kd hk => by simp [xc_274] at hk⟩, (fun q hq => by cases hq), (fun q hq => by cases hq)⟩ ?_).mono (fun r h' hq => xOQ_of (c := xc_274) (t := 0) rfl hq)
  · intro q hq
    simp only [xc_274, List.mem_cons, List.not_mem_nil, or_false] at hq
    rcases hq with rfl
    · exact ⟨_, rfl, (xb_rng a1).1, (xb_rng a1).2⟩
  · intro q hq
    simp only [xc_274, List.mem_cons, List.not_mem_nil, or_false] at hq
    rcases hq with rfl | rfl
    · exact ⟨_, rfl, rfl⟩
    · exact ⟨_, rfl, a1, rfl, xe_sym (s := 0) rfl⟩
theorem xo_m_act {og : Nat → Option zm_C} {τ : List Nat} {h : zm_H} (hH : xHI xKT xSG τ h) (hX : xX τ h) (a1 : Int32) : zm_Y og 47 201 0 [(0, .ref 55), (1, .int a1)] [] h (xOQ τ h 0 0 [(55, 0), (55, 9), (55, 50), (55, 51), (55, 56), (55, 57), (55, 58), (55, 59), (55, 60), (55, 61), (55, 62), (55, 63), (55, 64), (55, 65), (55, 66), (55, 67), (55, 69), (55, 70), (55, 71), (55, 72), (55, 73), (55, 74), (55, 75), (55, 76), (55, 77), (55, 78), (55, 79), (55, 80), (55, 82), (95, 0), (96, 0), (97, 0), (98, 0)]) := by
  refine (xv_275 (og := og) [a1.toInt] [] τ h _ hH hX ⟨⟨⟨?_, fun q hq => by cases hq⟩, rfl⟩, ⟨rfl, fun k kd hk => by simp [xc_275] at hk⟩, (fun q hq => by cases hq), (fun q hq => by cases hq)⟩ ?_).mono (fun r h' hq => xOQ_of (c := xc_275) (t := 0) rfl hq)
  · intro q hq
    simp only [xc_275, List.mem_cons, List.not_mem_nil, or_false] at hq
    rcases hq with rfl
    · exact ⟨_, rfl, (xb_rng a1).1, (xb_rng a1).2⟩
  · intro q hq
    simp only [xc_275, List.mem_cons, List.not_mem_nil, or_false] at hq
    rcases hq with rfl | rfl
    · exact ⟨_, rfl, rfl⟩
    · exact ⟨_, rfl, a1, rfl, xe_sym (s := 0) rfl⟩
theorem xo_m_fault {og : Nat → Option zm_C} {τ : List Nat} {h : zm_H} (hH : xHI xKT xSG τ h) (hX : xX τ h) : zm_Y og 0 231 0 [(0, .ref 55)] [] h (xOQ τ h 0 0 [(55, 0)]) := by
  refine (xv_276 (og := og) [] [] τ h _ hH hX ⟨⟨⟨?_, fun q hq => by cases hq⟩, rfl⟩, ⟨rfl, fun k kd hk => by simp [xc_276] at hk⟩, (fun q hq => by cases hq), (fun q hq => by cases hq)⟩ ?_).mono (fun r h' hq => xOQ_of (c := xc_276) (t := 0) rfl hq)
  · intro q hq; cases hq
  · intro q hq
    simp only [xc_276, List.mem_cons, List.not_mem_nil, or_false] at hq
    rcases hq with rfl
    · exact ⟨_, rfl, rfl⟩
theorem xo_m_weight {og : Nat → Option zm_C} {τ : List Nat} {h : zm_H} (hH : xHI xKT xSG τ h) (hX : xX τ h) (a1 : Int32) (a2 : Int32) (a3 : Int32) : zm_Y og 48 232 0 [(0, .ref 55), (1, .int a1), (2, .int a2), (3, .int a3)] [] h (xOQ τ h 0 0 [(55, 0), (55, 51), (55, 56), (55, 57), (55, 58), (55, 59), (55, 60), (55, 61), (55, 62), (55, 63), (55, 64), (55, 65), (55, 66), (55, 67), (55, 69), (55, 70), (55, 71), (55, 72), (55, 73), (55, 74), (55, 75), (55, 76), (55, 77), (55, 78), (55, 79), (55, 80)]) := by
  refine (xv_277 (og := og) [a1.toInt, a2.toInt, a3.toInt] [] τ h _ hH hX ⟨⟨⟨?_, fun q hq => by cases hq⟩, rfl⟩, ⟨rfl, fun k kd hk => by simp [xc_277] at hk⟩, (fun q hq => by cases hq), (fun q hq => by cases hq)⟩ ?_).mono (fun r h' hq => xOQ_of (c := xc_277) (t := 0) rfl hq)
  · intro q hq
    simp only [xc_277, List.mem_cons, List.not_mem_nil, or_false] at hq
    rcases hq with rfl | rfl | rfl
    · exact ⟨_, rfl, (xb_rng a1).1, (xb_rng a1).2⟩
    · exact ⟨_, rfl, (xb_rng a2).1, (xb_rng a2).2⟩
    · exact ⟨_, rfl, (xb_rng a3).1, (xb_rng a3).2⟩
  · intro q hq
    simp only [xc_277, List.mem_cons, List.not_mem_nil, or_false] at hq
    rcases hq with rfl | rfl | rfl | rfl
    · exact ⟨_, rfl, rfl⟩
    · exact ⟨_, rfl, a1, rfl, xe_sym (s := 0) rfl⟩
    · exact ⟨_, rfl, a2, rfl, xe_sym (s := 1) rfl⟩
    · exact ⟨_, rfl, a3, rfl, xe_sym (s := 2) rfl⟩
theorem xo_m_counted {og : Nat → Option zm_C} {τ : List Nat} {h : zm_H} (hH : xHI xKT xSG τ h) (hX : xX τ h) (a1 : Int32) (a2 : Int32) (a3 : Int32) : zm_Y og 49 235 0 [(0, .ref 55), (1, .int a1), (2, .int a2), (3, .int a3)] [] h (xOQ τ h 0 0 [(55, 0), (55, 51), (55, 56), (55, 57), (55, 58), (55, 59), (55, 60), (55, 61), (55, 62), (55, 63), (55, 64), (55, 65), (55, 66), (55, 67), (55, 69), (55, 70), (55, 71), (55, 72), (55, 73), (55, 74), (55, 75), (55, 76), (55, 77), (55, 78), (55, 79), (55, 80)]) := by
  refine (xv_278 (og := og) [a1.toInt, a2.toInt, a3.toInt] [] τ h _ hH hX ⟨⟨⟨?_, fun q hq => by cases hq⟩, rfl⟩, ⟨rfl, fun k kd hk => by simp [xc_278] at hk⟩, (fun q hq => by cases hq), (fun q hq => by cases hq)⟩ ?_).mono (fun r h' hq => xOQ_of (c := xc_278) (t := 0) rfl hq)
  · intro q hq
    simp only [xc_278, List.mem_cons, List.not_mem_nil, or_false] at hq
    rcases hq with rfl | rfl | rfl
    · exact ⟨_, rfl, (xb_rng a1).1, (xb_rng a1).2⟩
    · exact ⟨_, rfl, (xb_rng a2).1, (xb_rng a2).2⟩
    · exact ⟨_, rfl, (xb_rng a3).1, (xb_rng a3).2⟩
  · intro q hq
    simp only [xc_278, List.mem_cons, List.not_mem_nil, or_false] at hq
    rcases hq with rfl | rfl | rfl | rfl
    · exact ⟨_, rfl, rfl⟩
    · exact ⟨_, rfl, a1, rfl, xe_sym (s := 0) rfl⟩
    · exact ⟨_, rfl, a2, rfl, xe_sym (s := 1) rfl⟩
    · exact ⟨_, rfl, a3, rfl, xe_sym (s := 2) rfl⟩
theorem xo_m_tax {og : Nat → Option zm_C} {τ : List Nat} {h : zm_H} (hH : xHI xKT xSG τ h) (hX : xX τ h) (a1 : Int32) (a2 : Int32) (a3 : Int32) : zm_Y og 48 238 0 [(0, .ref 55), (1, .int a1), (2, .int a2), (3, .int a3)] [] h (xOQ τ h 1 0 [(55, 0), (55, 51), (55, 56), (55, 57), (55, 58), (55, 59), (55, 60), (55, 61), (55, 62), (55, 63), (55, 64), (55, 65), (55, 66), (55, 67), (55, 69), (55, 70), (55, 71), (55, 72), (55, 73), (55, 74), (55, 75), (55, 76), (55, 77), (55, 78), (55, 79), (55, 80)]) := by
  refine (xv_279 (og := og) [a1.toInt, a2.toInt, a3.toInt] [] τ h _ hH hX ⟨⟨⟨?_, fun q hq => by cases hq⟩, rfl⟩, ⟨rfl, fun k kd hk => by simp [xc_279] at hk⟩, (fun q hq => by cases hq), (fun q hq => by cases hq)⟩ ?_).mono (fun r h' hq => xOQ_of (c := xc_279) (t := 1) rfl hq)
  · intro q hq
    simp only [xc_279, List.mem_cons, List.not_mem_nil, or_false] at hq
    rcases hq with rfl | rfl | rfl
    · exact ⟨_, rfl, (xb_rng a1).1, (xb_rng a1).2⟩
    · exact ⟨_, rfl, (xb_rng a2).1, (xb_rng a2).2⟩
    · exact ⟨_, rfl, (xb_rng a3).1, (xb_rng a3).2⟩
  · intro q hq
    simp only [xc_279, List.mem_cons, List.not_mem_nil, or_false] at hq
    rcases hq with rfl | rfl | rfl | rfl
    · exact ⟨_, rfl, rfl⟩
    · exact ⟨_, rfl, a1, rfl, xe_sym (s := 0) rfl⟩
    · exact ⟨_, rfl, a2, rfl, xe_sym (s := 1) rfl⟩
    · exact ⟨_, rfl, a3, rfl, xe_sym (s := 2) rfl⟩
theorem xo_m_due {og : Nat → Option zm_C} {τ : List Nat} {h : zm_H} (hH : xHI xKT xSG τ h) (hX : xX τ h) (a1 : Int32) : zm_Y og 49 240 0 [(0, .ref 55), (1, .int a1)] [] h (xOQ τ h 1 0 [(55, 0), (55, 51), (55, 56), (55, 57), (55, 58), (55, 59), (55, 60), (55, 61), (55, 62), (55, 63), (55, 64), (55, 65), (55, 66), (55, 67), (55, 69), (55, 70), (55, 71), (55, 72), (55, 73), (55, 74), (55, 75), (55, 76), (55, 77), (55, 78), (55, 79), (55, 80)]) := by
  refine (xv_262 (og := og) [a1.toInt] [] τ h _ hH hX ⟨⟨⟨?_, fun q hq => by cases hq⟩, rfl⟩, ⟨rfl, fun k kd hk => by simp [xc_262] at hk⟩, (fun q hq => by cases hq), (fun q hq => by cases hq)⟩ ?_).mono (fun r h' hq => xOQ_of (c := xc_262) (t := 1) rfl hq)
  · intro q hq
    simp only [xc_262, List.mem_cons, List.not_mem_nil, or_false] at hq
    rcases hq with rfl
    · exact ⟨_, rfl, (xb_rng a1).1, (xb_rng a1).2⟩
  · intro q hq
    simp only [xc_262, List.mem_cons, List.not_mem_nil, or_false] at hq
    rcases hq with rfl | rfl
    · exact ⟨_, rfl, rfl⟩
    · exact ⟨_, rfl, a1, rfl, xe_sym (s := 0) rfl⟩
theorem xo_m_plan {og : Nat → Option zm_C} {τ : List Nat} {h : zm_H} (hH : xHI xKT xSG τ h) (hX : xX τ h) (a1 : Int32) (a2 : Int32) : zm_Y og 49 243 0 [(0, .ref 55), (1, .int a1), (2, .int a2)] [] h (xOQ τ h 1 0 [(55, 0), (55, 51), (55, 56), (55, 57), (55, 58), (55, 59), (55, 60), (55, 61), (55, 62), (55, 63), (55, 64), (55, 65), (55, 66), (55, 67), (55, 69), (55, 70), (55, 71), (55, 72), (55, 73), (55, 74), (55, 75), (55, 76), (55, 77), (55, 78), (55, 79), (55, 80), (55, 82), (55, 83), (55, 84), (100, 0), (101, 0), (102, 0), (103, 0), (104, 0), (105, 0), (106, 0)]) := by
  refine (xv_263 (og := og) [a1.toInt, a2.toInt] [] τ h _ hH hX ⟨⟨⟨?_, fun q hq => by cases hq⟩, rfl⟩, ⟨rfl, fun k kd hk => by simp [xc_263] at hk⟩, (fun q hq => by cases hq), (fun q hq => by cases hq)⟩ ?_).mono (fun r h' hq => xOQ_of (c := xc_263) (t := 1) rfl hq)
  · intro q hq
    simp only [xc_263, List.mem_cons, List.not_mem_nil, or_false] at hq
    rcases hq with rfl | rfl
    · exact ⟨_, rfl, (xb_rng a1).1, (xb_rng a1).2⟩
    · exact ⟨_, rfl, (xb_rng a2).1, (xb_rng a2).2⟩
  · intro q hq
    simp only [xc_263, List.mem_cons, List.not_mem_nil, or_false] at hq
    rcases hq with rfl | rfl | rfl
    · exact ⟨_, rfl, rfl⟩
    · exact ⟨_, rfl, a1, rfl, xe_sym (s := 0) rfl⟩
    · exact ⟨_, rfl, a2, rfl, xe_sym (s := 1) rfl⟩
theorem xo_m_planned {og : Nat → Option zm_C} {τ : List Nat} {h : zm_H} (hH : xHI xKT xSG τ h) (hX : xX τ h) (a1 : Int32) : zm_Y og 1 251 0 [(0, .ref 55), (1, .int a1)] [] h (xOQ τ h 0 0 [(55, 0)]) := by
  refine (xv_264 (og := og) [a1.toInt] [] τ h _ hH hX ⟨⟨⟨?_, fun q hq => by cases hq⟩, rfl⟩, ⟨rfl, fun k kd hk => by simp [xc_264] at hk⟩, (fun q hq => by cases hq), (fun q hq => by cases hq)⟩ ?_).mono (fun r h' hq => xOQ_of (c := xc_264) (t := 0) rfl hq)
  · intro q hq
    simp only [xc_264, List.mem_cons, List.not_mem_nil, or_false] at hq
    rcases hq with rfl
    · exact ⟨_, rfl, (xb_rng a1).1, (xb_rng a1).2⟩
  · intro q hq
    simp only [xc_264, List.mem_cons, List.not_mem_nil, or_false] at hq
    rcases hq with rfl | rfl
    · exact ⟨_, rfl, rfl⟩
    · exact ⟨_, rfl, a1, rfl, xe_sym (s := 0) rfl⟩
theorem xo_m_owner {og : Nat → Option zm_C} {τ : List Nat} {h : zm_H} (hH : xHI xKT xSG τ h) (hX : xX τ h) : zm_Y og 0 252 0 [(0, .ref 55)] [] h (xOQ τ h 0 0 [(55, 0), (55, 82), (75, 0)]) := by
  refine (xv_265 (og := og) [] [] τ h _ hH hX ⟨⟨⟨?_, fun q hq => by cases hq⟩, rfl⟩, ⟨rfl, fun k kd hk => by simp [xc_265] at hk⟩, (fun q hq => by cases hq), (fun q hq => by cases hq)⟩ ?_).mono (fun r h' hq => xOQ_of (c := xc_265) (t := 0) rfl hq)
  · intro q hq; cases hq
  · intro q hq
    simp only [xc_265, List.mem_cons, List.not_mem_nil, or_false] at hq
    rcases hq with rfl
    · exact ⟨_, rfl, rfl⟩
theorem xo_m_held {og : Nat → Option zm_C} {τ : List Nat} {h : zm_H} (hH : xHI xKT xSG τ h) (hX : xX τ h) (a1 : Int32) (a2 : Int32) (a3 : Int32) (a4 : Int32) (a5 : Int32) (a6 : Int32) (b4 : 0 ≤ a4.toInt ∧ a4.toInt ≤ 1) (b5 : 0 ≤ a5.toInt ∧ a5.toInt ≤ 1) (b6 : 0 ≤ a6.toInt ∧ a6.toInt ≤ 1) : zm_Y og 1 253 0 [(0, .ref 55), (1, .int a1), (2, .int a2), (3, .int a3), (4, .int a4), (5, .int a5), (6, .int a6)] [] h (xOQ τ h 0 0 [(55, 0), (55, 7), (55, 82), (79, 0), (80, 0), (81, 0), (82, 0), (83, 0), (84, 0), (85, 0), (86, 0)]) := by
  refine (xv_260 (og := og) [a1.toInt, a2.toInt, a3.toInt, a4.toInt, a5.toInt, a6.toInt] [] τ h _ hH hX ⟨⟨⟨?_, fun q hq => by cases hq⟩, rfl⟩, ⟨rfl, fun k kd hk => by simp [xc_260] at hk⟩, (fun q hq => by cases hq), (fun q hq => by cases hq)⟩ ?_).mono (fun r h' hq => xOQ_of (c := xc_260) (t := 0) rfl hq)
  · intro q hq
    simp only [xc_260, List.mem_cons, List.not_mem_nil, or_false] at hq
    rcases hq with rfl | rfl | rfl | rfl | rfl | rfl
    · exact ⟨_, rfl, (xb_rng a1).1, (xb_rng a1).2⟩
    · exact ⟨_, rfl, (xb_rng a2).1, (xb_rng a2).2⟩
    · exact ⟨_, rfl, (xb_rng a3).1, (xb_rng a3).2⟩
    · exact ⟨_, rfl, b4.1, b4.2⟩
    · exact ⟨_, rfl, b5.1, b5.2⟩
    · exact ⟨_, rfl, b6.1, b6.2⟩
  · intro q hq
    simp only [xc_260, List.mem_cons, List.not_mem_nil, or_false] at hq
    rcases hq with rfl | rfl | rfl | rfl | rfl | rfl | rfl
    · exact ⟨_, rfl, rfl⟩
    · exact ⟨_, rfl, a1, rfl, xe_sym (s := 0) rfl⟩
    · exact ⟨_, rfl, a2, rfl, xe_sym (s := 1) rfl⟩
    · exact ⟨_, rfl, a3, rfl, xe_sym (s := 2) rfl⟩
    · exact ⟨_, rfl, a4, rfl, xe_sym (s := 3) rfl⟩
    · exact ⟨_, rfl, a5, rfl, xe_sym (s := 4) rfl⟩
    · exact ⟨_, rfl, a6, rfl, xe_sym (s := 5) rfl⟩
theorem xo_m_nearest {og : Nat → Option zm_C} {τ : List Nat} {h : zm_H} (hH : xHI xKT xSG τ h) (hX : xX τ h) (a1 : Int32) (a2 : Int32) : zm_Y og 3 255 0 [(0, .ref 55), (1, .int a1), (2, .int a2)] [] h (xOQ τ h 0 0 [(55, 0)]) := by
  refine (xv_280 (og := og) [a1.toInt, a2.toInt] [] τ h _ hH hX ⟨⟨⟨?_, fun q hq => by cases hq⟩, rfl⟩, ⟨rfl, fun k kd hk => by simp [xc_280] at hk⟩, (fun q hq => by cases hq), (fun q hq => by cases hq)⟩ ?_).mono (fun r h' hq => xOQ_of (c := xc_280) (t := 0) rfl hq)
  · intro q hq
    simp only [xc_280, List.mem_cons, List.not_mem_nil, or_false] at hq
    rcases hq with rfl | rfl
    · exact ⟨_, rfl, (xb_rng a1).1, (xb_rng a1).2⟩
    · exact ⟨_, rfl, (xb_rng a2).1, (xb_rng a2).2⟩
  · intro q hq
    simp only [xc_280, List.mem_cons, List.not_mem_nil, or_false] at hq
    rcases hq with rfl | rfl | rfl
    · exact ⟨_, rfl, rfl⟩
    · exact ⟨_, rfl, a1, rfl, xe_sym (s := 0) rfl⟩
    · exact ⟨_, rfl, a2, rfl, xe_sym (s := 1) rfl⟩
theorem xo_m_appeal {og : Nat → Option zm_C} {τ : List Nat} {h : zm_H} (hH : xHI xKT xSG τ h) (hX : xX τ h) (a1 : Int32) (a2 : Int32) : zm_Y og 48 258 0 [(0, .ref 55), (1, .int a1), (2, .int a2)] [] h (xOQ τ h 0 0 [(55, 0), (55, 7), (55, 51), (55, 56), (55, 57), (55, 58), (55, 59), (55, 60), (55, 61), (55, 62), (55, 63), (55, 64), (55, 65), (55, 66), (55, 67), (55, 69), (55, 70), (55, 71), (55, 72), (55, 73), (55, 74), (55, 75), (55, 76), (55, 77), (55, 78), (55, 79), (55, 80), (55, 82), (76, 0), (79, 0), (80, 0), (81, 0), (82, 0), (83, 0), (84, 0), (85, 0), (86, 0)]) := by
  refine (xv_281 (og := og) [a1.toInt, a2.toInt] [] τ h _ hH hX ⟨⟨⟨?_, fun q hq => by cases hq⟩, rfl⟩, ⟨rfl, fun k kd hk => by simp [xc_281] at hk⟩, (fun q hq => by cases hq), (fun q hq => by cases hq)⟩ ?_).mono (fun r h' hq => xOQ_of (c := xc_281) (t := 0) rfl hq)
  · intro q hq
    simp only [xc_281, List.mem_cons, List.not_mem_nil, or_false] at hq
    rcases hq with rfl | rfl
    · exact ⟨_, rfl, (xb_rng a1).1, (xb_rng a1).2⟩
    · exact ⟨_, rfl, (xb_rng a2).1, (xb_rng a2).2⟩
  · intro q hq
    simp only [xc_281, List.mem_cons, List.not_mem_nil, or_false] at hq
    rcases hq with rfl | rfl | rfl
    · exact ⟨_, rfl, rfl⟩
    · exact ⟨_, rfl, a1, rfl, xe_sym (s := 0) rfl⟩
    · exact ⟨_, rfl, a2, rfl, xe_sym (s := 1) rfl⟩
theorem xo_m_overrule {og : Nat → Option zm_C} {τ : List Nat} {h : zm_H} (hH : xHI xKT xSG τ h) (hX : xX τ h) (a1 : Int32) : zm_Y og 1 259 0 [(0, .ref 55), (1, .int a1)] [] h (xOQ τ h 0 0 [(55, 0), (55, 82), (76, 0), (86, 0)]) := by
  refine (xv_261 (og := og) [a1.toInt] [] τ h _ hH hX ⟨⟨⟨?_, fun q hq => by cases hq⟩, rfl⟩, ⟨rfl, fun k kd hk => by simp [xc_261] at hk⟩, (fun q hq => by cases hq), (fun q hq => by cases hq)⟩ ?_).mono (fun r h' hq => xOQ_of (c := xc_261) (t := 0) rfl hq)
  · intro q hq
    simp only [xc_261, List.mem_cons, List.not_mem_nil, or_false] at hq
    rcases hq with rfl
    · exact ⟨_, rfl, (xb_rng a1).1, (xb_rng a1).2⟩
  · intro q hq
    simp only [xc_261, List.mem_cons, List.not_mem_nil, or_false] at hq
    rcases hq with rfl | rfl
    · exact ⟨_, rfl, rfl⟩
    · exact ⟨_, rfl, a1, rfl, xe_sym (s := 0) rfl⟩
theorem xo_m_heldOf {og : Nat → Option zm_C} {τ : List Nat} {h : zm_H} (hH : xHI xKT xSG τ h) (hX : xX τ h) (a1 : Int32) (a2 : Int32) : zm_Y og 1 260 0 [(0, .ref 55), (1, .int a1), (2, .int a2)] [] h (xOQ τ h 0 0 [(55, 0)]) := by
  refine (xv_282 (og := og) [a1.toInt, a2.toInt] [] τ h _ hH hX ⟨⟨⟨?_, fun q hq => by cases hq⟩, rfl⟩, ⟨rfl, fun k kd hk => by simp [xc_282] at hk⟩, (fun q hq => by cases hq), (fun q hq => by cases hq)⟩ ?_).mono (fun r h' hq => xOQ_of (c := xc_282) (t := 0) rfl hq)
  · intro q hq
    simp only [xc_282, List.mem_cons, List.not_mem_nil, or_false] at hq
    rcases hq with rfl | rfl
    · exact ⟨_, rfl, (xb_rng a1).1, (xb_rng a1).2⟩
    · exact ⟨_, rfl, (xb_rng a2).1, (xb_rng a2).2⟩
  · intro q hq
    simp only [xc_282, List.mem_cons, List.not_mem_nil, or_false] at hq
    rcases hq with rfl | rfl | rfl
    · exact ⟨_, rfl, rfl⟩
    · exact ⟨_, rfl, a1, rfl, xe_sym (s := 0) rfl⟩
    · exact ⟨_, rfl, a2, rfl, xe_sym (s := 1) rfl⟩
theorem xo_m_walk {og : Nat → Option zm_C} {τ : List Nat} {h : zm_H} (hH : xHI xKT xSG τ h) (hX : xX τ h) (a1 : Int32) (a2 : Int32) : zm_Y og 56 261 0 [(0, .ref 55), (1, .int a1), (2, .int a2)] [] h (xOQ τ h 0 0 [(55, 0), (55, 8), (55, 51), (55, 56), (55, 57), (55, 58), (55, 59), (55, 60), (55, 61), (55, 62), (55, 63), (55, 64), (55, 65), (55, 66), (55, 67), (55, 68), (55, 69), (55, 70), (55, 71), (55, 72), (55, 73), (55, 74), (55, 75), (55, 76), (55, 77), (55, 78), (55, 79), (55, 80), (87, 0), (88, 0), (89, 0), (90, 0), (91, 0), (92, 0), (93, 0)]) := by
  refine (xv_256 (og := og) [a1.toInt, a2.toInt] [] τ h _ hH hX ⟨⟨⟨?_, fun q hq => by cases hq⟩, rfl⟩, ⟨rfl, fun k kd hk => by simp [xc_256] at hk⟩, (fun q hq => by cases hq), (fun q hq => by cases hq)⟩ ?_).mono (fun r h' hq => xOQ_of (c := xc_256) (t := 0) rfl hq)
  · intro q hq
    simp only [xc_256, List.mem_cons, List.not_mem_nil, or_false] at hq
    rcases hq with rfl | rfl
    · exact ⟨_, rfl, (xb_rng a1).1, (xb_rng a1).2⟩
    · exact ⟨_, rfl, (xb_rng a2).1, (xb_rng a2).2⟩
  · intro q hq
    simp only [xc_256, List.mem_cons, List.not_mem_nil, or_false] at hq
    rcases hq with rfl | rfl | rfl
    · exact ⟨_, rfl, rfl⟩
    · exact ⟨_, rfl, a1, rfl, xe_sym (s := 0) rfl⟩
    · exact ⟨_, rfl, a2, rfl, xe_sym (s := 1) rfl⟩
theorem xo_m_look {og : Nat → Option zm_C} {τ : List Nat} {h : zm_H} (hH : xHI xKT xSG τ h) (hX : xX τ h) (a1 : Int32) (a2 : Int32) : zm_Y og 49 263 0 [(0, .ref 55), (1, .int a1), (2, .int a2)] [] h (xOQ τ h 0 0 [(55, 0), (55, 8), (55, 51), (55, 56), (55, 57), (55, 58), (55, 59), (55, 60), (55, 61), (55, 62), (55, 63), (55, 64), (55, 65), (55, 66), (55, 67), (55, 69), (55, 70), (55, 71), (55, 72), (55, 73), (55, 74), (55, 75), (55, 76), (55, 77), (55, 78), (55, 79), (55, 80), (87, 0), (88, 0), (89, 0), (90, 0), (91, 0), (92, 0)]) := by
  refine (xv_283 (og := og) [a1.toInt, a2.toInt] [] τ h _ hH hX ⟨⟨⟨?_, fun q hq => by cases hq⟩, rfl⟩, ⟨rfl, fun k kd hk => by simp [xc_283] at hk⟩, (fun q hq => by cases hq), (fun q hq => by cases hq)⟩ ?_).mono (fun r h' hq => xOQ_of (c := xc_283) (t := 0) rfl hq)
  · intro q hq
    simp only [xc_283, List.mem_cons, List.not_mem_nil, or_false] at hq
    rcases hq with rfl | rfl
    · exact ⟨_, rfl, (xb_rng a1).1, (xb_rng a1).2⟩
    · exact ⟨_, rfl, (xb_rng a2).1, (xb_rng a2).2⟩
  · intro q hq
    simp only [xc_283, List.mem_cons, List.not_mem_nil, or_false] at hq
    rcases hq with rfl | rfl | rfl
    · exact ⟨_, rfl, rfl⟩
    · exact ⟨_, rfl, a1, rfl, xe_sym (s := 0) rfl⟩
    · exact ⟨_, rfl, a2, rfl, xe_sym (s := 1) rfl⟩
theorem xo_m_route {og : Nat → Option zm_C} {τ : List Nat} {h : zm_H} (hH : xHI xKT xSG τ h) (hX : xX τ h) (a1 : Int32) (a2 : Int32) : zm_Y og 49 265 0 [(0, .ref 55), (1, .int a1), (2, .int a2)] [] h (xOQ τ h 0 0 [(55, 0), (55, 51), (55, 56), (55, 57), (55, 58), (55, 59), (55, 60), (55, 61), (55, 62), (55, 63), (55, 64), (55, 65), (55, 66), (55, 67), (55, 69), (55, 70), (55, 71), (55, 72), (55, 73), (55, 74), (55, 75), (55, 76), (55, 77), (55, 78), (55, 79), (55, 80), (107, 0)]) := by
  refine (xv_284 (og := og) [a1.toInt, a2.toInt] [] τ h _ hH hX ⟨⟨⟨?_, fun q hq => by cases hq⟩, rfl⟩, ⟨rfl, fun k kd hk => by simp [xc_284] at hk⟩, (fun q hq => by cases hq), (fun q hq => by cases hq)⟩ ?_).mono (fun r h' hq => xOQ_of (c := xc_284) (t := 0) rfl hq)
  · intro q hq
    simp only [xc_284, List.mem_cons, List.not_mem_nil, or_false] at hq
    rcases hq with rfl | rfl
    · exact ⟨_, rfl, (xb_rng a1).1, (xb_rng a1).2⟩
    · exact ⟨_, rfl, (xb_rng a2).1, (xb_rng a2).2⟩
  · intro q hq
    simp only [xc_284, List.mem_cons, List.not_mem_nil, or_false] at hq
    rcases hq with rfl | rfl | rfl
    · exact ⟨_, rfl, rfl⟩
    · exact ⟨_, rfl, a1, rfl, xe_sym (s := 0) rfl⟩
    · exact ⟨_, rfl, a2, rfl, xe_sym (s := 1) rfl⟩
theorem xo_m_late {og : Nat → Option zm_C} {τ : List Nat} {h : zm_H} (hH : xHI xKT xSG τ h) (hX : xX τ h) (a1 : Int32) (a2 : Int32) (a3 : Int32) : zm_Y og 2 266 0 [(0, .ref 55), (1, .int a1), (2, .int a2), (3, .int a3)] [] h (xOQ τ h 0 0 [(55, 0), (55, 8), (87, 0), (88, 0), (89, 0), (90, 0), (91, 0), (92, 0)]) := by
  refine (xv_285 (og := og) [a1.toInt, a2.toInt, a3.toInt] [] τ h _ hH hX ⟨⟨⟨?_, fun q hq => by cases hq⟩, rfl⟩, ⟨rfl, fun k kd hk => by simp [xc_285] at hk⟩, (fun q hq => by cases hq), (fun q hq => by cases hq)⟩ ?_).mono (fun r h' hq => xOQ_of (c := xc_285) (t := 0) rfl hq)
  · intro q hq
    simp only [xc_285, List.mem_cons, List.not_mem_nil, or_false] at hq
    rcases hq with rfl | rfl | rfl
    · exact ⟨_, rfl, (xb_rng a1).1, (xb_rng a1).2⟩
    · exact ⟨_, rfl, (xb_rng a2).1, (xb_rng a2).2⟩
    · exact ⟨_, rfl, (xb_rng a3).1, (xb_rng a3).2⟩
  · intro q hq
    simp only [xc_285, List.mem_cons, List.not_mem_nil, or_false] at hq
    rcases hq with rfl | rfl | rfl | rfl
    · exact ⟨_, rfl, rfl⟩
    · exact ⟨_, rfl, a1, rfl, xe_sym (s := 0) rfl⟩
    · exact ⟨_, rfl, a2, rfl, xe_sym (s := 1) rfl⟩
    · exact ⟨_, rfl, a3, rfl, xe_sym (s := 2) rfl⟩
theorem xo_m_go {og : Nat → Option zm_C} {τ : List Nat} {h : zm_H} (hH : xHI xKT xSG τ h) (hX : xX τ h) : zm_Y og 48 267 0 [(0, .ref 55)] [] h (xOQ τ h 1 0 [(55, 0), (55, 5), (55, 51), (55, 56), (55, 57), (55, 58), (55, 59), (55, 60), (55, 61), (55, 62), (55, 63), (55, 64), (55, 65), (55, 66), (55, 67), (55, 69), (55, 70), (55, 71), (55, 72), (55, 73), (55, 74), (55, 75), (55, 76), (55, 77), (55, 78), (55, 79), (55, 80), (55, 82), (70, 0)]) := by
  refine (xv_286 (og := og) [] [] τ h _ hH hX ⟨⟨⟨?_, fun q hq => by cases hq⟩, rfl⟩, ⟨rfl, fun k kd hk => by simp [xc_286] at hk⟩, (fun q hq => by cases hq), (fun q hq => by cases hq)⟩ ?_).mono (fun r h' hq => xOQ_of (c := xc_286) (t := 1) rfl hq)
  · intro q hq; cases hq
  · intro q hq
    simp only [xc_286, List.mem_cons, List.not_mem_nil, or_false] at hq
    rcases hq with rfl
    · exact ⟨_, rfl, rfl⟩
theorem xo_m_roll {og : Nat → Option zm_C} {τ : List Nat} {h : zm_H} (hH : xHI xKT xSG τ h) (hX : xX τ h) (a1 : Int32) (a2 : Int32) (a3 : Int32) (a4 : Int32) : zm_Y og 2 269 0 [(0, .ref 55), (1, .int a1), (2, .int a2), (3, .int a3), (4, .int a4)] [] h (xOQ τ h 0 0 [(55, 0)]) := by
  refine (xv_287 (og := og) [a1.toInt, a2.toInt, a3.toInt, a4.toInt] [] τ h _ hH hX ⟨⟨⟨?_, fun q hq => by cases hq⟩, rfl⟩, ⟨rfl, fun k kd hk => by simp [xc_287] at hk⟩, (fun q hq => by cases hq), (fun q hq => by cases hq)⟩ ?_).mono (fun r h' hq => xOQ_of (c := xc_287) (t := 0) rfl hq)
  · intro q hq
    simp only [xc_287, List.mem_cons, List.not_mem_nil, or_false] at hq
    rcases hq with rfl | rfl | rfl | rfl
    · exact ⟨_, rfl, (xb_rng a1).1, (xb_rng a1).2⟩
    · exact ⟨_, rfl, (xb_rng a2).1, (xb_rng a2).2⟩
    · exact ⟨_, rfl, (xb_rng a3).1, (xb_rng a3).2⟩
    · exact ⟨_, rfl, (xb_rng a4).1, (xb_rng a4).2⟩
  · intro q hq
    simp only [xc_287, List.mem_cons, List.not_mem_nil, or_false] at hq
    rcases hq with rfl | rfl | rfl | rfl | rfl
    · exact ⟨_, rfl, rfl⟩
    · exact ⟨_, rfl, a1, rfl, xe_sym (s := 0) rfl⟩
    · exact ⟨_, rfl, a2, rfl, xe_sym (s := 1) rfl⟩
    · exact ⟨_, rfl, a3, rfl, xe_sym (s := 2) rfl⟩
    · exact ⟨_, rfl, a4, rfl, xe_sym (s := 3) rfl⟩
theorem xo_m_span {og : Nat → Option zm_C} {τ : List Nat} {h : zm_H} (hH : xHI xKT xSG τ h) (hX : xX τ h) (a1 : Int32) (a2 : Int32) (a3 : Int32) (a4 : Int32) : zm_Y og 2 270 0 [(0, .ref 55), (1, .int a1), (2, .int a2), (3, .int a3), (4, .int a4)] [] h (xOQ τ h 0 0 [(55, 0), (108, 0)]) := by
  refine (xv_288 (og := og) [a1.toInt, a2.toInt, a3.toInt, a4.toInt] [] τ h _ hH hX ⟨⟨⟨?_, fun q hq => by cases hq⟩, rfl⟩, ⟨rfl, fun k kd hk => by simp [xc_288] at hk⟩, (fun q hq => by cases hq), (fun q hq => by cases hq)⟩ ?_).mono (fun r h' hq => xOQ_of (c := xc_288) (t := 0) rfl hq)
  · intro q hq
    simp only [xc_288, List.mem_cons, List.not_mem_nil, or_false] at hq
    rcases hq with rfl | rfl | rfl | rfl
    · exact ⟨_, rfl, (xb_rng a1).1, (xb_rng a1).2⟩
    · exact ⟨_, rfl, (xb_rng a2).1, (xb_rng a2).2⟩
    · exact ⟨_, rfl, (xb_rng a3).1, (xb_rng a3).2⟩
    · exact ⟨_, rfl, (xb_rng a4).1, (xb_rng a4).2⟩
  · intro q hq
    simp only [xc_288, List.mem_cons, List.not_mem_nil, or_false] at hq
    rcases hq with rfl | rfl | rfl | rfl | rfl
    · exact ⟨_, rfl, rfl⟩
    · exact ⟨_, rfl, a1, rfl, xe_sym (s := 0) rfl⟩
    · exact ⟨_, rfl, a2, rfl, xe_sym (s := 1) rfl⟩
    · exact ⟨_, rfl, a3, rfl, xe_sym (s := 2) rfl⟩
    · exact ⟨_, rfl, a4, rfl, xe_sym (s := 3) rfl⟩
theorem xo_m_habit {og : Nat → Option zm_C} {τ : List Nat} {h : zm_H} (hH : xHI xKT xSG τ h) (hX : xX τ h) (a1 : Int32) (a2 : Int32) (a3 : Int32) : zm_Y og 1 271 0 [(0, .ref 55), (1, .int a1), (2, .int a2), (3, .int a3)] [] h (xOQ τ h 0 0 [(55, 0)]) := by
  refine (xv_289 (og := og) [a1.toInt, a2.toInt, a3.toInt] [] τ h _ hH hX ⟨⟨⟨?_, fun q hq => by cases hq⟩, rfl⟩, ⟨rfl, fun k kd hk => by simp [xc_289] at hk⟩, (fun q hq => by cases hq), (fun q hq => by cases hq)⟩ ?_).mono (fun r h' hq => xOQ_of (c := xc_289) (t := 0) rfl hq)
  · intro q hq
    simp only [xc_289, List.mem_cons, List.not_mem_nil, or_false] at hq
    rcases hq with rfl | rfl | rfl
    · exact ⟨_, rfl, (xb_rng a1).1, (xb_rng a1).2⟩
    · exact ⟨_, rfl, (xb_rng a2).1, (xb_rng a2).2⟩
    · exact ⟨_, rfl, (xb_rng a3).1, (xb_rng a3).2⟩
  · intro q hq
    simp only [xc_289, List.mem_cons, List.not_mem_nil, or_false] at hq
    rcases hq with rfl | rfl | rfl | rfl
    · exact ⟨_, rfl, rfl⟩
    · exact ⟨_, rfl, a1, rfl, xe_sym (s := 0) rfl⟩
    · exact ⟨_, rfl, a2, rfl, xe_sym (s := 1) rfl⟩
    · exact ⟨_, rfl, a3, rfl, xe_sym (s := 2) rfl⟩
theorem xo_m_ask {og : Nat → Option zm_C} {τ : List Nat} {h : zm_H} (hH : xHI xKT xSG τ h) (hX : xX τ h) (a1 : Int32) : zm_Y og 48 272 0 [(0, .ref 55), (1, .int a1)] [] h (xOQ τ h 0 0 [(55, 0), (55, 50), (55, 51), (55, 56), (55, 57), (55, 58), (55, 59), (55, 60), (55, 61), (55, 62), (55, 63), (55, 64), (55, 65), (55, 66), (55, 67), (55, 68), (55, 69), (55, 70), (55, 71), (55, 72), (55, 73), (55, 74), (55, 75), (55, 76), (55, 77), (55, 78), (55, 79), (55, 80), (55, 100), (55, 101), (55, 102), (55, 103), (55, 104), (55, 105), (95, 0), (96, 0), (99, 0), (109, 0), (110, 0), (111, 0), (112, 0), (113, 0), (114, 0)]) := by
  refine (xv_290 (og := og) [a1.toInt] [] τ h _ hH hX ⟨⟨⟨?_, fun q hq => by cases hq⟩, rfl⟩, ⟨rfl, fun k kd hk => by simp [xc_290] at hk⟩, (fun q hq => by cases hq), (fun q hq => by cases hq)⟩ ?_).mono (fun r h' hq => xOQ_of (c := xc_290) (t := 0) rfl hq)
  · intro q hq
    simp only [xc_290, List.mem_cons, List.not_mem_nil, or_false] at hq
    rcases hq with rfl
    · exact ⟨_, rfl, (xb_rng a1).1, (xb_rng a1).2⟩
  · intro q hq
    simp only [xc_290, List.mem_cons, List.not_mem_nil, or_false] at hq
    rcases hq with rfl | rfl
    · exact ⟨_, rfl, rfl⟩
    · exact ⟨_, rfl, a1, rfl, xe_sym (s := 0) rfl⟩
theorem xo_m_answer {og : Nat → Option zm_C} {τ : List Nat} {h : zm_H} (hH : xHI xKT xSG τ h) (hX : xX τ h) (a1 : Int32) (a2 : Int32) : zm_Y og 1 275 0 [(0, .ref 55), (1, .int a1), (2, .int a2)] [] h (xOQ τ h 1 0 [(55, 0)]) := by
  refine (xv_291 (og := og) [a1.toInt, a2.toInt] [] τ h _ hH hX ⟨⟨⟨?_, fun q hq => by cases hq⟩, rfl⟩, ⟨rfl, fun k kd hk => by simp [xc_291] at hk⟩, (fun q hq => by cases hq), (fun q hq => by cases hq)⟩ ?_).mono (fun r h' hq => xOQ_of (c := xc_291) (t := 1) rfl hq)
  · intro q hq
    simp only [xc_291, List.mem_cons, List.not_mem_nil, or_false] at hq
    rcases hq with rfl | rfl
    · exact ⟨_, rfl, (xb_rng a1).1, (xb_rng a1).2⟩
    · exact ⟨_, rfl, (xb_rng a2).1, (xb_rng a2).2⟩
  · intro q hq
    simp only [xc_291, List.mem_cons, List.not_mem_nil, or_false] at hq
    rcases hq with rfl | rfl | rfl
    · exact ⟨_, rfl, rfl⟩
    · exact ⟨_, rfl, a1, rfl, xe_sym (s := 0) rfl⟩
    · exact ⟨_, rfl, a2, rfl, xe_sym (s := 1) rfl⟩
theorem xo_m_match {og : Nat → Option zm_C} {τ : List Nat} {h : zm_H} (hH : xHI xKT xSG τ h) (hX : xX τ h) (a1 : Int32) (a2 : Int32) (a3 : Int32) : zm_Y og 12 276 0 [(0, .ref 55), (1, .int a1), (2, .int a2), (3, .int a3)] [] h (xOQ τ h 0 0 [(55, 0), (55, 108), (115, 0), (116, 0)]) := by
  refine (xv_257 (og := og) [a1.toInt, a2.toInt, a3.toInt] [] τ h _ hH hX ⟨⟨⟨?_, fun q hq => by cases hq⟩, rfl⟩, ⟨rfl, fun k kd hk => by simp [xc_257] at hk⟩, (fun q hq => by cases hq), (fun q hq => by cases hq)⟩ ?_).mono (fun r h' hq => xOQ_of (c := xc_257) (t := 0) rfl hq)
  · intro q hq
    simp only [xc_257, List.mem_cons, List.not_mem_nil, or_false] at hq
    rcases hq with rfl | rfl | rfl
    · exact ⟨_, rfl, (xb_rng a1).1, (xb_rng a1).2⟩
    · exact ⟨_, rfl, (xb_rng a2).1, (xb_rng a2).2⟩
    · exact ⟨_, rfl, (xb_rng a3).1, (xb_rng a3).2⟩
  · intro q hq
    simp only [xc_257, List.mem_cons, List.not_mem_nil, or_false] at hq
    rcases hq with rfl | rfl | rfl | rfl
    · exact ⟨_, rfl, rfl⟩
    · exact ⟨_, rfl, a1, rfl, xe_sym (s := 0) rfl⟩
    · exact ⟨_, rfl, a2, rfl, xe_sym (s := 1) rfl⟩
    · exact ⟨_, rfl, a3, rfl, xe_sym (s := 2) rfl⟩
theorem xo_m_matched {og : Nat → Option zm_C} {τ : List Nat} {h : zm_H} (hH : xHI xKT xSG τ h) (hX : xX τ h) (a1 : Int32) : zm_Y og 1 278 0 [(0, .ref 55), (1, .int a1)] [] h (xOQ τ h 0 0 [(55, 0)]) := by
  refine (xv_292 (og := og) [a1.toInt] [] τ h _ hH hX ⟨⟨⟨?_, fun q hq => by cases hq⟩, rfl⟩, ⟨rfl, fun k kd hk => by simp [xc_292] at hk⟩, (fun q hq => by cases hq), (fun q hq => by cases hq)⟩ ?_).mono (fun r h' hq => xOQ_of (c := xc_292) (t := 0) rfl hq)
  · intro q hq
    simp only [xc_292, List.mem_cons, List.not_mem_nil, or_false] at hq
    rcases hq with rfl
    · exact ⟨_, rfl, (xb_rng a1).1, (xb_rng a1).2⟩
  · intro q hq
    simp only [xc_292, List.mem_cons, List.not_mem_nil, or_false] at hq
    rcases hq with rfl | rfl
    · exact ⟨_, rfl, rfl⟩
    · exact ⟨_, rfl, a1, rfl, xe_sym (s := 0) rfl⟩
theorem xo_m_beside {og : Nat → Option zm_C} {τ : List Nat} {h : zm_H} (hH : xHI xKT xSG τ h) (hX : xX τ h) (a1 : Int32) (a2 : Int32) : zm_Y og 49 279 0 [(0, .ref 55), (1, .int a1), (2, .int a2)] [] h (xOQ τ h 1 0 [(55, 0), (55, 50), (55, 51), (55, 56), (55, 57), (55, 58), (55, 59), (55, 60), (55, 61), (55, 62), (55, 63), (55, 64), (55, 65), (55, 66), (55, 67), (55, 69), (55, 70), (55, 71), (55, 72), (55, 73), (55, 74), (55, 75), (55, 76), (55, 77), (55, 78), (55, 79), (55, 80), (95, 0), (96, 0), (101, 0), (102, 0), (103, 0), (104, 0), (105, 0), (106, 0)]) := by
  refine (xv_293 (og := og) [a1.toInt, a2.toInt] [] τ h _ hH hX ⟨⟨⟨?_, fun q hq => by cases hq⟩, rfl⟩, ⟨rfl, fun k kd hk => by simp [xc_293] at hk⟩, (fun q hq => by cases hq), (fun q hq => by cases hq)⟩ ?_).mono (fun r h' hq => xOQ_of (c := xc_293) (t := 1) rfl hq)
  · intro q hq
    simp only [xc_293, List.mem_cons, List.not_mem_nil, or_false] at hq
    rcases hq with rfl | rfl
    · exact ⟨_, rfl, (xb_rng a1).1, (xb_rng a1).2⟩
    · exact ⟨_, rfl, (xb_rng a2).1, (xb_rng a2).2⟩
  · intro q hq
    simp only [xc_293, List.mem_cons, List.not_mem_nil, or_false] at hq
    rcases hq with rfl | rfl | rfl
    · exact ⟨_, rfl, rfl⟩
    · exact ⟨_, rfl, a1, rfl, xe_sym (s := 0) rfl⟩
    · exact ⟨_, rfl, a2, rfl, xe_sym (s := 1) rfl⟩
theorem xo_m_heap {og : Nat → Option zm_C} {τ : List Nat} {h : zm_H} (hH : xHI xKT xSG τ h) (hX : xX τ h) (a1 : Int32) : zm_Y og 49 280 0 [(0, .ref 55), (1, .int a1)] [] h (xOQ τ h 0 0 [(55, 0), (55, 51), (55, 56), (55, 57), (55, 58), (55, 59), (55, 60), (55, 61), (55, 62), (55, 63), (55, 64), (55, 65), (55, 66), (55, 67), (55, 69), (55, 70), (55, 71), (55, 72), (55, 73), (55, 74), (55, 75), (55, 76), (55, 77), (55, 78), (55, 79), (55, 80)]) := by
  refine (xv_294 (og := og) [a1.toInt] [] τ h _ hH hX ⟨⟨⟨?_, fun q hq => by cases hq⟩, rfl⟩, ⟨rfl, fun k kd hk => by simp [xc_294] at hk⟩, (fun q hq => by cases hq), (fun q hq => by cases hq)⟩ ?_).mono (fun r h' hq => xOQ_of (c := xc_294) (t := 0) rfl hq)
  · intro q hq
    simp only [xc_294, List.mem_cons, List.not_mem_nil, or_false] at hq
    rcases hq with rfl
    · exact ⟨_, rfl, (xb_rng a1).1, (xb_rng a1).2⟩
  · intro q hq
    simp only [xc_294, List.mem_cons, List.not_mem_nil, or_false] at hq
    rcases hq with rfl | rfl
    · exact ⟨_, rfl, rfl⟩
    · exact ⟨_, rfl, a1, rfl, xe_sym (s := 0) rfl⟩
theorem xo_m_houseOf {og : Nat → Option zm_C} {τ : List Nat} {h : zm_H} (hH : xHI xKT xSG τ h) (hX : xX τ h) (a1 : Int32) (a2 : Int32) : zm_Y og 13 281 0 [(0, .ref 55), (1, .int a1), (2, .int a2)] [] h (xOQ τ h 0 0 [(55, 0)]) := by
  refine (xv_295 (og := og) [a1.toInt, a2.toInt] [] τ h _ hH hX ⟨⟨⟨?_, fun q hq => by cases hq⟩, rfl⟩, ⟨rfl, fun k kd hk => by simp [xc_295] at hk⟩, (fun q hq => by cases hq), (fun q hq => by cases hq)⟩ ?_).mono (fun r h' hq => xOQ_of (c := xc_295) (t := 0) rfl hq)
  · intro q hq
    simp only [xc_295, List.mem_cons, List.not_mem_nil, or_false] at hq
    rcases hq with rfl | rfl
    · exact ⟨_, rfl, (xb_rng a1).1, (xb_rng a1).2⟩
    · exact ⟨_, rfl, (xb_rng a2).1, (xb_rng a2).2⟩
  · intro q hq
    simp only [xc_295, List.mem_cons, List.not_mem_nil, or_false] at hq
    rcases hq with rfl | rfl | rfl
    · exact ⟨_, rfl, rfl⟩
    · exact ⟨_, rfl, a1, rfl, xe_sym (s := 0) rfl⟩
    · exact ⟨_, rfl, a2, rfl, xe_sym (s := 1) rfl⟩
theorem xo_m_opening {og : Nat → Option zm_C} {τ : List Nat} {h : zm_H} (hH : xHI xKT xSG τ h) (hX : xX τ h) (a1 : Int32) (a2 : Int32) (a3 : Int32) : zm_Y og 3 282 0 [(0, .ref 55), (1, .int a1), (2, .int a2), (3, .int a3)] [] h (xOQ τ h 0 0 [(55, 0)]) := by
  refine (xv_296 (og := og) [a1.toInt, a2.toInt, a3.toInt] [] τ h _ hH hX ⟨⟨⟨?_, fun q hq => by cases hq⟩, rfl⟩, ⟨rfl, fun k kd hk => by simp [xc_296] at hk⟩, (fun q hq => by cases hq), (fun q hq => by cases hq)⟩ ?_).mono (fun r h' hq => xOQ_of (c := xc_296) (t := 0) rfl hq)
  · intro q hq
    simp only [xc_296, List.mem_cons, List.not_mem_nil, or_false] at hq
    rcases hq with rfl | rfl | rfl
    · exact ⟨_, rfl, (xb_rng a1).1, (xb_rng a1).2⟩
    · exact ⟨_, rfl, (xb_rng a2).1, (xb_rng a2).2⟩
    · exact ⟨_, rfl, (xb_rng a3).1, (xb_rng a3).2⟩
  · intro q hq
    simp only [xc_296, List.mem_cons, List.not_mem_nil, or_false] at hq
    rcases hq with rfl | rfl | rfl | rfl
    · exact ⟨_, rfl, rfl⟩
    · exact ⟨_, rfl, a1, rfl, xe_sym (s := 0) rfl⟩
    · exact ⟨_, rfl, a2, rfl, xe_sym (s := 1) rfl⟩
    · exact ⟨_, rfl, a3, rfl, xe_sym (s := 2) rfl⟩
theorem xo_m_paid {og : Nat → Option zm_C} {τ : List Nat} {h : zm_H} (hH : xHI xKT xSG τ h) (hX : xX τ h) (a1 : Int32) : zm_Y og 2 283 0 [(0, .ref 55), (1, .int a1)] [] h (xOQ τ h 1 0 [(55, 0)]) := by
  refine (xv_297 (og := og) [a1.toInt] [] τ h _ hH hX ⟨⟨⟨?_, fun q hq => by cases hq⟩, rfl⟩, ⟨rfl, fun k kd hk => by simp [xc_297] at hk⟩, (fun q hq => by cases hq), (fun q hq => by cases hq)⟩ ?_).mono (fun r h' hq => xOQ_of (c := xc_297) (t := 1) rfl hq)
  · intro q hq
    simp only [xc_297, List.mem_cons, List.not_mem_nil, or_false] at hq
    rcases hq with rfl
    · exact ⟨_, rfl, (xb_rng a1).1, (xb_rng a1).2⟩
  · intro q hq
    simp only [xc_297, List.mem_cons, List.not_mem_nil, or_false] at hq
    rcases hq with rfl | rfl
    · exact ⟨_, rfl, rfl⟩
    · exact ⟨_, rfl, a1, rfl, xe_sym (s := 0) rfl⟩
theorem xo_m_count {og : Nat → Option zm_C} {τ : List Nat} {h : zm_H} (hH : xHI xKT xSG τ h) (hX : xX τ h) (a1 : Int32) : zm_Y og 12 284 0 [(0, .ref 55), (1, .int a1)] [] h (xOQ τ h 0 0 [(55, 0)]) := by
  refine (xv_258 (og := og) [a1.toInt] [] τ h _ hH hX ⟨⟨⟨?_, fun q hq => by cases hq⟩, rfl⟩, ⟨rfl, fun k kd hk => by simp [xc_258] at hk⟩, (fun q hq => by cases hq), (fun q hq => by cases hq)⟩ ?_).mono (fun r h' hq => xOQ_of (c := xc_258) (t := 0) rfl hq)
  · intro q hq
    simp only [xc_258, List.mem_cons, List.not_mem_nil, or_false] at hq
    rcases hq with rfl
    · exact ⟨_, rfl, (xb_rng a1).1, (xb_rng a1).2⟩
  · intro q hq
    simp only [xc_258, List.mem_cons, List.not_mem_nil, or_false] at hq
    rcases hq with rfl | rfl
    · exact ⟨_, rfl, rfl⟩
    · exact ⟨_, rfl, a1, rfl, xe_sym (s := 0) rfl⟩
theorem xo_m_row {og : Nat → Option zm_C} {τ : List Nat} {h : zm_H} (hH : xHI xKT xSG τ h) (hX : xX τ h) (a1 : Int32) (a2 : Int32) (a3 : Int32) : zm_Y og 2 181 0 [(0, .ref 55), (1, .int a1), (2, .int a2), (3, .int a3)] [] h (xOQ τ h 0 0 [(55, 0), (56, 0), (57, 0), (58, 0)]) := by
  refine (xv_298 (og := og) [a1.toInt, a2.toInt, a3.toInt] [] τ h _ hH hX ⟨⟨⟨?_, fun q hq => by cases hq⟩, rfl⟩, ⟨rfl, fun k kd hk => by simp [xc_298] at hk⟩, (fun q hq => by cases hq), (fun q hq => by cases hq)⟩ ?_).mono (fun r h' hq => xOQ_of (c := xc_298) (t := 0) rfl hq)
  · intro q hq
    simp only [xc_298, List.mem_cons, List.not_mem_nil, or_false] at hq
    rcases hq with rfl | rfl | rfl
    · exact ⟨_, rfl, (xb_rng a1).1, (xb_rng a1).2⟩
    · exact ⟨_, rfl, (xb_rng a2).1, (xb_rng a2).2⟩
    · exact ⟨_, rfl, (xb_rng a3).1, (xb_rng a3).2⟩
  · intro q hq
    simp only [xc_298, List.mem_cons, List.not_mem_nil, or_false] at hq
    rcases hq with rfl | rfl | rfl | rfl
    · exact ⟨_, rfl, rfl⟩
    · exact ⟨_, rfl, a1, rfl, xe_sym (s := 0) rfl⟩
    · exact ⟨_, rfl, a2, rfl, xe_sym (s := 1) rfl⟩
    · exact ⟨_, rfl, a3, rfl, xe_sym (s := 2) rfl⟩
theorem xo_m_tear {og : Nat → Option zm_C} {τ : List Nat} {h : zm_H} (hH : xHI xKT xSG τ h) (hX : xX τ h) (a1 : Int32) : zm_Y og 2 184 0 [(0, .ref 55), (1, .int a1)] [] h (xOQ τ h 0 0 [(55, 0), (56, 0)]) := by
  refine (xv_299 (og := og) [a1.toInt] [] τ h _ hH hX ⟨⟨⟨?_, fun q hq => by cases hq⟩, rfl⟩, ⟨rfl, fun k kd hk => by simp [xc_299] at hk⟩, (fun q hq => by cases hq), (fun q hq => by cases hq)⟩ ?_).mono (fun r h' hq => xOQ_of (c := xc_299) (t := 0) rfl hq)
  · intro q hq
    simp only [xc_299, List.mem_cons, List.not_mem_nil, or_false] at hq
    rcases hq with rfl
    · exact ⟨_, rfl, (xb_rng a1).1, (xb_rng a1).2⟩
  · intro q hq
    simp only [xc_299, List.mem_cons, List.not_mem_nil, or_false] at hq
    rcases hq with rfl | rfl
    · exact ⟨_, rfl, rfl⟩
    · exact ⟨_, rfl, a1, rfl, xe_sym (s := 0) rfl⟩
theorem xo_m_write {og : Nat → Option zm_C} {τ : List Nat} {h : zm_H} (hH : xHI xKT xSG τ h) (hX : xX τ h) (a1 : Int32) (a2 : Int32) (a3 : Int64) : zm_Y og 2 185 0 [(0, .ref 55), (1, .int a1), (2, .int a2), (3, .long a3)] [] h (xOQ τ h 0 0 [(55, 0), (58, 0)]) := by
  refine (xv_300 (og := og) [a1.toInt, a2.toInt, a3.toInt] [] τ h _ hH hX ⟨⟨⟨?_, fun q hq => by cases hq⟩, rfl⟩, ⟨rfl, fun k kd hk => by simp [xc_300] at hk⟩, (fun q hq => by cases hq), (fun q hq => by cases hq)⟩ ?_).mono (fun r h' hq => xOQ_of (c := xc_300) (t := 0) rfl hq)
  · intro q hq
    simp only [xc_300, List.mem_cons, List.not_mem_nil, or_false] at hq
    rcases hq with rfl | rfl | rfl
    · exact ⟨_, rfl, (xb_rng a1).1, (xb_rng a1).2⟩
    · exact ⟨_, rfl, (xb_rng a2).1, (xb_rng a2).2⟩
    · exact ⟨_, rfl, (xb_rngL a3).1, (xb_rngL a3).2⟩
  · intro q hq
    simp only [xc_300, List.mem_cons, List.not_mem_nil, or_false] at hq
    rcases hq with rfl | rfl | rfl | rfl
    · exact ⟨_, rfl, rfl⟩
    · exact ⟨_, rfl, a1, rfl, xe_sym (s := 0) rfl⟩
    · exact ⟨_, rfl, a2, rfl, xe_sym (s := 1) rfl⟩
    · exact ⟨_, rfl, a3, rfl, xe_sym (s := 2) rfl⟩
theorem xo_m_paste {og : Nat → Option zm_C} {τ : List Nat} {h : zm_H} (hH : xHI xKT xSG τ h) (hX : xX τ h) (a1 : Int32) (a2 : Int32) (a3 : Int32) (a4 : Int32) (a5 : Int32) : zm_Y og 2 187 0 [(0, .ref 55), (1, .int a1), (2, .int a2), (3, .int a3), (4, .int a4), (5, .int a5)] [] h (xOQ τ h 0 0 [(55, 0), (58, 0), (59, 0)]) := by
  refine (xv_301 (og := og) [a1.toInt, a2.toInt, a3.toInt, a4.toInt, a5.toInt] [] τ h _ hH hX ⟨⟨⟨?_, fun q hq => by cases hq⟩, rfl⟩, ⟨rfl, fun k kd hk => by simp [xc_301] at hk⟩, (fun q hq => by cases hq), (fun q hq => by cases hq)⟩ ?_).mono (fun r h' hq => xOQ_of (c := xc_301) (t := 0) rfl hq)
  · intro q hq
    simp only [xc_301, List.mem_cons, List.not_mem_nil, or_false] at hq
    rcases hq with rfl | rfl | rfl | rfl | rfl
    · exact ⟨_, rfl, (xb_rng a1).1, (xb_rng a1).2⟩
    · exact ⟨_, rfl, (xb_rng a2).1, (xb_rng a2).2⟩
    · exact ⟨_, rfl, (xb_rng a3).1, (xb_rng a3).2⟩
    · exact ⟨_, rfl, (xb_rng a4).1, (xb_rng a4).2⟩
    · exact ⟨_, rfl, (xb_rng a5).1, (xb_rng a5).2⟩
  · intro q hq
    simp only [xc_301, List.mem_cons, List.not_mem_nil, or_false] at hq
    rcases hq with rfl | rfl | rfl | rfl | rfl | rfl
    · exact ⟨_, rfl, rfl⟩
    · exact ⟨_, rfl, a1, rfl, xe_sym (s := 0) rfl⟩
    · exact ⟨_, rfl, a2, rfl, xe_sym (s := 1) rfl⟩
    · exact ⟨_, rfl, a3, rfl, xe_sym (s := 2) rfl⟩
    · exact ⟨_, rfl, a4, rfl, xe_sym (s := 3) rfl⟩
    · exact ⟨_, rfl, a5, rfl, xe_sym (s := 4) rfl⟩
