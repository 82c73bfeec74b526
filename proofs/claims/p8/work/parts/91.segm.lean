/-! The pieces of match, about Int32s (made by a program) -/
theorem xq_xs_m1 {og : Nat → Option zm_C} {τ : List Nat} {h : zm_H} {Q : Option Value → zm_H → Prop} {a b g i j sa sb : Int32} (hH : xHI xKT xSG τ h) (hX : xX τ h) (i0 : 0 ≤ a.toInt ∧ a.toInt ≤ 3) (i1 : 0 ≤ b.toInt ∧ b.toInt ≤ 3) (i2 : 0 ≤ g.toInt ∧ g.toInt ≤ 1000) (i3 : 0 ≤ i.toInt ∧ i.toInt ≤ 60) (i4 : 0 ≤ j.toInt ∧ j.toInt ≤ 60) (i5 : 0 ≤ sa.toInt ∧ sa.toInt ≤ 60) (i6 : 0 ≤ sb.toInt ∧ sb.toInt ≤ 60) (c0 : 0 ≤ (0 : Int) + (1 * sa.toInt + ((-1) * i.toInt + 0))) (c1 : 0 ≤ (0 : Int) + (1 * sb.toInt + ((-1) * j.toInt + 0))) (m0 : ∃ (n : Nat) (v : Int32), (0 : Int) + (1 * a.toInt + 0) = (n : Int) ∧ xar h 57 n = some (.int v) ∧ (0 : Int) + (1 * sa.toInt + 0) = v.toInt) (m1 : ∃ (n : Nat) (v : Int32), (0 : Int) + (1 * b.toInt + 0) = (n : Int) ∧ xar h 57 n = some (.int v) ∧ (0 : Int) + (1 * sb.toInt + 0) = v.toInt)
    (k0 : ∀ (τ1 : List Nat) (h1 : zm_H) (x7 : Int) (v6 : Int32), xHI xKT xSG τ1 h1 → xX τ1 h1 → xF (xms []) τ h τ1 h1 → xW h1 ≤ xW h → (-2147483648) ≤ x7 → x7 ≤ 2147483647 → (0 : Int) + (1 * x7 + 0) = v6.toInt → zm_Y og 12 276 328 [(0, .ref 55), (1, .int a), (2, .int b), (3, .int g), (4, .int i), (5, .int j), (6, .int v6)] [] h1 Q) : zm_Y og 12 276 161 [(0, .ref 55), (1, .int a), (2, .int b), (3, .int g), (4, .int i), (5, .int j)] [] h Q := by
  refine xsegq_ok (V := xVV) (X := xX) (W := xW) (og := og) (E := []) (Eo := xs_m1_o) (c := xs_m1) (s := xs_m1_s) (MT := xs_m1_m) (CT := xs_m1_u) (by
    simp only [xs_m1_m, List.forall_mem_cons]
    exact ⟨rfl, rfl, rfl, fun _ h => by cases h⟩) (fun _ h => by cases h) xFl_good xXW_ok xs_m1_ok (fun e he => by cases he) rfl (ρ := [a.toInt, b.toInt, g.toInt, i.toInt, j.toInt, sa.toInt, sb.toInt]) (r0 := []) (σ := []) (s0 := []) (τ := τ) (h := h) (lc := [(0, .ref 55), (1, .int a), (2, .int b), (3, .int g), (4, .int i), (5, .int j)]) (sc := []) (fun r h' hq => by
    obtain ⟨_, _, _, _, _, p, hp, _⟩ := hq
    cases hp) rfl rfl ?_ hH hX ?_ ?_ trivial
  · intro e he r s' τ1 h1 lc sc hH1 hX1 hF1 hW1 hD1 hl1 hs1
    have he := List.mem_singleton.mp he
    subst he
    have hs1 := xsk_nil hs1
    subst hs1
    have hlen : ([a.toInt, b.toInt, g.toInt, i.toInt, j.toInt, sa.toInt, sb.toInt] ++ r).length = 8 := hD1.1.2.symm
    obtain ⟨x7, rfl⟩ : ∃ x7, r = [x7] := by
      match r, hlen with
      | [x7], _ => exact ⟨x7, rfl⟩
    obtain ⟨y7, z7, l7, u7⟩ := hD1.1.1.1 _ (List.mem_cons_of_mem _ (List.mem_cons_of_mem _ (List.mem_cons_of_mem _ (List.mem_cons_of_mem _ (List.mem_cons_of_mem _ (List.mem_cons_of_mem _ (List.mem_cons_of_mem _ List.mem_cons_self)))))))
    have z7 : some x7 = some y7 := z7
    cases z7
    obtain ⟨w6, g6, v6, rfl, e6⟩ := hl1 _ (List.mem_cons_of_mem _ (List.mem_cons_of_mem _ (List.mem_cons_of_mem _ (List.mem_cons_of_mem _ (List.mem_cons_of_mem _ (List.mem_cons_of_mem _ List.mem_cons_self))))))
    have e6 : some ((0 : Int) + (1 * x7 + 0)) = some v6.toInt := e6
    refine zy_sub _ (by simp) (fun q hq => ?_) (k0 τ1 h1 x7 v6 hH1 hX1 hF1 hW1 l7 u7 (Option.some.inj e6))
    simp only [List.mem_cons, List.not_mem_nil, or_false] at hq
    rcases hq with rfl | rfl | rfl | rfl | rfl | rfl | rfl
    · exact xl_ref hl1 List.mem_cons_self
    · exact xl_int hl1 (List.mem_cons_of_mem _ List.mem_cons_self) (xe_sym (s := 0) rfl)
    · exact xl_int hl1 (List.mem_cons_of_mem _ (List.mem_cons_of_mem _ List.mem_cons_self)) (xe_sym (s := 1) rfl)
    · exact xl_int hl1 (List.mem_cons_of_mem _ (List.mem_cons_of_mem _ (List.mem_cons_of_mem _ List.mem_cons_self))) (xe_sym (s := 2) rfl)
    · exact xl_int hl1 (List.mem_cons_of_mem _ (List.mem_cons_of_mem _ (List.mem_cons_of_mem _ (List.mem_cons_of_mem _ List.mem_cons_self)))) (xe_sym (s := 3) rfl)
    · exact xl_int hl1 (List.mem_cons_of_mem _ (List.mem_cons_of_mem _ (List.mem_cons_of_mem _ (List.mem_cons_of_mem _ (List.mem_cons_of_mem _ List.mem_cons_self))))) (xe_sym (s := 4) rfl)
    · exact g6
  · refine ⟨⟨⟨?_, ?_⟩, rfl⟩, ⟨rfl, fun k kd hk => by simp [xs_m1_s] at hk⟩, ?_, ?_⟩
    · intro q hq
      simp only [xs_m1_s, List.mem_cons, List.not_mem_nil, or_false] at hq
      rcases hq with rfl | rfl | rfl | rfl | rfl | rfl | rfl
      · exact ⟨_, rfl, i0.1, i0.2⟩
      · exact ⟨_, rfl, i1.1, i1.2⟩
      · exact ⟨_, rfl, i2.1, i2.2⟩
      · exact ⟨_, rfl, i3.1, i3.2⟩
      · exact ⟨_, rfl, i4.1, i4.2⟩
      · exact ⟨_, rfl, i5.1, i5.2⟩
      · exact ⟨_, rfl, i6.1, i6.2⟩
    · intro q hq
      simp only [xs_m1_s, List.mem_cons, List.not_mem_nil, or_false] at hq
      rcases hq with rfl | rfl
      · exact ⟨_, rfl, c0⟩
      · exact ⟨_, rfl, c1⟩
    · intro q hq; cases hq
    · intro q hq
      simp only [xs_m1_s, List.mem_cons, List.not_mem_nil, or_false] at hq
      rcases hq with rfl | rfl
      · obtain ⟨n, v, a1, a2, a3⟩ := m0
        exact ⟨57, n, _, rfl, congrArg some a1, a2, v, rfl, congrArg some a3⟩
      · obtain ⟨n, v, a1, a2, a3⟩ := m1
        exact ⟨57, n, _, rfl, congrArg some a1, a2, v, rfl, congrArg some a3⟩
  · intro q hq
    simp only [xs_m1_s, List.mem_cons, List.not_mem_nil, or_false] at hq
    rcases hq with rfl | rfl | rfl | rfl | rfl | rfl
    · exact ⟨_, rfl, rfl⟩
    · exact ⟨_, rfl, a, rfl, xe_sym (s := 0) rfl⟩
    · exact ⟨_, rfl, b, rfl, xe_sym (s := 1) rfl⟩
    · exact ⟨_, rfl, g, rfl, xe_sym (s := 2) rfl⟩
    · exact ⟨_, rfl, i, rfl, xe_sym (s := 3) rfl⟩
    · exact ⟨_, rfl, j, rfl, xe_sym (s := 4) rfl⟩
theorem xq_xs_m2 {og : Nat → Option zm_C} {τ : List Nat} {h : zm_H} {Q : Option Value → zm_H → Prop} {a b g sa sb : Int32} (hH : xHI xKT xSG τ h) (hX : xX τ h) (i0 : 0 ≤ a.toInt ∧ a.toInt ≤ 3) (i1 : 0 ≤ b.toInt ∧ b.toInt ≤ 3) (i2 : 0 ≤ g.toInt ∧ g.toInt ≤ 1000) (i3 : 0 ≤ sa.toInt ∧ sa.toInt ≤ 60) (i4 : 0 ≤ sb.toInt ∧ sb.toInt ≤ 60) (m0 : ∃ (n : Nat) (v : Int32), (0 : Int) + (1 * a.toInt + 0) = (n : Int) ∧ xar h 57 n = some (.int v) ∧ (0 : Int) + (1 * sa.toInt + 0) = v.toInt) (m1 : ∃ (n : Nat) (v : Int32), (0 : Int) + (1 * b.toInt + 0) = (n : Int) ∧ xar h 57 n = some (.int v) ∧ (0 : Int) + (1 * sb.toInt + 0) = v.toInt)
    (k0 : ∀ (τ1 : List Nat) (h1 : zm_H) (v6 : Int32), xHI xKT xSG τ1 h1 → xX τ1 h1 → xF (xms []) τ h τ1 h1 → xW h1 ≤ xW h → (0 : Int) + 0 = v6.toInt → zm_Y og 12 276 328 [(0, .ref 55), (1, .int a), (2, .int b), (3, .int g), (4, .int sa), (5, .int sb), (6, .int v6)] [] h1 Q) : zm_Y og 12 276 161 [(0, .ref 55), (1, .int a), (2, .int b), (3, .int g), (4, .int sa), (5, .int sb)] [] h Q := by
  refine xsegq_ok (V := xVV) (X := xX) (W := xW) (og := og) (E := []) (Eo := xs_m2_o) (c := xs_m2) (s := xs_m2_s) (MT := xs_m2_m) (CT := xs_m2_u) (by
    simp only [xs_m2_m, List.forall_mem_cons]
    exact ⟨rfl, fun _ h => by cases h⟩) (fun _ h => by cases h) xFl_good xXW_ok xs_m2_ok (fun e he => by cases he) rfl (ρ := [a.toInt, b.toInt, g.toInt, sa.toInt, sb.toInt]) (r0 := []) (σ := []) (s0 := []) (τ := τ) (h := h) (lc := [(0, .ref 55), (1, .int a), (2, .int b), (3, .int g), (4, .int sa), (5, .int sb)]) (sc := []) (fun r h' hq => by
    obtain ⟨_, _, _, _, _, p, hp, _⟩ := hq
    cases hp) rfl rfl ?_ hH hX ?_ ?_ trivial
  · intro e he r s' τ1 h1 lc sc hH1 hX1 hF1 hW1 hD1 hl1 hs1
    have he := List.mem_singleton.mp he
    subst he
    have hs1 := xsk_nil hs1
    subst hs1
    have hlen : ([a.toInt, b.toInt, g.toInt, sa.toInt, sb.toInt] ++ r).length = 5 := hD1.1.2.symm
    obtain rfl : r = [] := by
      match r, hlen with
      | [], _ => rfl
    obtain ⟨w6, g6, v6, rfl, e6⟩ := hl1 _ (List.mem_cons_of_mem _ (List.mem_cons_of_mem _ (List.mem_cons_of_mem _ (List.mem_cons_of_mem _ (List.mem_cons_of_mem _ (List.mem_cons_of_mem _ List.mem_cons_self))))))
    have e6 : some ((0 : Int) + 0) = some v6.toInt := e6
    refine zy_sub _ (by simp) (fun q hq => ?_) (k0 τ1 h1 v6 hH1 hX1 hF1 hW1 (Option.some.inj e6))
    simp only [List.mem_cons, List.not_mem_nil, or_false] at hq
    rcases hq with rfl | rfl | rfl | rfl | rfl | rfl | rfl
    · exact xl_ref hl1 List.mem_cons_self
    · exact xl_int hl1 (List.mem_cons_of_mem _ List.mem_cons_self) (xe_sym (s := 0) rfl)
    · exact xl_int hl1 (List.mem_cons_of_mem _ (List.mem_cons_of_mem _ List.mem_cons_self)) (xe_sym (s := 1) rfl)
    · exact xl_int hl1 (List.mem_cons_of_mem _ (List.mem_cons_of_mem _ (List.mem_cons_of_mem _ List.mem_cons_self))) (xe_sym (s := 2) rfl)
    · exact xl_int hl1 (List.mem_cons_of_mem _ (List.mem_cons_of_mem _ (List.mem_cons_of_mem _ (List.mem_cons_of_mem _ List.mem_cons_self)))) (xe_sym (s := 3) rfl)
    · exact xl_int hl1 (List.mem_cons_of_mem _ (List.mem_cons_of_mem _ (List.mem_cons_of_mem _ (List.mem_cons_of_mem _ (List.mem_cons_of_mem _ List.mem_cons_self))))) (xe_sym (s := 4) rfl)
    · exact g6
  · refine ⟨⟨⟨?_, ?_⟩, rfl⟩, ⟨rfl, fun k kd hk => by simp [xs_m2_s] at hk⟩, ?_, ?_⟩
    · intro q hq
      simp only [xs_m2_s, List.mem_cons, List.not_mem_nil, or_false] at hq
      rcases hq with rfl | rfl | rfl | rfl | rfl
      · exact ⟨_, rfl, i0.1, i0.2⟩
      · exact ⟨_, rfl, i1.1, i1.2⟩
      · exact ⟨_, rfl, i2.1, i2.2⟩
      · exact ⟨_, rfl, i3.1, i3.2⟩
      · exact ⟨_, rfl, i4.1, i4.2⟩
    · intro q hq; cases hq
    · intro q hq; cases hq
    · intro q hq
      simp only [xs_m2_s, List.mem_cons, List.not_mem_nil, or_false] at hq
      rcases hq with rfl | rfl
      · obtain ⟨n, v, a1, a2, a3⟩ := m0
        exact ⟨57, n, _, rfl, congrArg some a1, a2, v, rfl, congrArg some a3⟩
      · obtain ⟨n, v, a1, a2, a3⟩ := m1
        exact ⟨57, n, _, rfl, congrArg some a1, a2, v, rfl, congrArg some a3⟩
  · intro q hq
    simp only [xs_m2_s, List.mem_cons, List.not_mem_nil, or_false] at hq
    rcases hq with rfl | rfl | rfl | rfl | rfl | rfl
    · exact ⟨_, rfl, rfl⟩
    · exact ⟨_, rfl, a, rfl, xe_sym (s := 0) rfl⟩
    · exact ⟨_, rfl, b, rfl, xe_sym (s := 1) rfl⟩
    · exact ⟨_, rfl, g, rfl, xe_sym (s := 2) rfl⟩
    · exact ⟨_, rfl, sa, rfl, xe_sym (s := 3) rfl⟩
    · exact ⟨_, rfl, sb, rfl, xe_sym (s := 4) rfl⟩
theorem xq_xs_m3 {og : Nat → Option zm_C} {τ : List Nat} {h : zm_H} {Q : Option Value → zm_H → Prop} {a b g i sa sb c : Int32} (hH : xHI xKT xSG τ h) (hX : xX τ h) (i0 : 0 ≤ a.toInt ∧ a.toInt ≤ 3) (i1 : 0 ≤ b.toInt ∧ b.toInt ≤ 3) (i2 : 0 ≤ g.toInt ∧ g.toInt ≤ 1000) (i3 : 0 ≤ i.toInt ∧ i.toInt ≤ 59) (i4 : 0 ≤ sa.toInt ∧ sa.toInt ≤ 60) (i5 : 0 ≤ sb.toInt ∧ sb.toInt ≤ 60) (i6 : 0 ≤ c.toInt ∧ c.toInt ≤ 60000) (c0 : 0 ≤ ((-1) : Int) + (1 * sa.toInt + ((-1) * i.toInt + 0))) (m0 : ∃ (n : Nat) (v : Int32), (0 : Int) + (1 * a.toInt + 0) = (n : Int) ∧ xar h 57 n = some (.int v) ∧ (0 : Int) + (1 * sa.toInt + 0) = v.toInt) (m1 : ∃ (n : Nat) (v : Int32), (0 : Int) + (1 * b.toInt + 0) = (n : Int) ∧ xar h 57 n = some (.int v) ∧ (0 : Int) + (1 * sb.toInt + 0) = v.toInt) (m2 : ∃ (n : Nat) (v : Int32), (61 : Int) + (1 * sb.toInt + (61 * i.toInt + 0)) = (n : Int) ∧ xar h 115 n = some (.int v) ∧ (0 : Int) + (1 * c.toInt + 0) = v.toInt)
    (k0 : ∀ (τ1 : List Nat) (h1 : zm_H) (v6 : Int32), xHI xKT xSG τ1 h1 → xX τ1 h1 → xF (xms []) τ h τ1 h1 → xW h1 ≤ xW h → (0 : Int) + (1 * c.toInt + (1 * g.toInt + 0)) = v6.toInt → zm_Y og 12 276 328 [(0, .ref 55), (1, .int a), (2, .int b), (3, .int g), (4, .int i), (5, .int sb), (6, .int v6)] [] h1 Q) : zm_Y og 12 276 161 [(0, .ref 55), (1, .int a), (2, .int b), (3, .int g), (4, .int i), (5, .int sb)] [] h Q := by
  refine xsegq_ok (V := xVV) (X := xX) (W := xW) (og := og) (E := []) (Eo := xs_m3_o) (c := xs_m3) (s := xs_m3_s) (MT := xs_m3_m) (CT := xs_m3_u) (by
    simp only [xs_m3_m, List.forall_mem_cons]
    exact ⟨rfl, fun _ h => by cases h⟩) (fun _ h => by cases h) xFl_good xXW_ok xs_m3_ok (fun e he => by cases he) rfl (ρ := [a.toInt, b.toInt, g.toInt, i.toInt, sa.toInt, sb.toInt, c.toInt]) (r0 := []) (σ := []) (s0 := []) (τ := τ) (h := h) (lc := [(0, .ref 55), (1, .int a), (2, .int b), (3, .int g), (4, .int i), (5, .int sb)]) (sc := []) (fun r h' hq => by
    obtain ⟨_, _, _, _, _, p, hp, _⟩ := hq
    cases hp) rfl rfl ?_ hH hX ?_ ?_ trivial
  · intro e he r s' τ1 h1 lc sc hH1 hX1 hF1 hW1 hD1 hl1 hs1
    have he := List.mem_singleton.mp he
    subst he
    have hs1 := xsk_nil hs1
    subst hs1
    have hlen : ([a.toInt, b.toInt, g.toInt, i.toInt, sa.toInt, sb.toInt, c.toInt] ++ r).length = 7 := hD1.1.2.symm
    obtain rfl : r = [] := by
      match r, hlen with
      | [], _ => rfl
    obtain ⟨w6, g6, v6, rfl, e6⟩ := hl1 _ (List.mem_cons_of_mem _ (List.mem_cons_of_mem _ (List.mem_cons_of_mem _ (List.mem_cons_of_mem _ (List.mem_cons_of_mem _ (List.mem_cons_of_mem _ List.mem_cons_self))))))
    have e6 : some ((0 : Int) + (1 * c.toInt + (1 * g.toInt + 0))) = some v6.toInt := e6
    refine zy_sub _ (by simp) (fun q hq => ?_) (k0 τ1 h1 v6 hH1 hX1 hF1 hW1 (Option.some.inj e6))
    simp only [List.mem_cons, List.not_mem_nil, or_false] at hq
    rcases hq with rfl | rfl | rfl | rfl | rfl | rfl | rfl
    · exact xl_ref hl1 List.mem_cons_self
    · exact xl_int hl1 (List.mem_cons_of_mem _ List.mem_cons_self) (xe_sym (s := 0) rfl)
    · exact xl_int hl1 (List.mem_cons_of_mem _ (List.mem_cons_of_mem _ List.mem_cons_self)) (xe_sym (s := 1) rfl)
    · exact xl_int hl1 (List.mem_cons_of_mem _ (List.mem_cons_of_mem _ (List.mem_cons_of_mem _ List.mem_cons_self))) (xe_sym (s := 2) rfl)
    · exact xl_int hl1 (List.mem_cons_of_mem _ (List.mem_cons_of_mem _ (List.mem_cons_of_mem _ (List.mem_cons_of_mem _ List.mem_cons_self)))) (xe_sym (s := 3) rfl)
    · exact xl_int hl1 (List.mem_cons_of_mem _ (List.mem_cons_of_mem _ (List.mem_cons_of_mem _ (List.mem_cons_of_mem _ (List.mem_cons_of_mem _ List.mem_cons_self))))) (xe_sym (s := 5) rfl)
    · exact g6
  · refine ⟨⟨⟨?_, ?_⟩, rfl⟩, ⟨rfl, fun k kd hk => by simp [xs_m3_s] at hk⟩, ?_, ?_⟩
    · intro q hq
      simp only [xs_m3_s, List.mem_cons, List.not_mem_nil, or_false] at hq
      rcases hq with rfl | rfl | rfl | rfl | rfl | rfl | rfl
      · exact ⟨_, rfl, i0.1, i0.2⟩
      · exact ⟨_, rfl, i1.1, i1.2⟩
      · exact ⟨_, rfl, i2.1, i2.2⟩
      · exact ⟨_, rfl, i3.1, i3.2⟩
      · exact ⟨_, rfl, i4.1, i4.2⟩
      · exact ⟨_, rfl, i5.1, i5.2⟩
      · exact ⟨_, rfl, i6.1, i6.2⟩
    · intro q hq
      simp only [xs_m3_s, List.mem_cons, List.not_mem_nil, or_false] at hq
      subst hq
      exact ⟨_, rfl, c0⟩
    · intro q hq; cases hq
    · intro q hq
      simp only [xs_m3_s, List.mem_cons, List.not_mem_nil, or_false] at hq
      rcases hq with rfl | rfl | rfl
      · obtain ⟨n, v, a1, a2, a3⟩ := m0
        exact ⟨57, n, _, rfl, congrArg some a1, a2, v, rfl, congrArg some a3⟩
      · obtain ⟨n, v, a1, a2, a3⟩ := m1
        exact ⟨57, n, _, rfl, congrArg some a1, a2, v, rfl, congrArg some a3⟩
      · obtain ⟨n, v, a1, a2, a3⟩ := m2
        exact ⟨115, n, _, rfl, congrArg some a1, a2, v, rfl, congrArg some a3⟩
  · intro q hq
    simp only [xs_m3_s, List.mem_cons, List.not_mem_nil, or_false] at hq
    rcases hq with rfl | rfl | rfl | rfl | rfl | rfl
    · exact ⟨_, rfl, rfl⟩
    · exact ⟨_, rfl, a, rfl, xe_sym (s := 0) rfl⟩
    · exact ⟨_, rfl, b, rfl, xe_sym (s := 1) rfl⟩
    · exact ⟨_, rfl, g, rfl, xe_sym (s := 2) rfl⟩
    · exact ⟨_, rfl, i, rfl, xe_sym (s := 3) rfl⟩
    · exact ⟨_, rfl, sb, rfl, xe_sym (s := 5) rfl⟩
theorem xq_xs_m4 {og : Nat → Option zm_C} {τ : List Nat} {h : zm_H} {Q : Option Value → zm_H → Prop} {a b g : Int32} (hH : xHI xKT xSG τ h) (hX : xX τ h) (i0 : 0 ≤ a.toInt ∧ a.toInt ≤ 3) (i1 : 0 ≤ b.toInt ∧ b.toInt ≤ 3) (i2 : 0 ≤ g.toInt ∧ g.toInt ≤ 1000)
    (k0 : ∀ (τ1 : List Nat) (h1 : zm_H) (v4 : Int32) (v5 : Int32), xHI xKT xSG τ1 h1 → xX τ1 h1 → xF (xms [(55, 108)]) τ h τ1 h1 → xW h1 ≤ xW h → (0 : Int) + 0 = v4.toInt → (0 : Int) + 0 = v5.toInt → zm_Y og 12 276 371 [(0, .ref 55), (1, .int a), (2, .int b), (3, .int g), (4, .int v4), (5, .int v5)] [] h1 Q) : zm_Y og 12 276 355 [(0, .ref 55), (1, .int a), (2, .int b), (3, .int g)] [] h Q := by
  refine xsegq_ok (V := xVV) (X := xX) (W := xW) (og := og) (E := []) (Eo := xs_m4_o) (c := xs_m4) (s := xs_m4_s) (MT := xs_m4_m) (CT := xs_m4_u) (by
    simp only [xs_m4_m, List.forall_mem_cons]
    exact ⟨rfl, fun _ h => by cases h⟩) (fun _ h => by cases h) xFl_good xXW_ok xs_m4_ok (fun e he => by cases he) rfl (ρ := [a.toInt, b.toInt, g.toInt]) (r0 := []) (σ := []) (s0 := []) (τ := τ) (h := h) (lc := [(0, .ref 55), (1, .int a), (2, .int b), (3, .int g)]) (sc := []) (fun r h' hq => by
    obtain ⟨_, _, _, _, _, p, hp, _⟩ := hq
    cases hp) rfl rfl ?_ hH hX ?_ ?_ trivial
  · intro e he r s' τ1 h1 lc sc hH1 hX1 hF1 hW1 hD1 hl1 hs1
    have he := List.mem_singleton.mp he
    subst he
    have hs1 := xsk_nil hs1
    subst hs1
    have hlen : ([a.toInt, b.toInt, g.toInt] ++ r).length = 3 := hD1.1.2.symm
    obtain rfl : r = [] := by
      match r, hlen with
      | [], _ => rfl
    obtain ⟨w4, g4, v4, rfl, e4⟩ := hl1 _ (List.mem_cons_of_mem _ (List.mem_cons_of_mem _ (List.mem_cons_of_mem _ (List.mem_cons_of_mem _ List.mem_cons_self))))
    have e4 : some ((0 : Int) + 0) = some v4.toInt := e4
    obtain ⟨w5, g5, v5, rfl, e5⟩ := hl1 _ (List.mem_cons_of_mem _ (List.mem_cons_of_mem _ (List.mem_cons_of_mem _ (List.mem_cons_of_mem _ (List.mem_cons_of_mem _ List.mem_cons_self)))))
    have e5 : some ((0 : Int) + 0) = some v5.toInt := e5
    refine zy_sub _ (by simp) (fun q hq => ?_) (k0 τ1 h1 v4 v5 hH1 hX1 hF1 hW1 (Option.some.inj e4) (Option.some.inj e5))
    simp only [List.mem_cons, List.not_mem_nil, or_false] at hq
    rcases hq with rfl | rfl | rfl | rfl | rfl | rfl
    · exact xl_ref hl1 List.mem_cons_self
    · exact xl_int hl1 (List.mem_cons_of_mem _ List.mem_cons_self) (xe_sym (s := 0) rfl)
    · exact xl_int hl1 (List.mem_cons_of_mem _ (List.mem_cons_of_mem _ List.mem_cons_self)) (xe_sym (s := 1) rfl)
    · exact xl_int hl1 (List.mem_cons_of_mem _ (List.mem_cons_of_mem _ (List.mem_cons_of_mem _ List.mem_cons_self))) (xe_sym (s := 2) rfl)
    · exact g4
    · exact g5
  · refine ⟨⟨⟨?_, ?_⟩, rfl⟩, ⟨rfl, fun k kd hk => by simp [xs_m4_s] at hk⟩, ?_, ?_⟩
    · intro q hq
      simp only [xs_m4_s, List.mem_cons, List.not_mem_nil, or_false] at hq
      rcases hq with rfl | rfl | rfl
      · exact ⟨_, rfl, i0.1, i0.2⟩
      · exact ⟨_, rfl, i1.1, i1.2⟩
      · exact ⟨_, rfl, i2.1, i2.2⟩
    · intro q hq; cases hq
    · intro q hq; cases hq
    · intro q hq; cases hq
  · intro q hq
    simp only [xs_m4_s, List.mem_cons, List.not_mem_nil, or_false] at hq
    rcases hq with rfl | rfl | rfl | rfl
    · exact ⟨_, rfl, rfl⟩
    · exact ⟨_, rfl, a, rfl, xe_sym (s := 0) rfl⟩
    · exact ⟨_, rfl, b, rfl, xe_sym (s := 1) rfl⟩
    · exact ⟨_, rfl, g, rfl, xe_sym (s := 2) rfl⟩
theorem xq_xs_m5 {og : Nat → Option zm_C} {τ : List Nat} {h : zm_H} {Q : Option Value → zm_H → Prop} {a b g i j sa sb : Int32} (hH : xHI xKT xSG τ h) (hX : xX τ h) (i0 : 0 ≤ a.toInt ∧ a.toInt ≤ 3) (i1 : 0 ≤ b.toInt ∧ b.toInt ≤ 3) (i2 : 0 ≤ g.toInt ∧ g.toInt ≤ 1000) (i3 : 0 ≤ i.toInt ∧ i.toInt ≤ 59) (i4 : 0 ≤ j.toInt ∧ j.toInt ≤ 59) (i5 : 0 ≤ sa.toInt ∧ sa.toInt ≤ 60) (i6 : 0 ≤ sb.toInt ∧ sb.toInt ≤ 60) (c0 : 0 ≤ ((-1) : Int) + (1 * sa.toInt + ((-1) * i.toInt + 0))) (c1 : 0 ≤ ((-1) : Int) + (1 * sb.toInt + ((-1) * j.toInt + 0))) (m0 : ∃ (n : Nat) (v : Int32), (0 : Int) + (1 * a.toInt + 0) = (n : Int) ∧ xar h 57 n = some (.int v) ∧ (0 : Int) + (1 * sa.toInt + 0) = v.toInt) (m1 : ∃ (n : Nat) (v : Int32), (0 : Int) + (1 * b.toInt + 0) = (n : Int) ∧ xar h 57 n = some (.int v) ∧ (0 : Int) + (1 * sb.toInt + 0) = v.toInt)
    (k0 : ∀ (τ1 : List Nat) (h1 : zm_H) (v4 : Int32) (v5 : Int32), xHI xKT xSG τ1 h1 → xX τ1 h1 → xF (xms [(116, 0)]) τ h τ1 h1 → xW h1 ≤ xW h → (1 : Int) + (1 * i.toInt + 0) = v4.toInt → (1 : Int) + (1 * j.toInt + 0) = v5.toInt → zm_Y og 12 276 371 [(0, .ref 55), (1, .int a), (2, .int b), (3, .int g), (4, .int v4), (5, .int v5)] [] h1 Q)
    (k1 : ∀ (τ1 : List Nat) (h1 : zm_H) (v4 : Int32), xHI xKT xSG τ1 h1 → xX τ1 h1 → xF (xms [(116, 0)]) τ h τ1 h1 → xW h1 ≤ xW h → (1 : Int) + (1 * i.toInt + 0) = v4.toInt → zm_Y og 12 276 371 [(0, .ref 55), (1, .int a), (2, .int b), (3, .int g), (4, .int v4), (5, .int j)] [] h1 Q)
    (k2 : ∀ (τ1 : List Nat) (h1 : zm_H) (v5 : Int32), xHI xKT xSG τ1 h1 → xX τ1 h1 → xF (xms [(116, 0)]) τ h τ1 h1 → xW h1 ≤ xW h → (1 : Int) + (1 * j.toInt + 0) = v5.toInt → zm_Y og 12 276 371 [(0, .ref 55), (1, .int a), (2, .int b), (3, .int g), (4, .int i), (5, .int v5)] [] h1 Q) : zm_Y og 12 276 382 [(0, .ref 55), (1, .int a), (2, .int b), (3, .int g), (4, .int i), (5, .int j)] [] h Q := by
  refine xsegq_ok (V := xVV) (X := xX) (W := xW) (og := og) (E := []) (Eo := xs_m5_o) (c := xs_m5) (s := xs_m5_s) (MT := xs_m5_m) (CT := xs_m5_u) (by
    simp only [xs_m5_m, List.forall_mem_cons]
    exact ⟨rfl, rfl, rfl, fun _ h => by cases h⟩) (fun _ h => by cases h) xFl_good xXW_ok xs_m5_ok (fun e he => by cases he) rfl (ρ := [a.toInt, b.toInt, g.toInt, i.toInt, j.toInt, sa.toInt, sb.toInt]) (r0 := []) (σ := []) (s0 := []) (τ := τ) (h := h) (lc := [(0, .ref 55), (1, .int a), (2, .int b), (3, .int g), (4, .int i), (5, .int j)]) (sc := []) (fun r h' hq => by
    obtain ⟨_, _, _, _, _, p, hp, _⟩ := hq
    cases hp) rfl rfl ?_ hH hX ?_ ?_ trivial
  · intro e he r s' τ1 h1 lc sc hH1 hX1 hF1 hW1 hD1 hl1 hs1
    simp only [xs_m5_o, List.mem_cons, List.not_mem_nil, or_false] at he
    rcases he with rfl | rfl | rfl
    · have hs1 := xsk_nil hs1
      subst hs1
      have hlen : ([a.toInt, b.toInt, g.toInt, i.toInt, j.toInt, sa.toInt, sb.toInt] ++ r).length = 7 := hD1.1.2.symm
      obtain rfl : r = [] := by
        match r, hlen with
        | [], _ => rfl
      obtain ⟨w4, g4, v4, rfl, e4⟩ := hl1 _ (List.mem_cons_of_mem _ (List.mem_cons_of_mem _ (List.mem_cons_of_mem _ (List.mem_cons_of_mem _ List.mem_cons_self))))
      have e4 : some ((1 : Int) + (1 * i.toInt + 0)) = some v4.toInt := e4
      obtain ⟨w5, g5, v5, rfl, e5⟩ := hl1 _ (List.mem_cons_of_mem _ (List.mem_cons_of_mem _ (List.mem_cons_of_mem _ (List.mem_cons_of_mem _ (List.mem_cons_of_mem _ List.mem_cons_self)))))
      have e5 : some ((1 : Int) + (1 * j.toInt + 0)) = some v5.toInt := e5
      refine zy_sub _ (by simp) (fun q hq => ?_) (k0 τ1 h1 v4 v5 hH1 hX1 hF1 hW1 (Option.some.inj e4) (Option.some.inj e5))
      simp only [List.mem_cons, List.not_mem_nil, or_false] at hq
      rcases hq with rfl | rfl | rfl | rfl | rfl | rfl
      · exact xl_ref hl1 List.mem_cons_self
      · exact xl_int hl1 (List.mem_cons_of_mem _ List.mem_cons_self) (xe_sym (s := 0) rfl)
      · exact xl_int hl1 (List.mem_cons_of_mem _ (List.mem_cons_of_mem _ List.mem_cons_self)) (xe_sym (s := 1) rfl)
      · exact xl_int hl1 (List.mem_cons_of_mem _ (List.mem_cons_of_mem _ (List.mem_cons_of_mem _ List.mem_cons_self))) (xe_sym (s := 2) rfl)
      · exact g4
      · exact g5
    · have hs1 := xsk_nil hs1
      subst hs1
      have hlen : ([a.toInt, b.toInt, g.toInt, i.toInt, j.toInt, sa.toInt, sb.toInt] ++ r).length = 7 := hD1.1.2.symm
      obtain rfl : r = [] := by
        match r, hlen with
        | [], _ => rfl
      obtain ⟨w4, g4, v4, rfl, e4⟩ := hl1 _ (List.mem_cons_of_mem _ (List.mem_cons_of_mem _ (List.mem_cons_of_mem _ (List.mem_cons_of_mem _ List.mem_cons_self))))
      have e4 : some ((1 : Int) + (1 * i.toInt + 0)) = some v4.toInt := e4
      refine zy_sub _ (by simp) (fun q hq => ?_) (k1 τ1 h1 v4 hH1 hX1 hF1 hW1 (Option.some.inj e4))
      simp only [List.mem_cons, List.not_mem_nil, or_false] at hq
      rcases hq with rfl | rfl | rfl | rfl | rfl | rfl
      · exact xl_ref hl1 List.mem_cons_self
      · exact xl_int hl1 (List.mem_cons_of_mem _ List.mem_cons_self) (xe_sym (s := 0) rfl)
      · exact xl_int hl1 (List.mem_cons_of_mem _ (List.mem_cons_of_mem _ List.mem_cons_self)) (xe_sym (s := 1) rfl)
      · exact xl_int hl1 (List.mem_cons_of_mem _ (List.mem_cons_of_mem _ (List.mem_cons_of_mem _ List.mem_cons_self))) (xe_sym (s := 2) rfl)
      · exact g4
      · exact xl_int hl1 (List.mem_cons_of_mem _ (List.mem_cons_of_mem _ (List.mem_cons_of_mem _ (List.mem_cons_of_mem _ (List.mem_cons_of_mem _ List.mem_cons_self))))) (xe_sym (s := 4) rfl)
    · have hs1 := xsk_nil hs1
      subst hs1
      have hlen : ([a.toInt, b.toInt, g.toInt, i.toInt, j.toInt, sa.toInt, sb.toInt] ++ r).length = 7 := hD1.1.2.symm
      obtain rfl : r = [] := by
        match r, hlen with
        | [], _ => rfl
      obtain ⟨w5, g5, v5, rfl, e5⟩ := hl1 _ (List.mem_cons_of_mem _ (List.mem_cons_of_mem _ (List.mem_cons_of_mem _ (List.mem_cons_of_mem _ (List.mem_cons_of_mem _ List.mem_cons_self)))))
      have e5 : some ((1 : Int) + (1 * j.toInt + 0)) = some v5.toInt := e5
      refine zy_sub _ (by simp) (fun q hq => ?_) (k2 τ1 h1 v5 hH1 hX1 hF1 hW1 (Option.some.inj e5))
      simp only [List.mem_cons, List.not_mem_nil, or_false] at hq
      rcases hq with rfl | rfl | rfl | rfl | rfl | rfl
      · exact xl_ref hl1 List.mem_cons_self
      · exact xl_int hl1 (List.mem_cons_of_mem _ List.mem_cons_self) (xe_sym (s := 0) rfl)
      · exact xl_int hl1 (List.mem_cons_of_mem _ (List.mem_cons_of_mem _ List.mem_cons_self)) (xe_sym (s := 1) rfl)
      · exact xl_int hl1 (List.mem_cons_of_mem _ (List.mem_cons_of_mem _ (List.mem_cons_of_mem _ List.mem_cons_self))) (xe_sym (s := 2) rfl)
      · exact xl_int hl1 (List.mem_cons_of_mem _ (List.mem_cons_of_mem _ (List.mem_cons_of_mem _ (List.mem_cons_of_mem _ List.mem_cons_self)))) (xe_sym (s := 3) rfl)
      · exact g5
  · refine ⟨⟨⟨?_, ?_⟩, rfl⟩, ⟨rfl, fun k kd hk => by simp [xs_m5_s] at hk⟩, ?_, ?_⟩
    · intro q hq
      simp only [xs_m5_s, List.mem_cons, List.not_mem_nil, or_false] at hq
      rcases hq with rfl | rfl | rfl | rfl | rfl | rfl | rfl
      · exact ⟨_, rfl, i0.1, i0.2⟩
      · exact ⟨_, rfl, i1.1, i1.2⟩
      · exact ⟨_, rfl, i2.1, i2.2⟩
      · exact ⟨_, rfl, i3.1, i3.2⟩
      · exact ⟨_, rfl, i4.1, i4.2⟩
      · exact ⟨_, rfl, i5.1, i5.2⟩
      · exact ⟨_, rfl, i6.1, i6.2⟩
    · intro q hq
      simp only [xs_m5_s, List.mem_cons, List.not_mem_nil, or_false] at hq
      rcases hq with rfl | rfl
      · exact ⟨_, rfl, c0⟩
      · exact ⟨_, rfl, c1⟩
    · intro q hq; cases hq
    · intro q hq
      simp only [xs_m5_s, List.mem_cons, List.not_mem_nil, or_false] at hq
      rcases hq with rfl | rfl
      · obtain ⟨n, v, a1, a2, a3⟩ := m0
        exact ⟨57, n, _, rfl, congrArg some a1, a2, v, rfl, congrArg some a3⟩
      · obtain ⟨n, v, a1, a2, a3⟩ := m1
        exact ⟨57, n, _, rfl, congrArg some a1, a2, v, rfl, congrArg some a3⟩
  · intro q hq
    simp only [xs_m5_s, List.mem_cons, List.not_mem_nil, or_false] at hq
    rcases hq with rfl | rfl | rfl | rfl | rfl | rfl
    · exact ⟨_, rfl, rfl⟩
    · exact ⟨_, rfl, a, rfl, xe_sym (s := 0) rfl⟩
    · exact ⟨_, rfl, b, rfl, xe_sym (s := 1) rfl⟩
    · exact ⟨_, rfl, g, rfl, xe_sym (s := 2) rfl⟩
    · exact ⟨_, rfl, i, rfl, xe_sym (s := 3) rfl⟩
    · exact ⟨_, rfl, j, rfl, xe_sym (s := 4) rfl⟩
theorem xq_xs_m6 {og : Nat → Option zm_C} {τ : List Nat} {h : zm_H} {Q : Option Value → zm_H → Prop} {a b g i sa sb c : Int32} (hH : xHI xKT xSG τ h) (hX : xX τ h) (i0 : 0 ≤ a.toInt ∧ a.toInt ≤ 3) (i1 : 0 ≤ b.toInt ∧ b.toInt ≤ 3) (i2 : 0 ≤ g.toInt ∧ g.toInt ≤ 1000) (i3 : 0 ≤ i.toInt ∧ i.toInt ≤ 59) (i4 : 0 ≤ sa.toInt ∧ sa.toInt ≤ 60) (i5 : 0 ≤ sb.toInt ∧ sb.toInt ≤ 60) (i6 : 0 ≤ c.toInt ∧ c.toInt ≤ 60000) (c0 : 0 ≤ ((-1) : Int) + (1 * sa.toInt + ((-1) * i.toInt + 0))) (m0 : ∃ (n : Nat) (v : Int32), (0 : Int) + (1 * a.toInt + 0) = (n : Int) ∧ xar h 57 n = some (.int v) ∧ (0 : Int) + (1 * sa.toInt + 0) = v.toInt) (m1 : ∃ (n : Nat) (v : Int32), (0 : Int) + (1 * b.toInt + 0) = (n : Int) ∧ xar h 57 n = some (.int v) ∧ (0 : Int) + (1 * sb.toInt + 0) = v.toInt) (m2 : ∃ (n : Nat) (v : Int32), (0 : Int) + (1 * sb.toInt + (61 * i.toInt + 0)) = (n : Int) ∧ xar h 115 n = some (.int v) ∧ (0 : Int) + (1 * c.toInt + (1 * g.toInt + 0)) = v.toInt) (m3 : ∃ (n : Nat) (v : Int32), (61 : Int) + (1 * sb.toInt + (61 * i.toInt + 0)) = (n : Int) ∧ xar h 115 n = some (.int v) ∧ (0 : Int) + (1 * c.toInt + 0) = v.toInt)
    (k0 : ∀ (τ1 : List Nat) (h1 : zm_H) (v4 : Int32), xHI xKT xSG τ1 h1 → xX τ1 h1 → xF (xms [(116, 0)]) τ h τ1 h1 → xW h1 ≤ xW h → (1 : Int) + (1 * i.toInt + 0) = v4.toInt → zm_Y og 12 276 371 [(0, .ref 55), (1, .int a), (2, .int b), (3, .int g), (4, .int v4), (5, .int sb)] [] h1 Q) : zm_Y og 12 276 382 [(0, .ref 55), (1, .int a), (2, .int b), (3, .int g), (4, .int i), (5, .int sb)] [] h Q := by
  refine xsegq_ok (V := xVV) (X := xX) (W := xW) (og := og) (E := []) (Eo := xs_m6_o) (c := xs_m6) (s := xs_m6_s) (MT := xs_m6_m) (CT := xs_m6_u) (by
    simp only [xs_m6_m, List.forall_mem_cons]
    exact ⟨rfl, fun _ h => by cases h⟩) (fun _ h => by cases h) xFl_good xXW_ok xs_m6_ok (fun e he => by cases he) rfl (ρ := [a.toInt, b.toInt, g.toInt, i.toInt, sa.toInt, sb.toInt, c.toInt]) (r0 := []) (σ := []) (s0 := []) (τ := τ) (h := h) (lc := [(0, .ref 55), (1, .int a), (2, .int b), (3, .int g), (4, .int i), (5, .int sb)]) (sc := []) (fun r h' hq => by
    obtain ⟨_, _, _, _, _, p, hp, _⟩ := hq
    cases hp) rfl rfl ?_ hH hX ?_ ?_ trivial
  · intro e he r s' τ1 h1 lc sc hH1 hX1 hF1 hW1 hD1 hl1 hs1
    have he := List.mem_singleton.mp he
    subst he
    have hs1 := xsk_nil hs1
    subst hs1
    have hlen : ([a.toInt, b.toInt, g.toInt, i.toInt, sa.toInt, sb.toInt, c.toInt] ++ r).length = 7 := hD1.1.2.symm
    obtain rfl : r = [] := by
      match r, hlen with
      | [], _ => rfl
    obtain ⟨w4, g4, v4, rfl, e4⟩ := hl1 _ (List.mem_cons_of_mem _ (List.mem_cons_of_mem _ (List.mem_cons_of_mem _ (List.mem_cons_of_mem _ List.mem_cons_self))))
    have e4 : some ((1 : Int) + (1 * i.toInt + 0)) = some v4.toInt := e4
    refine zy_sub _ (by simp) (fun q hq => ?_) (k0 τ1 h1 v4 hH1 hX1 hF1 hW1 (Option.some.inj e4))
    simp only [List.mem_cons, List.not_mem_nil, or_false] at hq
    rcases hq with rfl | rfl | rfl | rfl | rfl | rfl
    · exact xl_ref hl1 List.mem_cons_self
    · exact xl_int hl1 (List.mem_cons_of_mem _ List.mem_cons_self) (xe_sym (s := 0) rfl)
    · exact xl_int hl1 (List.mem_cons_of_mem _ (List.mem_cons_of_mem _ List.mem_cons_self)) (xe_sym (s := 1) rfl)
    · exact xl_int hl1 (List.mem_cons_of_mem _ (List.mem_cons_of_mem _ (List.mem_cons_of_mem _ List.mem_cons_self))) (xe_sym (s := 2) rfl)
    · exact g4
    · exact xl_int hl1 (List.mem_cons_of_mem _ (List.mem_cons_of_mem _ (List.mem_cons_of_mem _ (List.mem_cons_of_mem _ (List.mem_cons_of_mem _ List.mem_cons_self))))) (xe_sym (s := 5) rfl)
  · refine ⟨⟨⟨?_, ?_⟩, rfl⟩, ⟨rfl, fun k kd hk => by simp [xs_m6_s] at hk⟩, ?_, ?_⟩
    · intro q hq
      simp only [xs_m6_s, List.mem_cons, List.not_mem_nil, or_false] at hq
      rcases hq with rfl | rfl | rfl | rfl | rfl | rfl | rfl
      · exact ⟨_, rfl, i0.1, i0.2⟩
      · exact ⟨_, rfl, i1.1, i1.2⟩
      · exact ⟨_, rfl, i2.1, i2.2⟩
      · exact ⟨_, rfl, i3.1, i3.2⟩
      · exact ⟨_, rfl, i4.1, i4.2⟩
      · exact ⟨_, rfl, i5.1, i5.2⟩
      · exact ⟨_, rfl, i6.1, i6.2⟩
    · intro q hq
      simp only [xs_m6_s, List.mem_cons, List.not_mem_nil, or_false] at hq
      subst hq
      exact ⟨_, rfl, c0⟩
    · intro q hq; cases hq
    · intro q hq
      simp only [xs_m6_s, List.mem_cons, List.not_mem_nil, or_false] at hq
      rcases hq with rfl | rfl | rfl | rfl
      · obtain ⟨n, v, a1, a2, a3⟩ := m0
        exact ⟨57, n, _, rfl, congrArg some a1, a2, v, rfl, congrArg some a3⟩
      · obtain ⟨n, v, a1, a2, a3⟩ := m1
        exact ⟨57, n, _, rfl, congrArg some a1, a2, v, rfl, congrArg some a3⟩
      · obtain ⟨n, v, a1, a2, a3⟩ := m2
        exact ⟨115, n, _, rfl, congrArg some a1, a2, v, rfl, congrArg some a3⟩
      · obtain ⟨n, v, a1, a2, a3⟩ := m3
        exact ⟨115, n, _, rfl, congrArg some a1, a2, v, rfl, congrArg some a3⟩
  · intro q hq
    simp only [xs_m6_s, List.mem_cons, List.not_mem_nil, or_false] at hq
    rcases hq with rfl | rfl | rfl | rfl | rfl | rfl
    · exact ⟨_, rfl, rfl⟩
    · exact ⟨_, rfl, a, rfl, xe_sym (s := 0) rfl⟩
    · exact ⟨_, rfl, b, rfl, xe_sym (s := 1) rfl⟩
    · exact ⟨_, rfl, g, rfl, xe_sym (s := 2) rfl⟩
    · exact ⟨_, rfl, i, rfl, xe_sym (s := 3) rfl⟩
    · exact ⟨_, rfl, sb, rfl, xe_sym (s := 5) rfl⟩
