/-! By hand: the model's walk holds its contract -/
section XWK4
variable {og : Nat → Option zm_C}
theorem zh_w101 {c who s : Int32} {fD fS : Nat → Int32} {N : Nat} {τ : List Nat} {h : zm_H} (hc : c = Int32.ofNat N) (hN : N ≤ 16) (w0 : 0 ≤ who.toInt ∧ who.toInt ≤ 3) (s0 : 0 ≤ s.toInt ∧ s.toInt ≤ 3) (hH : xHI xKT xSG τ h) (hX : xX τ h) (f6 : xfd h 55 6 = some (.int c)) (hD : h[69]? = some (.inl (3, 16, .inl fD))) (hS : h[62]? = some (.inl (0, 16, .inl fS))) : zm_Y og 56 261 101 [(0, .ref 55), (1, .int who), (2, .int s), (3, .int (Int32.ofNat (xcnt fD fS s N)))] [] h (xWQ xVV xX xW xs_w2.2.2.2.1 0 τ h) := by
  have hcl := xcnt_le (fD := fD) (fS := fS) (s := s) N
  have en := (xofn (k := xcnt fD fS s N) (by omega)).1
  generalize hn : Int32.ofNat (xcnt fD fS s N) = n at en
  refine (xseg_ok (V := xVV) (X := xX) (W := xW) (og := og) (E := []) (Eo := xs_w1_o) (c := xs_w1) (s := xs_w1_s) (MT := xs_w1_m) (CT := xs_w1_u) (by
    simp only [xs_w1_m, List.forall_mem_cons]
    exact ⟨rfl, rfl, fun _ h => by cases h⟩) (by
    simp only [xs_w1_u, List.forall_mem_cons]
    exact ⟨xv_240, fun _ h => by cases h⟩) xFl_good xXW_ok xs_w1_ok (fun e he => by cases he) rfl (ρ := [who.toInt, s.toInt, n.toInt]) (r0 := []) (σ := []) (s0 := []) (τ := τ) (h := h) (lc := [(0, .ref 55), (1, .int who), (2, .int s), (3, .int n)]) (sc := []) rfl rfl ?_ hH hX ?_ ?_ trivial).mono (fun r h' hq => xWQ_of (c := xs_w1) (np := 3) rfl hq)
  · intro e he r s' τ1 h' lc sc hH1 hX1 hF1 hW1 hD1 hl1 hs1
    have he := List.mem_singleton.mp he
    subst he
    have hs1 := xsk_nil hs1
    subst hs1
    obtain ⟨ad, v, p1, p2, L, rfl, p3⟩ := hD1.2.2.1 _ (List.mem_singleton.mpr rfl)
    have p1 : some 55 = some ad := p1
    cases p1
    obtain ⟨v0, q1, t, rfl, q2⟩ := hl1 _ (List.mem_cons_of_mem _ (List.mem_cons_of_mem _ (List.mem_cons_of_mem _ (List.mem_cons_of_mem _ List.mem_cons_self))))
    have p3 : xe ([who.toInt, s.toInt, n.toInt] ++ r) (.ofNat 0, [(4, .ofNat 1)]) = some L.toInt := p3
    have q2 : xe ([who.toInt, s.toInt, n.toInt] ++ r) (.ofNat 0, [(3, .ofNat 1)]) = some t.toInt := q2
    have q1 : zm_get lc 4 = some (.int t) := q1
    have hlen : ([who.toInt, s.toInt, n.toInt] ++ r).length = 5 := hD1.1.2.symm
    obtain ⟨a, b, rfl⟩ : ∃ a b, r = [a, b] := by
      match r, hlen with
      | [a, b], _ => exact ⟨a, b, rfl⟩
    have p3 : some ((0 : Int) + (1 * b + 0)) = some L.toInt := p3
    have q2 : some ((0 : Int) + (1 * a + 0)) = some t.toInt := q2
    have p3 := Option.some.inj p3
    have q2 := Option.some.inj q2
    obtain ⟨x, x1, x2, x3⟩ := hD1.1.1.1 _ (List.mem_cons_of_mem _ (List.mem_cons_of_mem _ (List.mem_cons_of_mem _ List.mem_cons_self)))
    have x1 : some a = some x := x1
    have x1 := Option.some.inj x1
    have x2 : Int.negSucc 0 ≤ x := x2
    have x3 : x ≤ Int.ofNat 11 := x3
    obtain ⟨y, y1, y2, y3⟩ := hD1.1.1.1 _ (List.mem_cons_of_mem _ (List.mem_cons_of_mem _ (List.mem_cons_of_mem _ (List.mem_cons_of_mem _ List.mem_cons_self))))
    have y1 : some b = some y := y1
    have y1 := Option.some.inj y1
    have y2 : Int.ofNat 0 ≤ y := y2
    obtain ⟨z, z1, z2⟩ := hD1.1.1.2 _ (List.mem_singleton.mpr rfl)
    have z1 : xe [who.toInt, s.toInt, n.toInt, a, b] (.ofNat 1200, [(4, .negSucc 0), (2, .negSucc 0)]) = some z := z1
    have z3 : xe [who.toInt, s.toInt, n.toInt, a, b] (.ofNat 1200, [(4, .negSucc 0), (2, .negSucc 0)]) = some ((1200 : Int) + ((-1) * b + ((-1) * n.toInt + 0))) := rfl
    rw [z3] at z1
    have z1 := Option.some.inj z1
    have i1 : (-1 : Int) ≤ x := x2
    have i2 : x ≤ (11 : Int) := x3
    have i3 : (0 : Int) ≤ y := y2
    have e0 : xcnt fD fS s 0 = 0 := rfl
    have go := zh_w143 (og := og) (fD := fD) (fS := fS) hc hN w0 s0 (n := n) (by omega) (t := t) (by omega) N 0 τ1 h' L (by omega) hH1 hX1 (xkeep_f hH rfl hF1 rfl f6) (xkeep_a hH rfl hF1 rfl hD) (xkeep_a hH rfl hF1 rfl hS) p2 (by omega) (by rw [e0]; omega)
    refine zy_sub _ (by simp) (fun q hq => ?_) (go.mono (fun r2 h2 hq => xQc_of (np := 3) rfl rfl (xWQ_tr hF1 hW1 hq)))
    simp only [List.mem_cons, List.not_mem_nil, or_false] at hq
    rcases hq with rfl | rfl | rfl | rfl | rfl | rfl
    · exact xl_ref hl1 List.mem_cons_self
    · exact xl_int hl1 (List.mem_cons_of_mem _ List.mem_cons_self) (xe_sym (s := 0) rfl)
    · exact xl_int hl1 (List.mem_cons_of_mem _ (List.mem_cons_of_mem _ List.mem_cons_self)) (xe_sym (s := 1) rfl)
    · exact xl_int hl1 (List.mem_cons_of_mem _ (List.mem_cons_of_mem _ (List.mem_cons_of_mem _ List.mem_cons_self))) (xe_sym (s := 2) rfl)
    · exact q1
    · exact xl_int hl1 (List.mem_cons_of_mem _ (List.mem_cons_of_mem _ (List.mem_cons_of_mem _ (List.mem_cons_of_mem _ (List.mem_cons_of_mem _ List.mem_cons_self))))) rfl
  · refine ⟨⟨⟨?_, fun q hq => by cases hq⟩, rfl⟩, ⟨rfl, fun k kd hk => by simp [xs_w1_s] at hk⟩, (fun q hq => by cases hq), (fun q hq => by cases hq)⟩
    intro q hq
    have hq : q ∈ [((0 : Nat), Int.ofNat 0, Int.ofNat 3), (1, Int.ofNat 0, Int.ofNat 3), (2, Int.ofNat 0, Int.ofNat 16)] := hq
    simp only [List.mem_cons, List.not_mem_nil, or_false] at hq
    rcases hq with rfl | rfl | rfl
    · exact ⟨_, rfl, w0.1, w0.2⟩
    · exact ⟨_, rfl, s0.1, s0.2⟩
    · exact ⟨_, rfl, by show (0 : Int) ≤ n.toInt; omega, by show n.toInt ≤ (16 : Int); omega⟩
  · intro q hq
    have hq : q ∈ [((0 : Nat), ((3 : Nat), xk 0, (55 : Nat))), (1, (0, (.ofNat 0, [(0, .ofNat 1)]), 0)), (2, (0, (.ofNat 0, [(1, .ofNat 1)]), 0)), (3, (0, (.ofNat 0, [(2, .ofNat 1)]), 0))] := hq
    simp only [List.mem_cons, List.not_mem_nil, or_false] at hq
    rcases hq with rfl | rfl | rfl | rfl
    · exact ⟨_, rfl, rfl⟩
    · exact ⟨_, rfl, who, rfl, xe_sym (s := 0) rfl⟩
    · exact ⟨_, rfl, s, rfl, xe_sym (s := 1) rfl⟩
    · exact ⟨_, rfl, n, rfl, xe_sym (s := 2) rfl⟩
theorem xv_256 : xV xVV xX xW og xc_256 := by
  intro ρ σ τ h lc hH hX hD hl
  have hlen : ρ.length = 2 := hD.1.2.symm
  have hσ : σ.length = 0 := hD.2.1.1
  have hσ := List.length_eq_zero_iff.mp hσ
  subst hσ
  obtain ⟨a, b, rfl⟩ : ∃ a b, ρ = [a, b] := by
    match ρ, hlen with
    | [a, b], _ => exact ⟨a, b, rfl⟩
  obtain ⟨v1, g1, who, rfl, e1⟩ := hl _ (List.mem_cons_of_mem _ List.mem_cons_self)
  obtain ⟨v2, g2, s, rfl, e2⟩ := hl _ (List.mem_cons_of_mem _ (List.mem_cons_of_mem _ List.mem_cons_self))
  have e1 : some ((0 : Int) + (1 * a + 0)) = some who.toInt := e1
  have e2 : some ((0 : Int) + (1 * b + 0)) = some s.toInt := e2
  have f1 : a = who.toInt := by have := Option.some.inj e1; omega
  have f2 : b = s.toInt := by have := Option.some.inj e2; omega
  subst f1
  subst f2
  refine (xseg_ok (V := xVV) (X := xX) (W := xW) (og := og) (E := []) (Eo := xs_w0_o) (c := xs_w0) (s := xs_w0_s) (MT := xs_w0_m) (CT := xs_w0_u) (by
    simp only [xs_w0_m, List.forall_mem_cons]
    exact ⟨rfl, rfl, fun _ h => by cases h⟩) (fun _ h => by cases h) xFl_good xXW_ok xs_w0_ok (fun e he => by cases he) rfl (ρ := [who.toInt, s.toInt]) (r0 := []) (σ := []) (s0 := []) (τ := τ) (h := h) (lc := lc) (sc := []) rfl rfl ?_ hH hX hD hl trivial).mono (fun r h' hq => xQc_of (c := xc_256) (np := 2) rfl rfl (xWQ_of (c := xs_w0) (np := 2) rfl hq))
  intro e he r s' τ1 h' lc sc hH1 hX1 hF1 hW1 hD1 hl1 hs1
  have he := List.mem_singleton.mp he
  subst he
  have hs1 := xsk_nil hs1
  subst hs1
  obtain ⟨x, x1, x2, x3⟩ := hD1.1.1.1 _ List.mem_cons_self
  have x1 : some who.toInt = some x := x1
  cases x1
  obtain ⟨y, y1, y2, y3⟩ := hD1.1.1.1 _ (List.mem_cons_of_mem _ List.mem_cons_self)
  have y1 : some s.toInt = some y := y1
  cases y1
  obtain ⟨c, f6, c0, c16⟩ := xfo_int (k := 55) (f := 6) hH1 rfl rfl rfl
  have c0 : 0 ≤ c.toInt := c0
  have c16 : c.toInt ≤ 16 := c16
  obtain ⟨kD, hD2, hkD, -⟩ := xcf_a (ad := 69) hH1 (hH1.2.2 69 rfl) (show xKT 69 = some (.inr _) from rfl)
  obtain ⟨kS, hS2, hkS, -⟩ := xcf_a (ad := 62) hH1 (hH1.2.2 62 rfl) (show xKT 62 = some (.inr _) from rfl)
  obtain ⟨fD, rfl⟩ := hkD
  obtain ⟨fS, rfl⟩ := hkS
  have hcN : c = Int32.ofNat c.toInt.toNat := xeqn (by omega) (by omega)
  have go := zh_w57 (og := og) (d := 56) (who := who) (s := s) hH1 f6 hD2 hS2 hcN (by omega) (zh_w101 hcN (by omega) ⟨x2, x3⟩ ⟨y2, y3⟩ hH1 hX1 f6 hD2 hS2) c.toInt.toNat 0 (by omega)
  refine zy_sub _ (by simp) (fun q hq => ?_) (go.mono (fun r2 h2 hq => xQc_of (np := 2) rfl rfl (xWQ_tr hF1 hW1 hq)))
  simp only [List.mem_cons, List.not_mem_nil, or_false] at hq
  rcases hq with rfl | rfl | rfl | rfl | rfl
  · exact xl_ref hl1 List.mem_cons_self
  · exact xl_int hl1 (List.mem_cons_of_mem _ List.mem_cons_self) (xe_sym (s := 0) rfl)
  · exact xl_int hl1 (List.mem_cons_of_mem _ (List.mem_cons_of_mem _ List.mem_cons_self)) (xe_sym (s := 1) rfl)
  · exact xl_int hl1 (List.mem_cons_of_mem _ (List.mem_cons_of_mem _ (List.mem_cons_of_mem _ List.mem_cons_self))) rfl
  · exact xl_int hl1 (List.mem_cons_of_mem _ (List.mem_cons_of_mem _ (List.mem_cons_of_mem _ (List.mem_cons_of_mem _ List.mem_cons_self)))) rfl
end XWK4
