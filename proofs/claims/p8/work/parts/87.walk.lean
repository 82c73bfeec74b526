/-! By hand: the model's walk, second loop and the whole -/
section XWK3
variable {og : Nat → Option zm_C}
theorem xkeep_f {ms : List (Nat × Nat)} {τ τ1 : List Nat} {h h1 : zm_H} {f k : Nat} {v : Value} (hH : xHI xKT xSG τ h) (hs : xSG k = true) (hF : xF (xms ms) τ h τ1 h1) (hm : xms ms k f = false) (hv : xfd h k f = some v) : xfd h1 k f = some v := hF.2.1 k k f v (hH.2.2 k hs) hm hv
theorem xkeep_a {ms : List (Nat × Nat)} {τ τ1 : List Nat} {h h1 : zm_H} {k : Nat} {c : Nat × Nat × zm_K} (hH : xHI xKT xSG τ h) (hs : xSG k = true) (hF : xF (xms ms) τ h τ1 h1) (hm : xms ms k 0 = false) (hv : h[k]? = some (.inl c)) : h1[k]? = some (.inl c) := hF.2.2 k k c (hH.2.2 k hs) hm hv
theorem zh_w143 {c who s n t : Int32} {fD fS : Nat → Int32} {N : Nat} (hc : c = Int32.ofNat N) (hN : N ≤ 16) (w0 : 0 ≤ who.toInt ∧ who.toInt ≤ 3) (s0 : 0 ≤ s.toInt ∧ s.toInt ≤ 3) (n0 : 0 ≤ n.toInt ∧ n.toInt ≤ 16) (t0 : -1 ≤ t.toInt ∧ t.toInt ≤ 11) : ∀ (m k : Nat) (τ : List Nat) (h : zm_H) (L : Int32), k + m = N → xHI xKT xSG τ h → xX τ h → xfd h 55 6 = some (.int c) → h[69]? = some (.inl (3, 16, .inl fD)) → h[62]? = some (.inl (0, 16, .inl fS)) → xfd h 55 8 = some (.int L) → 0 ≤ L.toInt → L.toInt + ((xcnt fD fS s N : Int) - (xcnt fD fS s k : Int)) ≤ 1200 →
    zm_Y og 56 261 143 [(0, .ref 55), (1, .int who), (2, .int s), (3, .int n), (4, .int t), (5, .int (Int32.ofNat k))] [] h (xWQ xVV xX xW xs_w2.2.2.2.1 0 τ h)
  | 0, k, τ, h, L, hk, hH, hX, f6, hD, hS, f8, L0, hL => by
    subst hc
    refine zy_n 2 (mr := zm_m261) rfl (show _ = some (146, [(0, .ref 55), (1, .int who), (2, .int s), (3, .int n), (4, .int t), (5, .int (Int32.ofNat k))], [.ref 55, .int (Int32.ofNat k)]) from rfl) ?_
    refine zy_h (mr := zm_m261) rfl rfl (zh_gm hH f6) ?_
    refine zy_b (mr := zm_m261) rfl rfl (show _ = some (zm_ic .ge (Int32.ofNat k) (Int32.ofNat N) 210 152, []) from rfl) ?_
    have e : k = N := by omega
    subst e
    refine zc_ge (fun _ => ?_) (fun e => absurd (Int32.le_refl _) e)
    refine zy_n 1 (mr := zm_m261) rfl (show _ = some (211, [(0, .ref 55), (1, .int who), (2, .int s), (3, .int n), (4, .int t), (5, .int (Int32.ofNat k))], [.int n]) from rfl) ?_
    exact zy_r (mr := zm_m261) rfl rfl (show _ = some (some (.int n)) from rfl) ⟨⟨n, rfl⟩, τ, hH, hX, xF_refl _ _ _, Nat.le_refl _⟩
  | m + 1, k, τ, h, L, hk, hH, hX, f6, hD, hS, f8, L0, hL => by
    have hkN : k < N := by omega
    have ek := (xofn (k := k) (by omega))
    have eN := (xofn (k := N) (by omega))
    have adv : ∀ (τ1 : List Nat) (h1 : zm_H) (L1 : Int32), xHI xKT xSG τ1 h1 → xX τ1 h1 → xfd h1 55 6 = some (.int c) → h1[69]? = some (.inl (3, 16, .inl fD)) → h1[62]? = some (.inl (0, 16, .inl fS)) → xfd h1 55 8 = some (.int L1) → 0 ≤ L1.toInt → L1.toInt + ((xcnt fD fS s N : Int) - (xcnt fD fS s (k + 1) : Int)) ≤ 1200 → zm_Y og 56 261 204 [(0, .ref 55), (1, .int who), (2, .int s), (3, .int n), (4, .int t), (5, .int (Int32.ofNat k))] [] h1 (xWQ xVV xX xW xs_w2.2.2.2.1 0 τ1 h1) := by
      intro τ1 h1 L1 a1 a2 a3 a4 a5 a6 a7 a8
      have ih := zh_w143 hc hN w0 s0 n0 t0 m (k + 1) τ1 h1 L1 (by omega) a1 a2 a3 a4 a5 a6 a7 a8
      refine zy_n 2 (mr := zm_m261) rfl (show _ = some (143, [(5, .int (Int32.ofNat k + 1)), (0, .ref 55), (1, .int who), (2, .int s), (3, .int n), (4, .int t)], []) from rfl) ?_
      rw [xofs (by omega)]
      exact zy_sub _ (by simp) (fun q hq => by simp only [List.mem_cons, List.not_mem_nil, or_false] at hq; rcases hq with rfl | rfl | rfl | rfl | rfl | rfl <;> rfl) ih
    have hcS := hc
    subst hc
    refine zy_n 2 (mr := zm_m261) rfl (show _ = some (146, [(0, .ref 55), (1, .int who), (2, .int s), (3, .int n), (4, .int t), (5, .int (Int32.ofNat k))], [.ref 55, .int (Int32.ofNat k)]) from rfl) ?_
    refine zy_h (mr := zm_m261) rfl rfl (zh_gm hH f6) ?_
    refine zy_b (mr := zm_m261) rfl rfl (show _ = some (zm_ic .ge (Int32.ofNat k) (Int32.ofNat N) 210 152, []) from rfl) ?_
    refine zc_ge (fun e => ?_) (fun _ => ?_)
    · have := Int32.le_iff_toInt_le.mp e
      rw [ek.1, eN.1] at this
      omega
    have hin : zm_in (Int32.ofNat k) 16 = true := (xin_ok (n := 16) (by rw [ek.1]; omega) (by rw [ek.1]; omega)).1
    refine zy_n 1 (mr := zm_m261) rfl (show _ = some (153, [(0, .ref 55), (1, .int who), (2, .int s), (3, .int n), (4, .int t), (5, .int (Int32.ofNat k))], [.ref 55]) from rfl) ?_
    refine zy_h (mr := zm_m261) rfl rfl (zh_gm hH (xfo_ref (k := 55) (f := 24) (a := 69) hH rfl rfl rfl)) ?_
    refine zy_n 1 (mr := zm_m261) rfl (show _ = some (158, [(0, .ref 55), (1, .int who), (2, .int s), (3, .int n), (4, .int t), (5, .int (Int32.ofNat k))], [.int (Int32.ofNat k), .ref 69]) from rfl) ?_
    refine zy_h (mr := zm_m261) rfl rfl (zh_zald (v := fD k) hD rfl hin (by rw [ek.2])) ?_
    refine zy_b (mr := zm_m261) rfl rfl (show _ = some (zm_if .ne (fD k) 204 162, []) from rfl) ?_
    have no : ¬ (fD k = 0 ∧ fS k = s) → zm_Y og 56 261 204 [(0, .ref 55), (1, .int who), (2, .int s), (3, .int n), (4, .int t), (5, .int (Int32.ofNat k))] [] h (xWQ xVV xX xW xs_w2.2.2.2.1 0 τ h) := by
      intro hne
      have e1 : xcnt fD fS s (k + 1) = xcnt fD fS s k := by simp only [xcnt, if_neg hne, Nat.add_zero]
      exact adv τ h L hH hX f6 hD hS f8 L0 (by rw [e1]; exact hL)
    refine zi_ne (fun hne => no (fun e => hne e.1)) (fun h0 => ?_)
    refine zy_n 1 (mr := zm_m261) rfl (show _ = some (163, [(0, .ref 55), (1, .int who), (2, .int s), (3, .int n), (4, .int t), (5, .int (Int32.ofNat k))], [.ref 55]) from rfl) ?_
    refine zy_h (mr := zm_m261) rfl rfl (zh_gm hH (xfo_ref (k := 55) (f := 17) (a := 62) hH rfl rfl rfl)) ?_
    refine zy_n 1 (mr := zm_m261) rfl (show _ = some (168, [(0, .ref 55), (1, .int who), (2, .int s), (3, .int n), (4, .int t), (5, .int (Int32.ofNat k))], [.int (Int32.ofNat k), .ref 62]) from rfl) ?_
    refine zy_h (mr := zm_m261) rfl rfl (zh_iald (v := fS k) hS hin (by rw [ek.2])) ?_
    refine zy_n 1 (mr := zm_m261) rfl (show _ = some (170, [(0, .ref 55), (1, .int who), (2, .int s), (3, .int n), (4, .int t), (5, .int (Int32.ofNat k))], [.int s, .int (fS k)]) from rfl) ?_
    refine zy_b (mr := zm_m261) rfl rfl (show _ = some (zm_ic .ne (fS k) s 204 173, []) from rfl) ?_
    refine zc_ne (fun hne => no (fun e => hne e.2)) (fun hs => ?_)
    have e1 : xcnt fD fS s (k + 1) = xcnt fD fS s k + 1 := by simp only [xcnt, if_pos (And.intro h0 hs)]
    have hm1 := xcnt_mono (fD := fD) (fS := fS) (s := s) (k := k + 1) m
    rw [show k + 1 + m = N by omega, e1] at hm1
    have hk15 : (k : Int) ≤ 15 := by omega
    have hL2 : L.toInt ≤ 1199 := by omega
    have ekk : (Int32.ofNat k).toInt = (k : Int) := ek.1
    refine (xseg_ok (V := xVV) (X := xX) (W := xW) (og := og) (E := []) (Eo := xs_w2_o) (c := xs_w2) (s := xs_w2_s) (MT := xs_w2_m) (CT := xs_w2_u) (by
      simp only [xs_w2_m, List.forall_mem_cons]
      exact ⟨rfl, rfl, rfl, rfl, fun _ h => by cases h⟩) (by
      simp only [xs_w2_u, List.forall_mem_cons]
      exact ⟨xv_244, xv_238, fun _ h => by cases h⟩) xFl_good xXW_ok xs_w2_ok (fun e he => by cases he) rfl (ρ := [who.toInt, s.toInt, n.toInt, t.toInt, (k : Int), L.toInt]) (r0 := []) (σ := []) (s0 := []) (τ := τ) (h := h) (lc := [(0, .ref 55), (1, .int who), (2, .int s), (3, .int n), (4, .int t), (5, .int (Int32.ofNat k))]) (sc := []) rfl rfl ?_ hH hX ?_ ?_ trivial).mono (fun r h' hq => xWQ_of (np := 6) rfl hq)
    · intro e he r s' τ1 h' lc sc hH1 hX1 hF1 hW1 hD1 hl1 hs1
      have he := List.mem_singleton.mp he
      subst he
      have hs1 := xsk_nil hs1
      subst hs1
      obtain ⟨ad, v, p1, p2, j, rfl, p3⟩ := hD1.2.2.1 _ (List.mem_singleton.mpr rfl)
      have p1 : some 55 = some ad := p1
      cases p1
      have p3 : xe ([who.toInt, s.toInt, n.toInt, t.toInt, (k : Int), L.toInt] ++ r) (.ofNat 1, [(5, .ofNat 1)]) = some j.toInt := p3
      have p4 : xe ([who.toInt, s.toInt, n.toInt, t.toInt, (k : Int), L.toInt] ++ r) (.ofNat 1, [(5, .ofNat 1)]) = some (1 + (1 * L.toInt + 0)) := rfl
      rw [p4] at p3
      have p5 := Option.some.inj p3
      have a := adv τ1 h' j hH1 hX1 (xkeep_f hH rfl hF1 rfl f6) (xkeep_a hH rfl hF1 rfl hD) (xkeep_a hH rfl hF1 rfl hS) p2 (by omega) (by omega)
      refine zy_sub _ (by simp) (fun q hq => ?_) (a.mono (fun r2 h2 hq => xQc_of (np := 6) rfl rfl (xWQ_tr hF1 hW1 hq)))
      simp only [List.mem_cons, List.not_mem_nil, or_false] at hq
      rcases hq with rfl | rfl | rfl | rfl | rfl | rfl
      · exact xl_ref hl1 List.mem_cons_self
      · exact xl_int hl1 (List.mem_cons_of_mem _ List.mem_cons_self) (xe_sym (s := 0) rfl)
      · exact xl_int hl1 (List.mem_cons_of_mem _ (List.mem_cons_of_mem _ List.mem_cons_self)) (xe_sym (s := 1) rfl)
      · exact xl_int hl1 (List.mem_cons_of_mem _ (List.mem_cons_of_mem _ (List.mem_cons_of_mem _ List.mem_cons_self))) (xe_sym (s := 2) rfl)
      · exact xl_int hl1 (List.mem_cons_of_mem _ (List.mem_cons_of_mem _ (List.mem_cons_of_mem _ (List.mem_cons_of_mem _ List.mem_cons_self)))) (xe_sym (s := 3) rfl)
      · exact xl_int hl1 (List.mem_cons_of_mem _ (List.mem_cons_of_mem _ (List.mem_cons_of_mem _ (List.mem_cons_of_mem _ (List.mem_cons_of_mem _ List.mem_cons_self))))) (by rw [ekk]; exact xe_sym (s := 4) rfl)
    · refine ⟨⟨⟨?_, fun q hq => by cases hq⟩, rfl⟩, ⟨rfl, fun k kd hk => by simp [xs_w2_s] at hk⟩, ?_, fun q hq => by cases hq⟩
      · intro q hq
        have hq : q ∈ [((0 : Nat), Int.ofNat 0, Int.ofNat 3), (1, Int.ofNat 0, Int.ofNat 3), (2, Int.ofNat 0, Int.ofNat 16), (3, Int.negSucc 0, Int.ofNat 11), (4, Int.ofNat 0, Int.ofNat 15), (5, Int.ofNat 0, Int.ofNat 1199)] := hq
        simp only [List.mem_cons, List.not_mem_nil, or_false] at hq
        rcases hq with rfl | rfl | rfl | rfl | rfl | rfl
        · exact ⟨_, rfl, w0.1, w0.2⟩
        · exact ⟨_, rfl, s0.1, s0.2⟩
        · exact ⟨_, rfl, n0.1, n0.2⟩
        · exact ⟨_, rfl, t0.1, t0.2⟩
        · exact ⟨_, rfl, Int.natCast_nonneg k, hk15⟩
        · exact ⟨_, rfl, L0, hL2⟩
      · intro q hq
        have hq := List.mem_singleton.mp hq
        subst hq
        exact ⟨55, _, rfl, f8, L, rfl, xe_sym (s := 5) rfl⟩
    · intro q hq
      have hq : q ∈ [((0 : Nat), ((3 : Nat), xk 0, (55 : Nat))), (1, (0, (.ofNat 0, [(0, .ofNat 1)]), 0)), (2, (0, (.ofNat 0, [(1, .ofNat 1)]), 0)), (3, (0, (.ofNat 0, [(2, .ofNat 1)]), 0)), (4, (0, (.ofNat 0, [(3, .ofNat 1)]), 0)), (5, (0, (.ofNat 0, [(4, .ofNat 1)]), 0))] := hq
      simp only [List.mem_cons, List.not_mem_nil, or_false] at hq
      rcases hq with rfl | rfl | rfl | rfl | rfl | rfl
      · exact ⟨_, rfl, rfl⟩
      · exact ⟨_, rfl, who, rfl, xe_sym (s := 0) rfl⟩
      · exact ⟨_, rfl, s, rfl, xe_sym (s := 1) rfl⟩
      · exact ⟨_, rfl, n, rfl, xe_sym (s := 2) rfl⟩
      · exact ⟨_, rfl, t, rfl, xe_sym (s := 3) rfl⟩
      · exact ⟨_, rfl, Int32.ofNat k, rfl, by rw [ekk]; exact xe_sym (s := 4) rfl⟩
end XWK3
