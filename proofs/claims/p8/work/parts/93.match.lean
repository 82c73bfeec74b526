/-! By hand: the model's match, the tables and the way back -/
section XMT2
variable {og : Nat → Option zm_C} {τ0 : List Nat} {h0 : zm_H} {fZ : Nat → Int32} {a b g : Int32} {SA SB : Nat}
theorem xmul_s {g : Int} {S n : Nat} : g * ((S : Int) - (n : Int)) = g * ((S : Int) - ((n + 1 : Nat) : Int)) + g := by
  have e : (S : Int) - (n : Int) = ((S : Int) - ((n + 1 : Nat) : Int)) + 1 := by omega
  rw [e, Int.mul_add, Int.mul_one]
theorem xcol_new {f : Nat → Int32} {n : Nat} {v : Int32} {g : Int} (hn : n ≤ SA) (hSB : SB ≤ 60) (hv : v.toInt = g * ((SA : Int) - (n : Int))) (hc : xcol f SA SB g (n + 1)) : xcol (upd f (61 * n + SB) v) SA SB g n := by
  intro i h1 h2
  show (if 61 * i + SB = 61 * n + SB then v else f (61 * i + SB)).toInt = _
  by_cases e : i = n
  · subst e
    rw [if_pos rfl]
    exact hv
  · rw [if_neg (by omega)]
    exact hc i (by omega) h2
set_option maxRecDepth 20000 in
/-- the whole table, then the rest -/
theorem zh_m143 {Q : Option Value → zm_H → Prop} (ha : 0 ≤ a.toInt ∧ a.toInt ≤ 3) (hb : 0 ≤ b.toInt ∧ b.toInt ≤ 3) (hg : 0 ≤ g.toInt ∧ g.toInt ≤ 1000) (hsa : fZ a.toNatClampNeg = Int32.ofNat SA) (hsb : fZ b.toNatClampNeg = Int32.ofNat SB) (hSA : SA ≤ 60) (hSB : SB ≤ 60)
    (kk : ∀ (τ1 : List Nat) (h1 : zm_H) (f1 : Nat → Int32), xmI τ0 h0 τ1 h1 fZ f1 → xcol f1 SA SB g.toInt 0 → zm_Y og 12 276 355 [(0, .ref 55), (1, .int a), (2, .int b), (3, .int g)] [] h1 Q) : ∀ (n : Nat) (x : Int32) (τ : List Nat) (h : zm_H) (f : Nat → Int32), x.toInt = (n : Int) - 1 → n ≤ SA + 1 → xmI τ0 h0 τ h fZ f → xcol f SA SB g.toInt n → zm_Y og 12 276 143 [(0, .ref 55), (1, .int a), (2, .int b), (3, .int g), (4, .int x)] [] h Q
  | 0, x, τ, h, f, hx, hn, hI, hc => by
    refine zy_n 1 (mr := zm_m276) rfl (show _ = some (145, [(0, .ref 55), (1, .int a), (2, .int b), (3, .int g), (4, .int x)], [.int x]) from rfl) ?_
    refine zy_b (mr := zm_m276) rfl rfl (show _ = some (zm_if .lt x 355 148, []) from rfl) ?_
    refine zi_lt (fun _ => ?_) (fun e => absurd (Int32.lt_iff_toInt_lt.mpr (by rw [hx]; decide)) e)
    exact zy_sub _ (by simp) (fun q hq => by simp only [List.mem_cons, List.not_mem_nil, or_false] at hq; rcases hq with rfl | rfl | rfl | rfl <;> rfl) (kk τ h f hI hc)
  | n + 1, x, τ, h, f, hx, hn, hI, hc => by
    have hx1 : x.toInt = (n : Int) := by omega
    have eA := (xofn (k := SA) (by omega)).1
    have eB := (xofn (k := SB) (by omega)).1
    have hb4 := xin_ok (j := b) (n := 4) hb.1 (by omega)
    have next : ∀ (τ1 : List Nat) (h1 : zm_H) (f1 : Nat → Int32), xmI τ0 h0 τ1 h1 fZ f1 → xcol f1 SA SB g.toInt n → zm_Y og 12 276 143 [(0, .ref 55), (1, .int a), (2, .int b), (3, .int g), (4, .int (x + -1))] [] h1 Q := fun τ1 h1 f1 p q => zh_m143 ha hb hg hsa hsb hSA hSB kk n (x + -1) τ1 h1 f1 (xsub1 hx1 (by omega)) (by omega) p q
    have back : ∀ (τ1 : List Nat) (h1 : zm_H) (v : Int32), xmI τ0 h0 τ1 h1 fZ f → v.toInt = g.toInt * ((SA : Int) - (n : Int)) → zm_Y og 12 276 328 [(0, .ref 55), (1, .int a), (2, .int b), (3, .int g), (4, .int x), (5, .int (Int32.ofNat SB)), (6, .int v)] [] h1 Q := by
      intro τ1 h1 v hI1 hv
      refine zh_m328 hI1 hx1 eB (by omega) (by omega) ?_
      exact zh_m156 ha hb hg hsa hsb hSA hSB hx1 (by omega) next SB (Int32.ofNat SB + -1) _ _ _ (xsub1 eB (by omega)) (Nat.le_refl _) (xmI_set hI1) (xcol_new (by omega) hSB hv hc)
    refine zy_n 1 (mr := zm_m276) rfl (show _ = some (145, [(0, .ref 55), (1, .int a), (2, .int b), (3, .int g), (4, .int x)], [.int x]) from rfl) ?_
    refine zy_b (mr := zm_m276) rfl rfl (show _ = some (zm_if .lt x 355 148, []) from rfl) ?_
    refine zi_lt (fun e => absurd e (xnng (by omega)).1) (fun _ => ?_)
    refine zy_n 1 (mr := zm_m276) rfl (show _ = some (149, [(0, .ref 55), (1, .int a), (2, .int b), (3, .int g), (4, .int x)], [.ref 55]) from rfl) ?_
    refine zy_h (mr := zm_m276) rfl rfl (zh_gm hI.1 (xfo_ref (k := 55) (f := 2) (a := 57) hI.1 rfl rfl rfl)) ?_
    refine zy_n 1 (mr := zm_m276) rfl (show _ = some (153, [(0, .ref 55), (1, .int a), (2, .int b), (3, .int g), (4, .int x)], [.int b, .ref 57]) from rfl) ?_
    refine zy_h (mr := zm_m276) rfl rfl (zh_iald (v := Int32.ofNat SB) hI.2.2.2.2.1 hb4.1 hsb) ?_
    refine zy_n 2 (mr := zm_m276) rfl (show _ = some (158, [(5, .int (Int32.ofNat SB)), (0, .ref 55), (1, .int a), (2, .int b), (3, .int g), (4, .int x)], [.int (Int32.ofNat SB)]) from rfl) ?_
    refine zy_b (mr := zm_m276) rfl rfl (show _ = some (zm_if .lt (Int32.ofNat SB) 349 161, []) from rfl) ?_
    refine zi_lt (fun e => absurd e (xnng (by omega)).1) (fun _ => ?_)
    refine zy_sub [(0, .ref 55), (1, .int a), (2, .int b), (3, .int g), (4, .int x), (5, .int (Int32.ofNat SB))] (by simp) (fun q hq => by simp only [List.mem_cons, List.not_mem_nil, or_false] at hq; rcases hq with rfl | rfl | rfl | rfl | rfl | rfl <;> rfl) ?_
    by_cases hnS : n = SA
    · subst hnS
      have ex : x = Int32.ofNat n := xeqn hx1 (by omega)
      subst ex
      refine xq_xs_m2 (sa := Int32.ofNat n) (sb := Int32.ofNat SB) hI.1 hI.2.1 ha hb hg (by omega) (by omega) (xmsz hI ha hsa hSA) (xmsz hI hb hsb hSB) (fun τ1 h1 v6 p1 p2 p3 p4 p5 => ?_)
      exact back τ1 h1 v6 (xmI_seg hI (fun k g hk => by cases hk) rfl rfl p1 p2 p3 p4) (by rw [← p5, Int.sub_self, Int.mul_zero]; rfl)
    · have hnl : n + 1 ≤ SA := by omega
      have hbd := xcol_bnd hg hSA hc (Nat.le_refl (n + 1)) hnl
      have hv1 := hc (n + 1) (Nat.le_refl _) hnl
      have hlt : 61 * (n + 1) + SB < 3721 := by omega
      refine xq_xs_m3 (sa := Int32.ofNat SA) (sb := Int32.ofNat SB) (c := f (61 * (n + 1) + SB)) hI.1 hI.2.1 ha hb hg (by omega) (by omega) (by omega) hbd (by omega) (xmsz hI ha hsa hSA) (xmsz hI hb hsb hSB) ⟨61 * (n + 1) + SB, f (61 * (n + 1) + SB), by rw [eB, hx1]; omega, by simp only [xar, hI.2.2.2.2.2, if_pos hlt, zm_kv], by omega⟩ (fun τ1 h1 v6 p1 p2 p3 p4 p5 => ?_)
      refine back τ1 h1 v6 (xmI_seg hI (fun k g hk => by cases hk) rfl rfl p1 p2 p3 p4) ?_
      rw [← p5, hv1, xmul_s (n := n)]
      omega
set_option maxRecDepth 20000 in
/-- the way back -/
theorem zh_m371 {f : Nat → Int32} (ha : 0 ≤ a.toInt ∧ a.toInt ≤ 3) (hb : 0 ≤ b.toInt ∧ b.toInt ≤ 3) (hg : 0 ≤ g.toInt ∧ g.toInt ≤ 1000) (hsa : fZ a.toNatClampNeg = Int32.ofNat SA) (hsb : fZ b.toNatClampNeg = Int32.ofNat SB) (hSA : SA ≤ 60) (hSB : SB ≤ 60) (hc : xcol f SA SB g.toInt 0) : ∀ (k i j : Nat) (τ : List Nat) (h : zm_H), (SA - i) + (SB - j) = k → i ≤ SA → j ≤ SB → xmI τ0 h0 τ h fZ f → zm_Y og 12 276 371 [(0, .ref 55), (1, .int a), (2, .int b), (3, .int g), (4, .int (Int32.ofNat i)), (5, .int (Int32.ofNat j))] [] h (xWQ xVV xX xW xMM 0 τ0 h0) := by
  intro k
  induction k using Nat.strongRecOn with
  | ind k ih =>
    intro i j τ h hk hi hj hI
    have eA := (xofn (k := SA) (by omega)).1
    have eB := (xofn (k := SB) (by omega)).1
    have ei := (xofn (k := i) (by omega)).1
    have ej := (xofn (k := j) (by omega)).1
    have ha4 := xin_ok (j := a) (n := 4) ha.1 (by omega)
    refine zy_n 2 (mr := zm_m276) rfl (show _ = some (374, [(0, .ref 55), (1, .int a), (2, .int b), (3, .int g), (4, .int (Int32.ofNat i)), (5, .int (Int32.ofNat j))], [.ref 55, .int (Int32.ofNat i)]) from rfl) ?_
    refine zy_h (mr := zm_m276) rfl rfl (zh_gm hI.1 (xfo_ref (k := 55) (f := 2) (a := 57) hI.1 rfl rfl rfl)) ?_
    refine zy_n 1 (mr := zm_m276) rfl (show _ = some (378, [(0, .ref 55), (1, .int a), (2, .int b), (3, .int g), (4, .int (Int32.ofNat i)), (5, .int (Int32.ofNat j))], [.int a, .ref 57, .int (Int32.ofNat i)]) from rfl) ?_
    refine zy_h (mr := zm_m276) rfl rfl (zh_iald (v := Int32.ofNat SA) hI.2.2.2.2.1 ha4.1 hsa) ?_
    refine zy_b (mr := zm_m276) rfl rfl (show _ = some (zm_ic .ge (Int32.ofNat i) (Int32.ofNat SA) 510 382, []) from rfl) ?_
    refine zc_ge (fun _ => ?_) (fun hlt => ?_)
    · refine zy_n 1 (mr := zm_m276) rfl (show _ = some (511, [(0, .ref 55), (1, .int a), (2, .int b), (3, .int g), (4, .int (Int32.ofNat i)), (5, .int (Int32.ofNat j))], [.ref 55]) from rfl) ?_
      refine zy_h (mr := zm_m276) rfl rfl (zh_gm hI.1 (xm106 hI.1)) ?_
      refine zy_n 1 (mr := zm_m276) rfl (show _ = some (515, [(0, .ref 55), (1, .int a), (2, .int b), (3, .int g), (4, .int (Int32.ofNat i)), (5, .int (Int32.ofNat j))], [.int 0, .ref 115]) from rfl) ?_
      refine zy_h (mr := zm_m276) rfl rfl (zh_iald (v := f 0) hI.2.2.2.2.2 rfl rfl) ?_
      exact zy_r (mr := zm_m276) rfl rfl (show _ = some (some (.int (f 0))) from rfl) ⟨⟨_, rfl⟩, τ, hI.1, hI.2.1, hI.2.2.1, hI.2.2.2.1⟩
    · have hiS : i < SA := by
        rcases Nat.lt_or_ge i SA with z | z
        · exact z
        · exact absurd (Int32.le_iff_toInt_le.mpr (by rw [eA, ei]; omega)) hlt
      have m116 : ∀ k g, xms [(116, 0)] k g = true → xms xMM k g = true := fun k g hk => xms_sub (a := [(116, 0)]) (b := xMM) rfl k g hk
      by_cases hjS : j < SB
      · refine xq_xs_m5 (sa := Int32.ofNat SA) (sb := Int32.ofNat SB) hI.1 hI.2.1 ha hb hg (by omega) (by omega) (by omega) (by omega) (by omega) (by omega) (xmsz hI ha hsa hSA) (xmsz hI hb hsb hSB) (fun τ1 h1 v4 v5 p1 p2 p3 p4 p5 p6 => ?_) (fun τ1 h1 v4 p1 p2 p3 p4 p5 => ?_) (fun τ1 h1 v5 p1 p2 p3 p4 p5 => ?_)
        · rw [xeqn (c := v4) (k := i + 1) (by omega) (by omega), xeqn (c := v5) (k := j + 1) (by omega) (by omega)]
          exact ih _ (by omega) (i + 1) (j + 1) τ1 h1 rfl (by omega) (by omega) (xmI_seg hI m116 rfl rfl p1 p2 p3 p4)
        · rw [xeqn (c := v4) (k := i + 1) (by omega) (by omega)]
          exact ih _ (by omega) (i + 1) j τ1 h1 rfl (by omega) (by omega) (xmI_seg hI m116 rfl rfl p1 p2 p3 p4)
        · rw [xeqn (c := v5) (k := j + 1) (by omega) (by omega)]
          exact ih _ (by omega) i (j + 1) τ1 h1 rfl (by omega) (by omega) (xmI_seg hI m116 rfl rfl p1 p2 p3 p4)
      · have ejS : j = SB := by omega
        subst ejS
        have hbd := xcol_bnd hg hSA hc (Nat.zero_le (i + 1)) hiS
        have v1 := hc (i + 1) (Nat.zero_le _) hiS
        have v0 := hc i (Nat.zero_le _) (by omega)
        rw [xmul_s (n := i)] at v0
        have hl0 : 61 * i + j < 3721 := by omega
        have hl1 : 61 * (i + 1) + j < 3721 := by omega
        refine xq_xs_m6 (sa := Int32.ofNat SA) (sb := Int32.ofNat j) (c := f (61 * (i + 1) + j)) hI.1 hI.2.1 ha hb hg (by omega) (by omega) (by omega) hbd (by omega) (xmsz hI ha hsa hSA) (xmsz hI hb hsb hSB) ⟨61 * i + j, f (61 * i + j), by rw [ej, ei]; omega, by simp only [xar, hI.2.2.2.2.2, if_pos hl0, zm_kv], by rw [v0, v1]; omega⟩ ⟨61 * (i + 1) + j, f (61 * (i + 1) + j), by rw [ej, ei]; omega, by simp only [xar, hI.2.2.2.2.2, if_pos hl1, zm_kv], by omega⟩ (fun τ1 h1 v4 p1 p2 p3 p4 p5 => ?_)
        rw [xeqn (c := v4) (k := i + 1) (by omega) (by omega)]
        exact ih _ (by omega) (i + 1) j τ1 h1 rfl (by omega) (by omega) (xmI_seg hI m116 rfl rfl p1 p2 p3 p4)
set_option maxRecDepth 20000 in
theorem zh_m355 {f : Nat → Int32} {τ : List Nat} {h : zm_H} (ha : 0 ≤ a.toInt ∧ a.toInt ≤ 3) (hb : 0 ≤ b.toInt ∧ b.toInt ≤ 3) (hg : 0 ≤ g.toInt ∧ g.toInt ≤ 1000) (hsa : fZ a.toNatClampNeg = Int32.ofNat SA) (hsb : fZ b.toNatClampNeg = Int32.ofNat SB) (hSA : SA ≤ 60) (hSB : SB ≤ 60) (hI : xmI τ0 h0 τ h fZ f) (hc : xcol f SA SB g.toInt 0) : zm_Y og 12 276 355 [(0, .ref 55), (1, .int a), (2, .int b), (3, .int g)] [] h (xWQ xVV xX xW xMM 0 τ0 h0) := by
  have m108 : ∀ k g, xms [(55, 108)] k g = true → xms xMM k g = true := fun k g hk => xms_sub (a := [(55, 108)]) (b := xMM) rfl k g hk
  refine xq_xs_m4 hI.1 hI.2.1 ha hb hg (fun τ1 h1 v4 v5 p1 p2 p3 p4 p5 p6 => ?_)
  rw [xeqn (c := v4) (k := 0) (by omega) (by omega), xeqn (c := v5) (k := 0) (by omega) (by omega)]
  exact zh_m371 ha hb hg hsa hsb hSA hSB hc _ 0 0 τ1 h1 rfl (by omega) (by omega) (xmI_seg hI m108 rfl rfl p1 p2 p3 p4)
theorem xv_257 : xV xVV xX xW og xc_257 := by
  intro ρ σ τ h lc hH hX hD hl
  have hlen : ρ.length = 3 := hD.1.2.symm
  have hσ : σ.length = 0 := hD.2.1.1
  have hσ := List.length_eq_zero_iff.mp hσ
  subst hσ
  obtain ⟨a', b', g', rfl⟩ : ∃ a b g, ρ = [a, b, g] := by
    match ρ, hlen with
    | [a, b, g], _ => exact ⟨a, b, g, rfl⟩
  obtain ⟨v1, q1, a, rfl, e1⟩ := hl _ (List.mem_cons_of_mem _ List.mem_cons_self)
  obtain ⟨v2, q2, b, rfl, e2⟩ := hl _ (List.mem_cons_of_mem _ (List.mem_cons_of_mem _ List.mem_cons_self))
  obtain ⟨v3, q3, g, rfl, e3⟩ := hl _ (List.mem_cons_of_mem _ (List.mem_cons_of_mem _ (List.mem_cons_of_mem _ List.mem_cons_self)))
  have e1 : some ((0 : Int) + (1 * a' + 0)) = some a.toInt := e1
  have e2 : some ((0 : Int) + (1 * b' + 0)) = some b.toInt := e2
  have e3 : some ((0 : Int) + (1 * g' + 0)) = some g.toInt := e3
  have f1 : a' = a.toInt := by have := Option.some.inj e1; omega
  have f2 : b' = b.toInt := by have := Option.some.inj e2; omega
  have f3 : g' = g.toInt := by have := Option.some.inj e3; omega
  subst f1
  subst f2
  subst f3
  refine (xseg_ok (V := xVV) (X := xX) (W := xW) (og := og) (E := xs_m0_e) (Eo := xs_m0_o) (c := xs_m0) (s := xs_m0_s) (MT := xs_m0_m) (CT := xs_m0_u) (by
    simp only [xs_m0_m, List.forall_mem_cons]
    exact ⟨rfl, rfl, rfl, rfl, fun _ h => by cases h⟩) (fun _ h => by cases h) xFl_good xXW_ok xs_m0_ok (List.all_eq_true.mp xs_m0_ok1) rfl (ρ := [a.toInt, b.toInt, g.toInt]) (r0 := []) (σ := []) (s0 := []) (τ := τ) (h := h) (lc := lc) (sc := []) rfl rfl ?_ hH hX hD hl trivial).mono (fun r h' hq => xQc_of (c := xc_257) (np := 3) rfl rfl (xWQ_of (c := xs_m0) (np := 3) rfl hq))
  intro e he r s' τ1 h' lc sc hH1 hX1 hF1 hW1 hD1 hl1 hs1
  have he := List.mem_singleton.mp he
  subst he
  have hs1 := xsk_nil hs1
  subst hs1
  have hlen : ([a.toInt, b.toInt, g.toInt] ++ r).length = 4 := hD1.1.2.symm
  obtain ⟨x3, rfl⟩ : ∃ x3, r = [x3] := by
    match r, hlen with
    | [x3], _ => exact ⟨x3, rfl⟩
  obtain ⟨y0, z0, l0, u0⟩ := hD1.1.1.1 _ List.mem_cons_self
  have z0 : some a.toInt = some y0 := z0
  cases z0
  obtain ⟨y1, z1, l1, u1⟩ := hD1.1.1.1 _ (List.mem_cons_of_mem _ List.mem_cons_self)
  have z1 : some b.toInt = some y1 := z1
  cases z1
  obtain ⟨y2, z2, l2, u2⟩ := hD1.1.1.1 _ (List.mem_cons_of_mem _ (List.mem_cons_of_mem _ List.mem_cons_self))
  have z2 : some g.toInt = some y2 := z2
  cases z2
  obtain ⟨ad, j, w, p1, p2, p3, z, rfl, p4⟩ := hD1.2.2.2 _ List.mem_cons_self
  have p1 : some 57 = some ad := p1
  cases p1
  have p2 : some ((0 : Int) + (1 * a.toInt + 0)) = some (j : Int) := p2
  have p2 := Option.some.inj p2
  have p4 : some ((0 : Int) + (1 * x3 + 0)) = some z.toInt := p4
  have p4 := Option.some.inj p4
  have la : 0 ≤ a.toInt ∧ a.toInt ≤ 3 := ⟨l0, u0⟩
  have lb : 0 ≤ b.toInt ∧ b.toInt ≤ 3 := ⟨l1, u1⟩
  have lg : 0 ≤ g.toInt ∧ g.toInt ≤ 1000 := ⟨l2, u2⟩
  obtain ⟨kZ, hZ, hkZ, hel⟩ := xcf_a (ad := 57) hH1 (hH1.2.2 57 rfl) (show xKT 57 = some (.inr _) from rfl)
  obtain ⟨fZ, rfl⟩ := hkZ
  obtain ⟨kC, hC, hkC, -⟩ := xcf_a (ad := 115) hH1 (hH1.2.2 115 rfl) (show xKT 115 = some (.inr _) from rfl)
  obtain ⟨f, rfl⟩ := hkC
  have siz : ∀ c : Int32, 0 ≤ c.toInt ∧ c.toInt ≤ 3 → fZ c.toNatClampNeg = Int32.ofNat (fZ c.toNatClampNeg).toInt.toNat ∧ (fZ c.toNatClampNeg).toInt.toNat ≤ 60 := by
    intro c hc
    have h1 := xin_ok (j := c) (n := 4) hc.1 (by omega)
    obtain ⟨q, hq, hs, -⟩ := hel c.toNatClampNeg h1.2.2
    have hq := List.mem_singleton.mp hq
    subst hq
    obtain ⟨i, hi, hi1, hi2⟩ := hs
    have hi : Value.int (fZ c.toNatClampNeg) = .int i := hi
    have hi := Value.int.inj hi
    have hi1 : (0 : Int) ≤ i.toInt := hi1
    have hi2 : i.toInt ≤ (60 : Int) := hi2
    rw [hi]
    exact ⟨xeqn (by omega) (by omega), by omega⟩
  obtain ⟨sA, sA6⟩ := siz a la
  obtain ⟨sB, sB6⟩ := siz b lb
  have hI : xmI τ h τ1 h' fZ f := ⟨hH1, hX1, hF1, hW1, hZ, hC⟩
  have hja : j = a.toNatClampNeg := by
    have := (xin_ok (j := a) (n := 4) la.1 (by omega)).2.1
    omega
  have hza : z = fZ a.toNatClampNeg := by
    have h4 : a.toNatClampNeg < 4 := (xin_ok (j := a) (n := 4) la.1 (by omega)).2.2
    rw [hja] at p3
    simp only [xar, hZ, if_pos h4, zm_kv] at p3
    exact (Value.int.inj (Option.some.inj p3)).symm
  have hzS : z.toInt = ((fZ a.toNatClampNeg).toInt.toNat : Int) := by
    rw [hza]
    have := congrArg Int32.toInt sA
    rw [(xofn (k := (fZ a.toNatClampNeg).toInt.toNat) (by omega)).1] at this
    exact this
  have go := zh_m143 (og := og) (τ0 := τ) (h0 := h) la lb lg sA sB sA6 sB6 (fun τ2 h2 f2 r1 r2 => zh_m355 la lb lg sA sB sA6 sB6 r1 r2) ((fZ a.toNatClampNeg).toInt.toNat + 1) z τ1 h' f (by omega) (Nat.le_refl _) hI (fun i h1 h2 => by omega)
  refine zy_sub _ (by simp) (fun q hq => ?_) (go.mono (fun r2 h2 hq => xQc_of (c := xs_m0) (np := 3) rfl rfl hq))
  simp only [List.mem_cons, List.not_mem_nil, or_false] at hq
  rcases hq with rfl | rfl | rfl | rfl | rfl
  · exact xl_ref hl1 List.mem_cons_self
  · exact xl_int hl1 (List.mem_cons_of_mem _ List.mem_cons_self) (xe_sym (s := 0) rfl)
  · exact xl_int hl1 (List.mem_cons_of_mem _ (List.mem_cons_of_mem _ List.mem_cons_self)) (xe_sym (s := 1) rfl)
  · exact xl_int hl1 (List.mem_cons_of_mem _ (List.mem_cons_of_mem _ (List.mem_cons_of_mem _ List.mem_cons_self))) (xe_sym (s := 2) rfl)
  · exact xl_int hl1 (List.mem_cons_of_mem _ (List.mem_cons_of_mem _ (List.mem_cons_of_mem _ (List.mem_cons_of_mem _ List.mem_cons_self)))) (congrArg some p4)
end XMT2
