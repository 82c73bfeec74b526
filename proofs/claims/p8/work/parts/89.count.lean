/-! By hand: the model's count -/
def xact (f : Nat → Int32) (y : Int32) : Nat → Int32
  | 0 => -1
  | k + 1 => if f k ≤ y ∧ (xact f y k = -1 ∨ f (xact f y k).toNatClampNeg < f k) then Int32.ofNat k else xact f y k
theorem xact_rng {f : Nat → Int32} {y : Int32} : ∀ k : Nat, k ≤ 12 → xact f y k = -1 ∨ 0 ≤ (xact f y k).toInt ∧ (xact f y k).toInt < (k : Int)
  | 0, _ => Or.inl rfl
  | k + 1, hk => by
    have ih := xact_rng (f := f) (y := y) k (by omega)
    simp only [xact]
    split
    · right
      rw [(xofn (k := k) (by omega)).1]
      omega
    · rcases ih with e | e
      · exact Or.inl e
      · right; omega
section XCT
variable {og : Nat → Option zm_C} {τ : List Nat} {h : zm_H}
theorem zh_a4 {d : Nat} {c y : Int32} {f : Nat → Int32} (hH : xHI xKT xSG τ h) (f9 : xfd h 55 9 = some (.int c)) (hA : h[97]? = some (.inl (0, 12, .inl f))) {N : Nat} (hc : c = Int32.ofNat N) (hN : N ≤ 12) : ∀ (m k : Nat), k + m = N → zm_Y og d 233 4 [(0, .ref 55), (1, .int y), (2, .int (xact f y k)), (3, .int (Int32.ofNat k))] [] h (fun r h' => h' = h ∧ r = some (.int (xact f y N)))
  | 0, k, hk => by
    subst hc
    refine zy_n 2 (mr := zm_m233) rfl (show _ = some (6, [(0, .ref 55), (1, .int y), (2, .int (xact f y k)), (3, .int (Int32.ofNat k))], [.ref 55, .int (Int32.ofNat k)]) from rfl) ?_
    refine zy_h (mr := zm_m233) rfl rfl (zh_gm hH f9) ?_
    refine zy_b (mr := zm_m233) rfl rfl (show _ = some (zm_ic .ge (Int32.ofNat k) (Int32.ofNat N) 50 12, []) from rfl) ?_
    have e : k = N := by omega
    subst e
    refine zc_ge (fun _ => ?_) (fun e => absurd (Int32.le_refl _) e)
    refine zy_n 1 (mr := zm_m233) rfl (show _ = some (51, [(0, .ref 55), (1, .int y), (2, .int (xact f y k)), (3, .int (Int32.ofNat k))], [.int (xact f y k)]) from rfl) ?_
    exact zy_r (mr := zm_m233) rfl rfl (show _ = some (some (.int (xact f y k))) from rfl) ⟨rfl, rfl⟩
  | m + 1, k, hk => by
    have hkN : k < N := by omega
    have ek := (xofn (k := k) (by omega))
    have eN := (xofn (k := N) (by omega))
    have ih := zh_a4 (d := d) (y := y) hH f9 hA hc hN m (k + 1) (by omega)
    have hr := xact_rng (f := f) (y := y) k (by omega)
    subst hc
    refine zy_n 2 (mr := zm_m233) rfl (show _ = some (6, [(0, .ref 55), (1, .int y), (2, .int (xact f y k)), (3, .int (Int32.ofNat k))], [.ref 55, .int (Int32.ofNat k)]) from rfl) ?_
    refine zy_h (mr := zm_m233) rfl rfl (zh_gm hH f9) ?_
    refine zy_b (mr := zm_m233) rfl rfl (show _ = some (zm_ic .ge (Int32.ofNat k) (Int32.ofNat N) 50 12, []) from rfl) ?_
    refine zc_ge (fun e => ?_) (fun _ => ?_)
    · have := Int32.le_iff_toInt_le.mp e
      rw [ek.1, eN.1] at this
      omega
    have hin : zm_in (Int32.ofNat k) 12 = true := (xin_ok (n := 12) (by rw [ek.1]; omega) (by rw [ek.1]; omega)).1
    have a97 := xfo_ref (k := 55) (f := 54) (a := 97) hH rfl rfl rfl
    have no : ¬ (f k ≤ y ∧ (xact f y k = -1 ∨ f (xact f y k).toNatClampNeg < f k)) → zm_Y og d 233 44 [(0, .ref 55), (1, .int y), (2, .int (xact f y k)), (3, .int (Int32.ofNat k))] [] h (fun r h' => h' = h ∧ r = some (.int (xact f y N))) := by
      intro hne
      have e1 : xact f y (k + 1) = xact f y k := by simp only [xact, if_neg hne]
      rw [e1] at ih
      refine zy_n 2 (mr := zm_m233) rfl (show _ = some (4, [(3, .int (Int32.ofNat k + 1)), (0, .ref 55), (1, .int y), (2, .int (xact f y k))], []) from rfl) ?_
      rw [xofs (by omega)]
      exact zy_sub _ (by simp) (fun q hq => by simp only [List.mem_cons, List.not_mem_nil, or_false] at hq; rcases hq with rfl | rfl | rfl | rfl <;> rfl) ih
    have yes : (f k ≤ y ∧ (xact f y k = -1 ∨ f (xact f y k).toNatClampNeg < f k)) → zm_Y og d 233 42 [(0, .ref 55), (1, .int y), (2, .int (xact f y k)), (3, .int (Int32.ofNat k))] [] h (fun r h' => h' = h ∧ r = some (.int (xact f y N))) := by
      intro he
      have e1 : xact f y (k + 1) = Int32.ofNat k := by simp only [xact, if_pos he]
      rw [e1] at ih
      refine zy_n 4 (mr := zm_m233) rfl (show _ = some (4, [(3, .int (Int32.ofNat k + 1)), (2, .int (Int32.ofNat k)), (0, .ref 55), (1, .int y)], []) from rfl) ?_
      rw [xofs (by omega)]
      exact zy_sub _ (by simp) (fun q hq => by simp only [List.mem_cons, List.not_mem_nil, or_false] at hq; rcases hq with rfl | rfl | rfl | rfl <;> rfl) ih
    refine zy_n 1 (mr := zm_m233) rfl (show _ = some (13, [(0, .ref 55), (1, .int y), (2, .int (xact f y k)), (3, .int (Int32.ofNat k))], [.ref 55]) from rfl) ?_
    refine zy_h (mr := zm_m233) rfl rfl (zh_gm hH a97) ?_
    refine zy_n 1 (mr := zm_m233) rfl (show _ = some (17, [(0, .ref 55), (1, .int y), (2, .int (xact f y k)), (3, .int (Int32.ofNat k))], [.int (Int32.ofNat k), .ref 97]) from rfl) ?_
    refine zy_h (mr := zm_m233) rfl rfl (zh_iald (v := f k) hA hin (by rw [ek.2])) ?_
    refine zy_n 1 (mr := zm_m233) rfl (show _ = some (19, [(0, .ref 55), (1, .int y), (2, .int (xact f y k)), (3, .int (Int32.ofNat k))], [.int y, .int (f k)]) from rfl) ?_
    refine zy_b (mr := zm_m233) rfl rfl (show _ = some (zm_ic .gt (f k) y 44 22, []) from rfl) ?_
    refine zc_gt (fun hgt => no (fun e => absurd e.1 (Int32.not_le.mpr hgt))) (fun hgt => ?_)
    have hle := Int32.not_lt.mp hgt
    refine zy_n 2 (mr := zm_m233) rfl (show _ = some (24, [(0, .ref 55), (1, .int y), (2, .int (xact f y k)), (3, .int (Int32.ofNat k))], [.int (-1), .int (xact f y k)]) from rfl) ?_
    refine zy_b (mr := zm_m233) rfl rfl (show _ = some (zm_ic .eq (xact f y k) (-1) 42 27, []) from rfl) ?_
    refine zc_eq (fun e => yes ⟨hle, Or.inl e⟩) (fun hne => ?_)
    have hr := hr.resolve_left hne
    have hin2 := xin_ok (j := xact f y k) (n := 12) hr.1 (by omega)
    refine zy_n 1 (mr := zm_m233) rfl (show _ = some (28, [(0, .ref 55), (1, .int y), (2, .int (xact f y k)), (3, .int (Int32.ofNat k))], [.ref 55]) from rfl) ?_
    refine zy_h (mr := zm_m233) rfl rfl (zh_gm hH a97) ?_
    refine zy_n 1 (mr := zm_m233) rfl (show _ = some (32, [(0, .ref 55), (1, .int y), (2, .int (xact f y k)), (3, .int (Int32.ofNat k))], [.int (Int32.ofNat k), .ref 97]) from rfl) ?_
    refine zy_h (mr := zm_m233) rfl rfl (zh_iald (v := f k) hA hin (by rw [ek.2])) ?_
    refine zy_n 1 (mr := zm_m233) rfl (show _ = some (34, [(0, .ref 55), (1, .int y), (2, .int (xact f y k)), (3, .int (Int32.ofNat k))], [.ref 55, .int (f k)]) from rfl) ?_
    refine zy_h (mr := zm_m233) rfl rfl (zh_gm hH a97) ?_
    refine zy_n 1 (mr := zm_m233) rfl (show _ = some (38, [(0, .ref 55), (1, .int y), (2, .int (xact f y k)), (3, .int (Int32.ofNat k))], [.int (xact f y k), .ref 97, .int (f k)]) from rfl) ?_
    refine zy_h (mr := zm_m233) rfl rfl (zh_iald (v := f (xact f y k).toNatClampNeg) hA hin2.1 rfl) ?_
    refine zy_b (mr := zm_m233) rfl rfl (show _ = some (zm_ic .le (f k) (f (xact f y k).toNatClampNeg) 44 42, []) from rfl) ?_
    exact zc_le (fun e => no (fun z => z.2.elim hne (fun w => absurd e (Int32.not_le.mpr w)))) (fun e => yes ⟨hle, Or.inr (Int32.not_le.mp e)⟩)
/-- the ACT of a YEAR, as it is -/
theorem zh_act {d : Nat} {y : Int32} (hH : xHI xKT xSG τ h) : ∃ v : Int32, (v = -1 ∨ 0 ≤ v.toInt ∧ v.toInt ≤ 11) ∧ zm_Y og d 233 0 [(0, .ref 55), (1, .int y)] [] h (fun r h' => h' = h ∧ r = some (.int v)) := by
  obtain ⟨c, f9, c0, c12⟩ := xfo_int (k := 55) (f := 9) hH rfl rfl rfl
  have c0 : 0 ≤ c.toInt := c0
  have c12 : c.toInt ≤ 12 := c12
  obtain ⟨kA, hA, hkA, -⟩ := xcf_a (ad := 97) hH (hH.2.2 97 rfl) (show xKT 97 = some (.inr _) from rfl)
  obtain ⟨f, rfl⟩ := hkA
  have hcN : c = Int32.ofNat c.toInt.toNat := xeqn (by omega) (by omega)
  have hr := xact_rng (f := f) (y := y) c.toInt.toNat (by omega)
  refine ⟨xact f y c.toInt.toNat, ?_, ?_⟩
  · rcases hr with e | e
    · exact Or.inl e
    · right; omega
  · have go := zh_a4 (og := og) (d := d) (y := y) hH f9 hA hcN (by omega) c.toInt.toNat 0 (by omega)
    refine zy_n 4 (mr := zm_m233) rfl (show _ = some (4, [(3, .int 0), (2, .int (-1)), (0, .ref 55), (1, .int y)], []) from rfl) ?_
    exact zy_sub _ (by simp) (fun q hq => by simp only [List.mem_cons, List.not_mem_nil, or_false] at hq; rcases hq with rfl | rfl | rfl | rfl <;> rfl) go
theorem zh_acall {k : Nat} {y : Int32} {w : Value} {ps : List Nat} {rest : List Value} (hH : xHI xKT xSG τ h) (hr : Nat.ble (zm_cat rest) 16 = true) : zm_call (.invokevirtual k) (233, 1, 11, w, ps) (.int y :: .ref 55 :: rest) h = some (233, [.ref 55, .int y], rest) := by
  obtain ⟨fs, h1⟩ := xo55 hH
  show (match h[55]? with
    | some (.inr (ci, _)) => bif Nat.beq ci 11 && Nat.ble (zm_cat rest) 16 then some ((233 : Nat), Value.ref 55 :: [.int y], rest) else none
    | _ => none) = _
  rw [h1]
  simp only [Nat.beq_refl, hr, Bool.and_self, cond_true]
theorem zh_c129 {d : Nat} (hH : xHI xKT xSG τ h) (hX : xX τ h) : zm_Y og (d + 1) 284 129 [(0, .ref 55)] [] h (xWQ xVV xX xW [(55, 0)] 0 τ h) := by
  have fin : ∀ i : Int32, xWQ xVV xX xW [(55, 0)] 0 τ h (some (.int i)) h := fun i => ⟨⟨i, rfl⟩, τ, hH, hX, xF_refl _ _ _, Nat.le_refl _⟩
  obtain ⟨y, f5, -⟩ := xfo_int (k := 55) (f := 5) hH rfl rfl rfl
  obtain ⟨v, hv, hy⟩ := zh_act (og := og) (d := d) (y := y) hH
  obtain ⟨kR, hR, hkR, -⟩ := xcf_a (ad := 98) hH (hH.2.2 98 rfl) (show xKT 98 = some (.inr _) from rfl)
  obtain ⟨g, rfl⟩ := hkR
  refine zy_n 2 (mr := zm_m284) rfl (show _ = some (131, [(0, .ref 55)], [.ref 55, .ref 55]) from rfl) ?_
  refine zy_h (mr := zm_m284) rfl rfl (zh_gm hH f5) ?_
  refine zy_c (mr := zm_m284) (mc := zm_m233) rfl rfl (zh_acall hH rfl) rfl rfl ?_
  refine hy.mono (fun r h' hq => ?_)
  obtain ⟨rfl, rfl⟩ := hq
  refine zy_n 1 (mr := zm_m284) rfl (show _ = some (138, [(0, .ref 55)], [.int (-1), .int v]) from rfl) ?_
  refine zy_b (mr := zm_m284) rfl rfl (show _ = some (zm_ic .ne v (-1) 145 141, []) from rfl) ?_
  refine zc_ne (fun hne => ?_) (fun _ => ?_)
  · have hv := hv.resolve_left hne
    have hin := (xin_ok (j := v) (n := 12) hv.1 (by omega)).1
    refine zy_n 1 (mr := zm_m284) rfl (show _ = some (146, [(0, .ref 55)], [.ref 55]) from rfl) ?_
    refine zy_h (mr := zm_m284) rfl rfl (zh_gm hH (xfo_ref (k := 55) (f := 55) (a := 98) hH rfl rfl rfl)) ?_
    refine zy_n 2 (mr := zm_m284) rfl (show _ = some (151, [(0, .ref 55)], [.ref 55, .ref 55, .ref 98]) from rfl) ?_
    refine zy_h (mr := zm_m284) rfl rfl (zh_gm hH f5) ?_
    refine zy_c (mr := zm_m284) (mc := zm_m233) rfl rfl (zh_acall hH rfl) rfl rfl ?_
    refine hy.mono (fun r h2 hq => ?_)
    obtain ⟨rfl, rfl⟩ := hq
    refine zy_h (mr := zm_m284) rfl rfl (zh_iald (v := g v.toNatClampNeg) hR hin rfl) ?_
    exact zy_r (mr := zm_m284) rfl rfl (show _ = some (some (.int (g v.toNatClampNeg))) from rfl) (fin _)
  · refine zy_n 2 (mr := zm_m284) rfl (show _ = some (158, [(0, .ref 55)], [.int 0]) from rfl) ?_
    exact zy_r (mr := zm_m284) rfl rfl (show _ = some (some (.int 0)) from rfl) (fin _)
theorem xv_258 : xV xVV xX xW og xc_258 := by
  intro ρ σ τ h lc hH hX hD hl
  have hlen : ρ.length = 1 := hD.1.2.symm
  have hσ : σ.length = 0 := hD.2.1.1
  have hσ := List.length_eq_zero_iff.mp hσ
  subst hσ
  obtain ⟨a, rfl⟩ : ∃ a, ρ = [a] := by
    match ρ, hlen with
    | [a], _ => exact ⟨a, rfl⟩
  obtain ⟨v1, g1, w, rfl, e1⟩ := hl _ (List.mem_cons_of_mem _ List.mem_cons_self)
  have e1 : some ((0 : Int) + (1 * a + 0)) = some w.toInt := e1
  have f1 : a = w.toInt := by have := Option.some.inj e1; omega
  subst f1
  have hb := xb_rng w
  have hcut : ∀ lo hi : Int, lo ≤ w.toInt → w.toInt ≤ hi → xdok [w.toInt] [] τ h ((([(0, lo, hi)], []), 1), [], [], [], 0) := fun lo hi a b => ⟨⟨⟨fun q hq => by have hq := List.mem_singleton.mp hq; subst hq; exact ⟨_, rfl, a, b⟩, fun q hq => by cases hq⟩, rfl⟩, hD.2.1, (fun q hq => by cases hq), (fun q hq => by cases hq)⟩
  by_cases h6 : w.toInt ≤ 6
  · exact ((xv_302 (og := og) [w.toInt] [] τ h lc hH hX (hcut _ _ hb.1 h6) hl).deep (Nat.zero_le 12)).mono (fun r h' hq => xQc_of (c := xc_258) (np := 1) rfl rfl (xWQ_of (c := xc_302) (np := 1) rfl hq))
  · by_cases h8 : 8 ≤ w.toInt
    · exact ((xv_303 (og := og) [w.toInt] [] τ h lc hH hX (hcut _ _ h8 hb.2) hl).deep (Nat.zero_le 12)).mono (fun r h' hq => xQc_of (c := xc_258) (np := 1) rfl rfl (xWQ_of (c := xc_303) (np := 1) rfl hq))
    · refine (xseg_ok (V := xVV) (X := xX) (W := xW) (og := og) (E := []) (Eo := xs_c0_o) (c := xs_c0) (s := xs_c0_s) (MT := xs_c0_m) (CT := xs_c0_u) (by
        simp only [xs_c0_m, List.forall_mem_cons]
        exact ⟨rfl, fun _ h => by cases h⟩) (fun _ h => by cases h) xFl_good xXW_ok xs_c0_ok (fun e he => by cases he) rfl (ρ := [w.toInt]) (r0 := []) (σ := []) (s0 := []) (τ := τ) (h := h) (lc := lc) (sc := []) rfl rfl ?_ hH hX (hcut 7 7 (by omega) (by omega)) hl trivial).mono (fun r h' hq => xQc_of (c := xc_258) (np := 1) rfl rfl (xWQ_of (c := xs_c0) (np := 1) rfl hq))
      intro e he r s' τ1 h' lc sc hH1 hX1 hF1 hW1 hD1 hl1 hs1
      have he := List.mem_singleton.mp he
      subst he
      have hs1 := xsk_nil hs1
      subst hs1
      refine zy_sub [(0, .ref 55)] (by simp) (fun q hq => ?_) ((zh_c129 (og := og) (d := 11) hH1 hX1).mono (fun r2 h2 hq => xQc_of (np := 1) rfl rfl (xWQ_tr hF1 hW1 hq)))
      have hq := List.mem_singleton.mp hq
      subst hq
      exact xl_ref hl1 List.mem_cons_self
end XCT
