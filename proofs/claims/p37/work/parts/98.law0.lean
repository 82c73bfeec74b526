/-! The law (made by a program) -/
def xbn (x : Int32) : Int32 := if x = 0 then 0 else 1
theorem xbn_r (x : Int32) : 0 ≤ (xbn x).toInt ∧ (xbn x).toInt ≤ 1 := by
  unfold xbn
  split
  · exact ⟨by decide, by decide⟩
  · exact ⟨by decide, by decide⟩
section ZLW
variable {og : Nat → Option zm_C} {xs : Nat → Int32} {L N : Nat} {τ : List Nat} {h : zm_H} {Q : Option Value → zm_H → Prop}
theorem zl_ld {k : Nat} {c : Int32} {x : zm_X} {st : List Value} (hO : og 0 = some (.inl (0, L, .inl xs))) (hc : c.toInt = (k : Int)) (hk : N + k < L) (hL : L ≤ 3584) : zm_hp zm_df og .iaload x (.int (Int32.ofNat N + c) :: .retAddr 0 :: st) h = some (.int (xs (N + k)) :: st, h) := by
  have ea : xI32a = -2147483648 := rfl
  have eb : xI32b = 2147483647 := rfl
  have e : (Int32.ofNat N + c).toInt = ((N + k : Nat) : Int) := by
    rw [Int32.toInt_add, (xofn (k := N) (by omega)).1, hc, xb_bm32 (by omega) (by omega)]
    omega
  have hin := xin_ok (j := Int32.ofNat N + c) (n := L) (by omega) (by omega)
  refine zh_ialdO rfl hO hin.1 ?_
  have := hin.2.1
  rw [show (Int32.ofNat N + c).toNatClampNeg = N + k by omega]
theorem zl_cx {k m n : Nat} {w : Value} {ps : List Nat} {A rest : List Value} (hH : xHI xKT xSG τ h) (hn : A.length = n) (hr : Nat.ble (zm_cat rest) 16 = true) : zm_call (.invokevirtual k) (m, n, 10, w, ps) (A.reverse ++ .ref 0 :: rest) h = some (m, .ref 0 :: A, rest) := by
  obtain ⟨fs, v, h1, -⟩ := xfo (f := 1) (k := 0) hH rfl rfl rfl
  have h1 : h[0]? = some (.inr (10, fs)) := h1
  have e1 : (A.reverse ++ .ref 0 :: rest).drop n = .ref 0 :: rest := by rw [← hn, ← List.length_reverse (as := A), List.drop_left]
  have e2 : (A.reverse ++ .ref 0 :: rest).take n = A.reverse := by rw [← hn, ← List.length_reverse (as := A), List.take_left]
  simp only [zm_call, e1, e2, h1, hr, Nat.beq_refl, Bool.and_self, cond_true, List.reverse_reverse]
theorem zl_cm {k m n : Nat} {w : Value} {ps : List Nat} {A rest : List Value} (hH : xHI xKT xSG τ h) (hn : A.length = n) (hr : Nat.ble (zm_cat rest) 16 = true) : zm_call (.invokevirtual k) (m, n, 11, w, ps) (A.reverse ++ .ref 55 :: rest) h = some (m, .ref 55 :: A, rest) := by
  obtain ⟨fs, h1⟩ := xo55 hH
  have e1 : (A.reverse ++ .ref 55 :: rest).drop n = .ref 55 :: rest := by rw [← hn, ← List.length_reverse (as := A), List.drop_left]
  have e2 : (A.reverse ++ .ref 55 :: rest).take n = A.reverse := by rw [← hn, ← List.length_reverse (as := A), List.take_left]
  simp only [zm_call, e1, e2, h1, hr, Nat.beq_refl, Bool.and_self, cond_true, List.reverse_reverse]
set_option maxRecDepth 100000 in
theorem zl_0 (hO : og 0 = some (.inl (0, L, .inl xs))) (hL : L ≤ 3584) (hN : N + 6 < L) (hH : xHI xKT xSG τ h) (hX : xX τ h) (hR : xRR τ h) (kk : ∀ (τ1 : List Nat) (h1 : zm_H), xHI xKT xSG τ1 h1 → xX τ1 h1 → xRR τ1 h1 → xW h1 ≤ xW h + 3734 → zm_Y og 60 285 1970 [(3, .int (Int32.ofNat N)), (2, .ref 55), (1, .ref 0), (0, .retAddr 0)] [] h1 Q) : zm_Y og 60 285 232 [(3, .int (Int32.ofNat N)), (2, .ref 55), (1, .ref 0), (0, .retAddr 0)] [] h Q := by
  refine zy_n 5 (mr := zm_m285) rfl (show _ = some (237, [(3, .int (Int32.ofNat N)), (2, .ref 55), (1, .ref 0), (0, .retAddr 0)], [.int (Int32.ofNat N + 1), .retAddr 0, .ref 0]) from rfl) ?_
  refine zy_h (mr := zm_m285) rfl rfl (zl_ld (k := 1) hO rfl (by omega) hL) ?_
  refine zy_n 4 (mr := zm_m285) rfl (show _ = some (242, [(3, .int (Int32.ofNat N)), (2, .ref 55), (1, .ref 0), (0, .retAddr 0)], [.int (Int32.ofNat N + 2), .retAddr 0, .int (xs (N + 1)), .ref 0]) from rfl) ?_
  refine zy_h (mr := zm_m285) rfl rfl (zl_ld (k := 2) hO rfl (by omega) hL) ?_
  refine zy_n 4 (mr := zm_m285) rfl (show _ = some (247, [(3, .int (Int32.ofNat N)), (2, .ref 55), (1, .ref 0), (0, .retAddr 0)], [.int (Int32.ofNat N + 3), .retAddr 0, .int (xs (N + 2)), .int (xs (N + 1)), .ref 0]) from rfl) ?_
  refine zy_h (mr := zm_m285) rfl rfl (zl_ld (k := 3) hO rfl (by omega) hL) ?_
  refine zy_c (mr := zm_m285) (mc := zm_m9) rfl rfl (zl_cx (A := [.int (xs (N + 1)), .int (xs (N + 2)), .int (xs (N + 3))]) hH rfl rfl) rfl rfl ?_
  refine ((xo_x_light hH hX ((xs (N + 1))) ((xs (N + 2))) ((xs (N + 3))) ).deep (Nat.le_of_ble_eq_true rfl)).mono (fun r h1 hq => ?_)
  obtain ⟨⟨i1, rfl⟩, τ1, hH1, hX1, hW1, hF1⟩ := hq
  have hR1 := xRR_F hH hF1 ⟨rfl, rfl, rfl, rfl⟩ hR
  refine zy_n 6 (mr := zm_m285) rfl (show _ = some (257, [(3, .int (Int32.ofNat N)), (2, .ref 55), (1, .ref 0), (0, .retAddr 0)], [.int (Int32.ofNat N + 1), .retAddr 0, .ref 55]) from rfl) ?_
  refine zy_h (mr := zm_m285) rfl rfl (zl_ld (k := 1) hO rfl (by omega) hL) ?_
  refine zy_n 4 (mr := zm_m285) rfl (show _ = some (262, [(3, .int (Int32.ofNat N)), (2, .ref 55), (1, .ref 0), (0, .retAddr 0)], [.int (Int32.ofNat N + 2), .retAddr 0, .int (xs (N + 1)), .ref 55]) from rfl) ?_
  refine zy_h (mr := zm_m285) rfl rfl (zl_ld (k := 2) hO rfl (by omega) hL) ?_
  refine zy_n 4 (mr := zm_m285) rfl (show _ = some (267, [(3, .int (Int32.ofNat N)), (2, .ref 55), (1, .ref 0), (0, .retAddr 0)], [.int (Int32.ofNat N + 3), .retAddr 0, .int (xs (N + 2)), .int (xs (N + 1)), .ref 55]) from rfl) ?_
  refine zy_h (mr := zm_m285) rfl rfl (zl_ld (k := 3) hO rfl (by omega) hL) ?_
  refine zy_c (mr := zm_m285) (mc := zm_m188) rfl rfl (zl_cm (A := [.int (xs (N + 1)), .int (xs (N + 2)), .int (xs (N + 3))]) hH1 rfl rfl) rfl rfl ?_
  refine ((xo_m_light hH1 hX1 ((xs (N + 1))) ((xs (N + 2))) ((xs (N + 3))) ).deep (Nat.le_of_ble_eq_true rfl)).mono (fun r h2 hq => ?_)
  obtain ⟨⟨i2, rfl⟩, τ2, hH2, hX2, hW2, hF2⟩ := hq
  have hR2 := xRR_F hH1 hF2 ⟨rfl, rfl, rfl, rfl⟩ hR1
  refine zy_n 2 (mr := zm_m285) rfl (show _ = some (1970, [(3, .int (Int32.ofNat N)), (2, .ref 55), (1, .ref 0), (0, .retAddr 0)], []) from rfl) ?_
  exact kk τ2 h2 hH2 hX2 hR2 (by omega)
set_option maxRecDepth 100000 in
theorem zl_1 (hO : og 0 = some (.inl (0, L, .inl xs))) (hL : L ≤ 3584) (hN : N + 6 < L) (hH : xHI xKT xSG τ h) (hX : xX τ h) (hR : xRR τ h) (kk : ∀ (τ1 : List Nat) (h1 : zm_H), xHI xKT xSG τ1 h1 → xX τ1 h1 → xRR τ1 h1 → xW h1 ≤ xW h + 3734 → zm_Y og 60 285 1970 [(3, .int (Int32.ofNat N)), (2, .ref 55), (1, .ref 0), (0, .retAddr 0)] [] h1 Q) : zm_Y og 60 285 275 [(3, .int (Int32.ofNat N)), (2, .ref 55), (1, .ref 0), (0, .retAddr 0)] [] h Q := by
  refine zy_n 5 (mr := zm_m285) rfl (show _ = some (280, [(3, .int (Int32.ofNat N)), (2, .ref 55), (1, .ref 0), (0, .retAddr 0)], [.int (Int32.ofNat N + 1), .retAddr 0, .ref 0]) from rfl) ?_
  refine zy_h (mr := zm_m285) rfl rfl (zl_ld (k := 1) hO rfl (by omega) hL) ?_
  refine zy_n 4 (mr := zm_m285) rfl (show _ = some (285, [(3, .int (Int32.ofNat N)), (2, .ref 55), (1, .ref 0), (0, .retAddr 0)], [.int (Int32.ofNat N + 2), .retAddr 0, .int (xs (N + 1)), .ref 0]) from rfl) ?_
  refine zy_h (mr := zm_m285) rfl rfl (zl_ld (k := 2) hO rfl (by omega) hL) ?_
  refine zy_n 4 (mr := zm_m285) rfl (show _ = some (290, [(3, .int (Int32.ofNat N)), (2, .ref 55), (1, .ref 0), (0, .retAddr 0)], [.int (Int32.ofNat N + 3), .retAddr 0, .int (xs (N + 2)), .int (xs (N + 1)), .ref 0]) from rfl) ?_
  refine zy_h (mr := zm_m285) rfl rfl (zl_ld (k := 3) hO rfl (by omega) hL) ?_
  refine zy_n 4 (mr := zm_m285) rfl (show _ = some (295, [(3, .int (Int32.ofNat N)), (2, .ref 55), (1, .ref 0), (0, .retAddr 0)], [.int (Int32.ofNat N + 4), .retAddr 0, .int (xs (N + 3)), .int (xs (N + 2)), .int (xs (N + 1)), .ref 0]) from rfl) ?_
  refine zy_h (mr := zm_m285) rfl rfl (zl_ld (k := 4) hO rfl (by omega) hL) ?_
  refine zy_c (mr := zm_m285) (mc := zm_m11) rfl rfl (zl_cx (A := [.int (xs (N + 1)), .int (xs (N + 2)), .int (xs (N + 3)), .int (xs (N + 4))]) hH rfl rfl) rfl rfl ?_
  refine ((xo_x_terms hH hX ((xs (N + 1))) ((xs (N + 2))) ((xs (N + 3))) ((xs (N + 4))) ).deep (Nat.le_of_ble_eq_true rfl)).mono (fun r h1 hq => ?_)
  obtain ⟨⟨i1, rfl⟩, τ1, hH1, hX1, hW1, hF1⟩ := hq
  have hR1 := xRR_F hH hF1 ⟨rfl, rfl, rfl, rfl⟩ hR
  refine zy_n 6 (mr := zm_m285) rfl (show _ = some (305, [(3, .int (Int32.ofNat N)), (2, .ref 55), (1, .ref 0), (0, .retAddr 0)], [.int (Int32.ofNat N + 1), .retAddr 0, .ref 55]) from rfl) ?_
  refine zy_h (mr := zm_m285) rfl rfl (zl_ld (k := 1) hO rfl (by omega) hL) ?_
  refine zy_n 4 (mr := zm_m285) rfl (show _ = some (310, [(3, .int (Int32.ofNat N)), (2, .ref 55), (1, .ref 0), (0, .retAddr 0)], [.int (Int32.ofNat N + 2), .retAddr 0, .int (xs (N + 1)), .ref 55]) from rfl) ?_
  refine zy_h (mr := zm_m285) rfl rfl (zl_ld (k := 2) hO rfl (by omega) hL) ?_
  refine zy_n 4 (mr := zm_m285) rfl (show _ = some (315, [(3, .int (Int32.ofNat N)), (2, .ref 55), (1, .ref 0), (0, .retAddr 0)], [.int (Int32.ofNat N + 3), .retAddr 0, .int (xs (N + 2)), .int (xs (N + 1)), .ref 55]) from rfl) ?_
  refine zy_h (mr := zm_m285) rfl rfl (zl_ld (k := 3) hO rfl (by omega) hL) ?_
  refine zy_n 4 (mr := zm_m285) rfl (show _ = some (320, [(3, .int (Int32.ofNat N)), (2, .ref 55), (1, .ref 0), (0, .retAddr 0)], [.int (Int32.ofNat N + 4), .retAddr 0, .int (xs (N + 3)), .int (xs (N + 2)), .int (xs (N + 1)), .ref 55]) from rfl) ?_
  refine zy_h (mr := zm_m285) rfl rfl (zl_ld (k := 4) hO rfl (by omega) hL) ?_
  refine zy_c (mr := zm_m285) (mc := zm_m189) rfl rfl (zl_cm (A := [.int (xs (N + 1)), .int (xs (N + 2)), .int (xs (N + 3)), .int (xs (N + 4))]) hH1 rfl rfl) rfl rfl ?_
  refine ((xo_m_terms hH1 hX1 ((xs (N + 1))) ((xs (N + 2))) ((xs (N + 3))) ((xs (N + 4))) ).deep (Nat.le_of_ble_eq_true rfl)).mono (fun r h2 hq => ?_)
  obtain ⟨⟨i2, rfl⟩, τ2, hH2, hX2, hW2, hF2⟩ := hq
  have hR2 := xRR_F hH1 hF2 ⟨rfl, rfl, rfl, rfl⟩ hR1
  refine zy_n 2 (mr := zm_m285) rfl (show _ = some (1970, [(3, .int (Int32.ofNat N)), (2, .ref 55), (1, .ref 0), (0, .retAddr 0)], []) from rfl) ?_
  exact kk τ2 h2 hH2 hX2 hR2 (by omega)
set_option maxRecDepth 100000 in
theorem zl_2 (hO : og 0 = some (.inl (0, L, .inl xs))) (hL : L ≤ 3584) (hN : N + 6 < L) (hH : xHI xKT xSG τ h) (hX : xX τ h) (hR : xRR τ h) (kk : ∀ (τ1 : List Nat) (h1 : zm_H), xHI xKT xSG τ1 h1 → xX τ1 h1 → xRR τ1 h1 → xW h1 ≤ xW h + 3734 → zm_Y og 60 285 1970 [(3, .int (Int32.ofNat N)), (2, .ref 55), (1, .ref 0), (0, .retAddr 0)] [] h1 Q) : zm_Y og 60 285 328 [(3, .int (Int32.ofNat N)), (2, .ref 55), (1, .ref 0), (0, .retAddr 0)] [] h Q := by
  refine zy_n 5 (mr := zm_m285) rfl (show _ = some (333, [(3, .int (Int32.ofNat N)), (2, .ref 55), (1, .ref 0), (0, .retAddr 0)], [.int (Int32.ofNat N + 1), .retAddr 0, .ref 0]) from rfl) ?_
  refine zy_h (mr := zm_m285) rfl rfl (zl_ld (k := 1) hO rfl (by omega) hL) ?_
  refine zy_n 4 (mr := zm_m285) rfl (show _ = some (338, [(3, .int (Int32.ofNat N)), (2, .ref 55), (1, .ref 0), (0, .retAddr 0)], [.int (Int32.ofNat N + 2), .retAddr 0, .int (xs (N + 1)), .ref 0]) from rfl) ?_
  refine zy_h (mr := zm_m285) rfl rfl (zl_ld (k := 2) hO rfl (by omega) hL) ?_
  refine zy_n 4 (mr := zm_m285) rfl (show _ = some (343, [(3, .int (Int32.ofNat N)), (2, .ref 55), (1, .ref 0), (0, .retAddr 0)], [.int (Int32.ofNat N + 3), .retAddr 0, .int (xs (N + 2)), .int (xs (N + 1)), .ref 0]) from rfl) ?_
  refine zy_h (mr := zm_m285) rfl rfl (zl_ld (k := 3) hO rfl (by omega) hL) ?_
  refine zy_n 4 (mr := zm_m285) rfl (show _ = some (348, [(3, .int (Int32.ofNat N)), (2, .ref 55), (1, .ref 0), (0, .retAddr 0)], [.int (Int32.ofNat N + 4), .retAddr 0, .int (xs (N + 3)), .int (xs (N + 2)), .int (xs (N + 1)), .ref 0]) from rfl) ?_
  refine zy_h (mr := zm_m285) rfl rfl (zl_ld (k := 4) hO rfl (by omega) hL) ?_
  refine zy_c (mr := zm_m285) (mc := zm_m12) rfl rfl (zl_cx (A := [.int (xs (N + 1)), .int (xs (N + 2)), .int (xs (N + 3)), .int (xs (N + 4))]) hH rfl rfl) rfl rfl ?_
  refine ((xo_x_house hH hX ((xs (N + 1))) ((xs (N + 2))) ((xs (N + 3))) ((xs (N + 4))) ).deep (Nat.le_of_ble_eq_true rfl)).mono (fun r h1 hq => ?_)
  obtain ⟨⟨i1, rfl⟩, τ1, hH1, hX1, hW1, hF1⟩ := hq
  have hR1 := xRR_F hH hF1 ⟨rfl, rfl, rfl, rfl⟩ hR
  refine zy_n 6 (mr := zm_m285) rfl (show _ = some (358, [(3, .int (Int32.ofNat N)), (2, .ref 55), (1, .ref 0), (0, .retAddr 0)], [.int (Int32.ofNat N + 1), .retAddr 0, .ref 55]) from rfl) ?_
  refine zy_h (mr := zm_m285) rfl rfl (zl_ld (k := 1) hO rfl (by omega) hL) ?_
  refine zy_n 4 (mr := zm_m285) rfl (show _ = some (363, [(3, .int (Int32.ofNat N)), (2, .ref 55), (1, .ref 0), (0, .retAddr 0)], [.int (Int32.ofNat N + 2), .retAddr 0, .int (xs (N + 1)), .ref 55]) from rfl) ?_
  refine zy_h (mr := zm_m285) rfl rfl (zl_ld (k := 2) hO rfl (by omega) hL) ?_
  refine zy_n 4 (mr := zm_m285) rfl (show _ = some (368, [(3, .int (Int32.ofNat N)), (2, .ref 55), (1, .ref 0), (0, .retAddr 0)], [.int (Int32.ofNat N + 3), .retAddr 0, .int (xs (N + 2)), .int (xs (N + 1)), .ref 55]) from rfl) ?_
  refine zy_h (mr := zm_m285) rfl rfl (zl_ld (k := 3) hO rfl (by omega) hL) ?_
  refine zy_n 4 (mr := zm_m285) rfl (show _ = some (373, [(3, .int (Int32.ofNat N)), (2, .ref 55), (1, .ref 0), (0, .retAddr 0)], [.int (Int32.ofNat N + 4), .retAddr 0, .int (xs (N + 3)), .int (xs (N + 2)), .int (xs (N + 1)), .ref 55]) from rfl) ?_
  refine zy_h (mr := zm_m285) rfl rfl (zl_ld (k := 4) hO rfl (by omega) hL) ?_
  refine zy_c (mr := zm_m285) (mc := zm_m190) rfl rfl (zl_cm (A := [.int (xs (N + 1)), .int (xs (N + 2)), .int (xs (N + 3)), .int (xs (N + 4))]) hH1 rfl rfl) rfl rfl ?_
  refine ((xo_m_house hH1 hX1 ((xs (N + 1))) ((xs (N + 2))) ((xs (N + 3))) ((xs (N + 4))) ).deep (Nat.le_of_ble_eq_true rfl)).mono (fun r h2 hq => ?_)
  obtain ⟨⟨i2, rfl⟩, τ2, hH2, hX2, hW2, hF2⟩ := hq
  have hR2 := xRR_F hH1 hF2 ⟨rfl, rfl, rfl, rfl⟩ hR1
  refine zy_n 2 (mr := zm_m285) rfl (show _ = some (1970, [(3, .int (Int32.ofNat N)), (2, .ref 55), (1, .ref 0), (0, .retAddr 0)], []) from rfl) ?_
  exact kk τ2 h2 hH2 hX2 hR2 (by omega)
set_option maxRecDepth 100000 in
theorem zl_3 (hO : og 0 = some (.inl (0, L, .inl xs))) (hL : L ≤ 3584) (hN : N + 6 < L) (hH : xHI xKT xSG τ h) (hX : xX τ h) (hR : xRR τ h) (kk : ∀ (τ1 : List Nat) (h1 : zm_H), xHI xKT xSG τ1 h1 → xX τ1 h1 → xRR τ1 h1 → xW h1 ≤ xW h + 3734 → zm_Y og 60 285 1970 [(3, .int (Int32.ofNat N)), (2, .ref 55), (1, .ref 0), (0, .retAddr 0)] [] h1 Q) : zm_Y og 60 285 381 [(3, .int (Int32.ofNat N)), (2, .ref 55), (1, .ref 0), (0, .retAddr 0)] [] h Q := by
  refine zy_n 5 (mr := zm_m285) rfl (show _ = some (386, [(3, .int (Int32.ofNat N)), (2, .ref 55), (1, .ref 0), (0, .retAddr 0)], [.int (Int32.ofNat N + 1), .retAddr 0, .ref 0]) from rfl) ?_
  refine zy_h (mr := zm_m285) rfl rfl (zl_ld (k := 1) hO rfl (by omega) hL) ?_
  refine zy_n 4 (mr := zm_m285) rfl (show _ = some (391, [(3, .int (Int32.ofNat N)), (2, .ref 55), (1, .ref 0), (0, .retAddr 0)], [.int (Int32.ofNat N + 2), .retAddr 0, .int (xs (N + 1)), .ref 0]) from rfl) ?_
  refine zy_h (mr := zm_m285) rfl rfl (zl_ld (k := 2) hO rfl (by omega) hL) ?_
  refine zy_n 4 (mr := zm_m285) rfl (show _ = some (396, [(3, .int (Int32.ofNat N)), (2, .ref 55), (1, .ref 0), (0, .retAddr 0)], [.int (Int32.ofNat N + 3), .retAddr 0, .int (xs (N + 2)), .int (xs (N + 1)), .ref 0]) from rfl) ?_
  refine zy_h (mr := zm_m285) rfl rfl (zl_ld (k := 3) hO rfl (by omega) hL) ?_
  refine zy_n 4 (mr := zm_m285) rfl (show _ = some (401, [(3, .int (Int32.ofNat N)), (2, .ref 55), (1, .ref 0), (0, .retAddr 0)], [.int (Int32.ofNat N + 4), .retAddr 0, .int (xs (N + 3)), .int (xs (N + 2)), .int (xs (N + 1)), .ref 0]) from rfl) ?_
  refine zy_h (mr := zm_m285) rfl rfl (zl_ld (k := 4) hO rfl (by omega) hL) ?_
  refine zy_c (mr := zm_m285) (mc := zm_m16) rfl rfl (zl_cx (A := [.int (xs (N + 1)), .int (xs (N + 2)), .int (xs (N + 3)), .int (xs (N + 4))]) hH rfl rfl) rfl rfl ?_
  refine ((xo_x_room hH hX ((xs (N + 1))) ((xs (N + 2))) ((xs (N + 3))) ((xs (N + 4))) ).deep (Nat.le_of_ble_eq_true rfl)).mono (fun r h1 hq => ?_)
  obtain ⟨⟨i1, rfl⟩, τ1, hH1, hX1, hW1, hF1⟩ := hq
  have hR1 := xRR_F hH hF1 ⟨rfl, rfl, rfl, rfl⟩ hR
  refine zy_n 6 (mr := zm_m285) rfl (show _ = some (411, [(3, .int (Int32.ofNat N)), (2, .ref 55), (1, .ref 0), (0, .retAddr 0)], [.int (Int32.ofNat N + 1), .retAddr 0, .ref 55]) from rfl) ?_
  refine zy_h (mr := zm_m285) rfl rfl (zl_ld (k := 1) hO rfl (by omega) hL) ?_
  refine zy_n 4 (mr := zm_m285) rfl (show _ = some (416, [(3, .int (Int32.ofNat N)), (2, .ref 55), (1, .ref 0), (0, .retAddr 0)], [.int (Int32.ofNat N + 2), .retAddr 0, .int (xs (N + 1)), .ref 55]) from rfl) ?_
  refine zy_h (mr := zm_m285) rfl rfl (zl_ld (k := 2) hO rfl (by omega) hL) ?_
  refine zy_n 4 (mr := zm_m285) rfl (show _ = some (421, [(3, .int (Int32.ofNat N)), (2, .ref 55), (1, .ref 0), (0, .retAddr 0)], [.int (Int32.ofNat N + 3), .retAddr 0, .int (xs (N + 2)), .int (xs (N + 1)), .ref 55]) from rfl) ?_
  refine zy_h (mr := zm_m285) rfl rfl (zl_ld (k := 3) hO rfl (by omega) hL) ?_
  refine zy_n 4 (mr := zm_m285) rfl (show _ = some (426, [(3, .int (Int32.ofNat N)), (2, .ref 55), (1, .ref 0), (0, .retAddr 0)], [.int (Int32.ofNat N + 4), .retAddr 0, .int (xs (N + 3)), .int (xs (N + 2)), .int (xs (N + 1)), .ref 55]) from rfl) ?_
  refine zy_h (mr := zm_m285) rfl rfl (zl_ld (k := 4) hO rfl (by omega) hL) ?_
  refine zy_c (mr := zm_m285) (mc := zm_m191) rfl rfl (zl_cm (A := [.int (xs (N + 1)), .int (xs (N + 2)), .int (xs (N + 3)), .int (xs (N + 4))]) hH1 rfl rfl) rfl rfl ?_
  refine ((xo_m_room hH1 hX1 ((xs (N + 1))) ((xs (N + 2))) ((xs (N + 3))) ((xs (N + 4))) ).deep (Nat.le_of_ble_eq_true rfl)).mono (fun r h2 hq => ?_)
  obtain ⟨⟨i2, rfl⟩, τ2, hH2, hX2, hW2, hF2⟩ := hq
  have hR2 := xRR_F hH1 hF2 ⟨rfl, rfl, rfl, rfl⟩ hR1
  refine zy_n 2 (mr := zm_m285) rfl (show _ = some (1970, [(3, .int (Int32.ofNat N)), (2, .ref 55), (1, .ref 0), (0, .retAddr 0)], []) from rfl) ?_
  exact kk τ2 h2 hH2 hX2 hR2 (by omega)
set_option maxRecDepth 100000 in
theorem zl_4 (hO : og 0 = some (.inl (0, L, .inl xs))) (hL : L ≤ 3584) (hN : N + 6 < L) (hH : xHI xKT xSG τ h) (hX : xX τ h) (hR : xRR τ h) (kk : ∀ (τ1 : List Nat) (h1 : zm_H), xHI xKT xSG τ1 h1 → xX τ1 h1 → xRR τ1 h1 → xW h1 ≤ xW h + 3734 → zm_Y og 60 285 1970 [(3, .int (Int32.ofNat N)), (2, .ref 55), (1, .ref 0), (0, .retAddr 0)] [] h1 Q) : zm_Y og 60 285 434 [(3, .int (Int32.ofNat N)), (2, .ref 55), (1, .ref 0), (0, .retAddr 0)] [] h Q := by
  refine zy_n 5 (mr := zm_m285) rfl (show _ = some (439, [(3, .int (Int32.ofNat N)), (2, .ref 55), (1, .ref 0), (0, .retAddr 0)], [.int (Int32.ofNat N + 1), .retAddr 0, .ref 0]) from rfl) ?_
  refine zy_h (mr := zm_m285) rfl rfl (zl_ld (k := 1) hO rfl (by omega) hL) ?_
  refine zy_n 4 (mr := zm_m285) rfl (show _ = some (444, [(3, .int (Int32.ofNat N)), (2, .ref 55), (1, .ref 0), (0, .retAddr 0)], [.int (Int32.ofNat N + 2), .retAddr 0, .int (xs (N + 1)), .ref 0]) from rfl) ?_
  refine zy_h (mr := zm_m285) rfl rfl (zl_ld (k := 2) hO rfl (by omega) hL) ?_
  refine zy_n 4 (mr := zm_m285) rfl (show _ = some (449, [(3, .int (Int32.ofNat N)), (2, .ref 55), (1, .ref 0), (0, .retAddr 0)], [.int (Int32.ofNat N + 3), .retAddr 0, .int (xs (N + 2)), .int (xs (N + 1)), .ref 0]) from rfl) ?_
  refine zy_h (mr := zm_m285) rfl rfl (zl_ld (k := 3) hO rfl (by omega) hL) ?_
  refine zy_c (mr := zm_m285) (mc := zm_m26) rfl rfl (zl_cx (A := [.int (xs (N + 1)), .int (xs (N + 2)), .int (xs (N + 3))]) hH rfl rfl) rfl rfl ?_
  refine ((xo_x_make hH hX ((xs (N + 1))) ((xs (N + 2))) ((xs (N + 3))) ).deep (Nat.le_of_ble_eq_true rfl)).mono (fun r h1 hq => ?_)
  obtain ⟨⟨i1, rfl⟩, τ1, hH1, hX1, hW1, hF1⟩ := hq
  have hR1 := xRR_F hH hF1 ⟨rfl, rfl, rfl, rfl⟩ hR
  refine zy_n 6 (mr := zm_m285) rfl (show _ = some (459, [(3, .int (Int32.ofNat N)), (2, .ref 55), (1, .ref 0), (0, .retAddr 0)], [.int (Int32.ofNat N + 1), .retAddr 0, .ref 55]) from rfl) ?_
  refine zy_h (mr := zm_m285) rfl rfl (zl_ld (k := 1) hO rfl (by omega) hL) ?_
  refine zy_n 4 (mr := zm_m285) rfl (show _ = some (464, [(3, .int (Int32.ofNat N)), (2, .ref 55), (1, .ref 0), (0, .retAddr 0)], [.int (Int32.ofNat N + 2), .retAddr 0, .int (xs (N + 1)), .ref 55]) from rfl) ?_
  refine zy_h (mr := zm_m285) rfl rfl (zl_ld (k := 2) hO rfl (by omega) hL) ?_
  refine zy_n 4 (mr := zm_m285) rfl (show _ = some (469, [(3, .int (Int32.ofNat N)), (2, .ref 55), (1, .ref 0), (0, .retAddr 0)], [.int (Int32.ofNat N + 3), .retAddr 0, .int (xs (N + 2)), .int (xs (N + 1)), .ref 55]) from rfl) ?_
  refine zy_h (mr := zm_m285) rfl rfl (zl_ld (k := 3) hO rfl (by omega) hL) ?_
  refine zy_c (mr := zm_m285) (mc := zm_m194) rfl rfl (zl_cm (A := [.int (xs (N + 1)), .int (xs (N + 2)), .int (xs (N + 3))]) hH1 rfl rfl) rfl rfl ?_
  refine ((xo_m_make hH1 hX1 ((xs (N + 1))) ((xs (N + 2))) ((xs (N + 3))) ).deep (Nat.le_of_ble_eq_true rfl)).mono (fun r h2 hq => ?_)
  obtain ⟨⟨i2, rfl⟩, τ2, hH2, hX2, hW2, hF2⟩ := hq
  have hR2 := xRR_F hH1 hF2 ⟨rfl, rfl, rfl, rfl⟩ hR1
  refine zy_n 2 (mr := zm_m285) rfl (show _ = some (1970, [(3, .int (Int32.ofNat N)), (2, .ref 55), (1, .ref 0), (0, .retAddr 0)], []) from rfl) ?_
  exact kk τ2 h2 hH2 hX2 hR2 (by omega)
set_option maxRecDepth 100000 in
theorem zl_5 (hO : og 0 = some (.inl (0, L, .inl xs))) (hL : L ≤ 3584) (hN : N + 6 < L) (hH : xHI xKT xSG τ h) (hX : xX τ h) (hR : xRR τ h) (kk : ∀ (τ1 : List Nat) (h1 : zm_H), xHI xKT xSG τ1 h1 → xX τ1 h1 → xRR τ1 h1 → xW h1 ≤ xW h + 3734 → zm_Y og 60 285 1970 [(3, .int (Int32.ofNat N)), (2, .ref 55), (1, .ref 0), (0, .retAddr 0)] [] h1 Q) : zm_Y og 60 285 477 [(3, .int (Int32.ofNat N)), (2, .ref 55), (1, .ref 0), (0, .retAddr 0)] [] h Q := by
  refine zy_n 5 (mr := zm_m285) rfl (show _ = some (482, [(3, .int (Int32.ofNat N)), (2, .ref 55), (1, .ref 0), (0, .retAddr 0)], [.int (Int32.ofNat N + 1), .retAddr 0, .ref 0]) from rfl) ?_
  refine zy_h (mr := zm_m285) rfl rfl (zl_ld (k := 1) hO rfl (by omega) hL) ?_
  refine zy_n 4 (mr := zm_m285) rfl (show _ = some (487, [(3, .int (Int32.ofNat N)), (2, .ref 55), (1, .ref 0), (0, .retAddr 0)], [.int (Int32.ofNat N + 2), .retAddr 0, .int (xs (N + 1)), .ref 0]) from rfl) ?_
  refine zy_h (mr := zm_m285) rfl rfl (zl_ld (k := 2) hO rfl (by omega) hL) ?_
  refine zy_n 4 (mr := zm_m285) rfl (show _ = some (492, [(3, .int (Int32.ofNat N)), (2, .ref 55), (1, .ref 0), (0, .retAddr 0)], [.int (Int32.ofNat N + 3), .retAddr 0, .int (xs (N + 2)), .int (xs (N + 1)), .ref 0]) from rfl) ?_
  refine zy_h (mr := zm_m285) rfl rfl (zl_ld (k := 3) hO rfl (by omega) hL) ?_
  refine zy_c (mr := zm_m285) (mc := zm_m28) rfl rfl (zl_cx (A := [.int (xs (N + 1)), .int (xs (N + 2)), .int (xs (N + 3))]) hH rfl rfl) rfl rfl ?_
  refine ((xo_x_worth hH hX ((xs (N + 1))) ((xs (N + 2))) ((xs (N + 3))) ).deep (Nat.le_of_ble_eq_true rfl)).mono (fun r h1 hq => ?_)
  obtain ⟨⟨i1, rfl⟩, τ1, hH1, hX1, hW1, hF1⟩ := hq
  have hR1 := xRR_F hH hF1 ⟨rfl, rfl, rfl, rfl⟩ hR
  refine zy_n 6 (mr := zm_m285) rfl (show _ = some (502, [(3, .int (Int32.ofNat N)), (2, .ref 55), (1, .ref 0), (0, .retAddr 0)], [.int (Int32.ofNat N + 1), .retAddr 0, .ref 55]) from rfl) ?_
  refine zy_h (mr := zm_m285) rfl rfl (zl_ld (k := 1) hO rfl (by omega) hL) ?_
  refine zy_n 4 (mr := zm_m285) rfl (show _ = some (507, [(3, .int (Int32.ofNat N)), (2, .ref 55), (1, .ref 0), (0, .retAddr 0)], [.int (Int32.ofNat N + 2), .retAddr 0, .int (xs (N + 1)), .ref 55]) from rfl) ?_
  refine zy_h (mr := zm_m285) rfl rfl (zl_ld (k := 2) hO rfl (by omega) hL) ?_
  refine zy_n 4 (mr := zm_m285) rfl (show _ = some (512, [(3, .int (Int32.ofNat N)), (2, .ref 55), (1, .ref 0), (0, .retAddr 0)], [.int (Int32.ofNat N + 3), .retAddr 0, .int (xs (N + 2)), .int (xs (N + 1)), .ref 55]) from rfl) ?_
  refine zy_h (mr := zm_m285) rfl rfl (zl_ld (k := 3) hO rfl (by omega) hL) ?_
  refine zy_c (mr := zm_m285) (mc := zm_m196) rfl rfl (zl_cm (A := [.int (xs (N + 1)), .int (xs (N + 2)), .int (xs (N + 3))]) hH1 rfl rfl) rfl rfl ?_
  refine ((xo_m_worth hH1 hX1 ((xs (N + 1))) ((xs (N + 2))) ((xs (N + 3))) ).deep (Nat.le_of_ble_eq_true rfl)).mono (fun r h2 hq => ?_)
  obtain ⟨⟨i2, rfl⟩, τ2, hH2, hX2, hW2, hF2⟩ := hq
  have hR2 := xRR_F hH1 hF2 ⟨rfl, rfl, rfl, rfl⟩ hR1
  refine zy_n 2 (mr := zm_m285) rfl (show _ = some (1970, [(3, .int (Int32.ofNat N)), (2, .ref 55), (1, .ref 0), (0, .retAddr 0)], []) from rfl) ?_
  exact kk τ2 h2 hH2 hX2 hR2 (by omega)
set_option maxRecDepth 100000 in
theorem zl_6 (hO : og 0 = some (.inl (0, L, .inl xs))) (hL : L ≤ 3584) (hN : N + 6 < L) (hH : xHI xKT xSG τ h) (hX : xX τ h) (hR : xRR τ h) (kk : ∀ (τ1 : List Nat) (h1 : zm_H), xHI xKT xSG τ1 h1 → xX τ1 h1 → xRR τ1 h1 → xW h1 ≤ xW h + 3734 → zm_Y og 60 285 1970 [(3, .int (Int32.ofNat N)), (2, .ref 55), (1, .ref 0), (0, .retAddr 0)] [] h1 Q) : zm_Y og 60 285 520 [(3, .int (Int32.ofNat N)), (2, .ref 55), (1, .ref 0), (0, .retAddr 0)] [] h Q := by
  refine zy_n 5 (mr := zm_m285) rfl (show _ = some (525, [(3, .int (Int32.ofNat N)), (2, .ref 55), (1, .ref 0), (0, .retAddr 0)], [.int (Int32.ofNat N + 1), .retAddr 0, .ref 0]) from rfl) ?_
  refine zy_h (mr := zm_m285) rfl rfl (zl_ld (k := 1) hO rfl (by omega) hL) ?_
  refine zy_n 4 (mr := zm_m285) rfl (show _ = some (530, [(3, .int (Int32.ofNat N)), (2, .ref 55), (1, .ref 0), (0, .retAddr 0)], [.int (Int32.ofNat N + 2), .retAddr 0, .int (xs (N + 1)), .ref 0]) from rfl) ?_
  refine zy_h (mr := zm_m285) rfl rfl (zl_ld (k := 2) hO rfl (by omega) hL) ?_
  refine zy_c (mr := zm_m285) (mc := zm_m29) rfl rfl (zl_cx (A := [.int (xs (N + 1)), .int (xs (N + 2))]) hH rfl rfl) rfl rfl ?_
  refine ((xo_x_roof hH hX ((xs (N + 1))) ((xs (N + 2))) ).deep (Nat.le_of_ble_eq_true rfl)).mono (fun r h1 hq => ?_)
  obtain ⟨⟨i1, rfl⟩, τ1, hH1, hX1, hW1, hF1⟩ := hq
  have hR1 := xRR_F hH hF1 ⟨rfl, rfl, rfl, rfl⟩ hR
  refine zy_n 6 (mr := zm_m285) rfl (show _ = some (540, [(3, .int (Int32.ofNat N)), (2, .ref 55), (1, .ref 0), (0, .retAddr 0)], [.int (Int32.ofNat N + 1), .retAddr 0, .ref 55]) from rfl) ?_
  refine zy_h (mr := zm_m285) rfl rfl (zl_ld (k := 1) hO rfl (by omega) hL) ?_
  refine zy_n 4 (mr := zm_m285) rfl (show _ = some (545, [(3, .int (Int32.ofNat N)), (2, .ref 55), (1, .ref 0), (0, .retAddr 0)], [.int (Int32.ofNat N + 2), .retAddr 0, .int (xs (N + 1)), .ref 55]) from rfl) ?_
  refine zy_h (mr := zm_m285) rfl rfl (zl_ld (k := 2) hO rfl (by omega) hL) ?_
  refine zy_c (mr := zm_m285) (mc := zm_m197) rfl rfl (zl_cm (A := [.int (xs (N + 1)), .int (xs (N + 2))]) hH1 rfl rfl) rfl rfl ?_
  refine ((xo_m_roof hH1 hX1 ((xs (N + 1))) ((xs (N + 2))) ).deep (Nat.le_of_ble_eq_true rfl)).mono (fun r h2 hq => ?_)
  obtain ⟨⟨i2, rfl⟩, τ2, hH2, hX2, hW2, hF2⟩ := hq
  have hR2 := xRR_F hH1 hF2 ⟨rfl, rfl, rfl, rfl⟩ hR1
  refine zy_n 2 (mr := zm_m285) rfl (show _ = some (1970, [(3, .int (Int32.ofNat N)), (2, .ref 55), (1, .ref 0), (0, .retAddr 0)], []) from rfl) ?_
  exact kk τ2 h2 hH2 hX2 hR2 (by omega)
set_option maxRecDepth 100000 in
theorem zl_7 (hO : og 0 = some (.inl (0, L, .inl xs))) (hL : L ≤ 3584) (hN : N + 6 < L) (hH : xHI xKT xSG τ h) (hX : xX τ h) (hR : xRR τ h) (kk : ∀ (τ1 : List Nat) (h1 : zm_H), xHI xKT xSG τ1 h1 → xX τ1 h1 → xRR τ1 h1 → xW h1 ≤ xW h + 3734 → zm_Y og 60 285 1970 [(3, .int (Int32.ofNat N)), (2, .ref 55), (1, .ref 0), (0, .retAddr 0)] [] h1 Q) : zm_Y og 60 285 553 [(3, .int (Int32.ofNat N)), (2, .ref 55), (1, .ref 0), (0, .retAddr 0)] [] h Q := by
  refine zy_n 5 (mr := zm_m285) rfl (show _ = some (558, [(3, .int (Int32.ofNat N)), (2, .ref 55), (1, .ref 0), (0, .retAddr 0)], [.int (Int32.ofNat N + 1), .retAddr 0, .ref 0]) from rfl) ?_
  refine zy_h (mr := zm_m285) rfl rfl (zl_ld (k := 1) hO rfl (by omega) hL) ?_
  refine zy_c (mr := zm_m285) (mc := zm_m30) rfl rfl (zl_cx (A := [.int (xs (N + 1))]) hH rfl rfl) rfl rfl ?_
  refine ((xo_x_down hH hX ((xs (N + 1))) ).deep (Nat.le_of_ble_eq_true rfl)).mono (fun r h1 hq => ?_)
  obtain ⟨⟨i1, rfl⟩, τ1, hH1, hX1, hW1, hF1⟩ := hq
  have hR1 := xRR_F hH hF1 ⟨rfl, rfl, rfl, rfl⟩ hR
  refine zy_n 6 (mr := zm_m285) rfl (show _ = some (568, [(3, .int (Int32.ofNat N)), (2, .ref 55), (1, .ref 0), (0, .retAddr 0)], [.int (Int32.ofNat N + 1), .retAddr 0, .ref 55]) from rfl) ?_
  refine zy_h (mr := zm_m285) rfl rfl (zl_ld (k := 1) hO rfl (by omega) hL) ?_
  refine zy_c (mr := zm_m285) (mc := zm_m198) rfl rfl (zl_cm (A := [.int (xs (N + 1))]) hH1 rfl rfl) rfl rfl ?_
  refine ((xo_m_down hH1 hX1 ((xs (N + 1))) ).deep (Nat.le_of_ble_eq_true rfl)).mono (fun r h2 hq => ?_)
  obtain ⟨⟨i2, rfl⟩, τ2, hH2, hX2, hW2, hF2⟩ := hq
  have hR2 := xRR_F hH1 hF2 ⟨rfl, rfl, rfl, rfl⟩ hR1
  refine zy_n 2 (mr := zm_m285) rfl (show _ = some (1970, [(3, .int (Int32.ofNat N)), (2, .ref 55), (1, .ref 0), (0, .retAddr 0)], []) from rfl) ?_
  exact kk τ2 h2 hH2 hX2 hR2 (by omega)
set_option maxRecDepth 100000 in
theorem zl_8 (hO : og 0 = some (.inl (0, L, .inl xs))) (hL : L ≤ 3584) (hN : N + 6 < L) (hH : xHI xKT xSG τ h) (hX : xX τ h) (hR : xRR τ h) (kk : ∀ (τ1 : List Nat) (h1 : zm_H), xHI xKT xSG τ1 h1 → xX τ1 h1 → xRR τ1 h1 → xW h1 ≤ xW h + 3734 → zm_Y og 60 285 1970 [(3, .int (Int32.ofNat N)), (2, .ref 55), (1, .ref 0), (0, .retAddr 0)] [] h1 Q) : zm_Y og 60 285 576 [(3, .int (Int32.ofNat N)), (2, .ref 55), (1, .ref 0), (0, .retAddr 0)] [] h Q := by
  refine zy_n 5 (mr := zm_m285) rfl (show _ = some (581, [(3, .int (Int32.ofNat N)), (2, .ref 55), (1, .ref 0), (0, .retAddr 0)], [.int (Int32.ofNat N + 1), .retAddr 0, .ref 0]) from rfl) ?_
  refine zy_h (mr := zm_m285) rfl rfl (zl_ld (k := 1) hO rfl (by omega) hL) ?_
  refine zy_n 4 (mr := zm_m285) rfl (show _ = some (586, [(3, .int (Int32.ofNat N)), (2, .ref 55), (1, .ref 0), (0, .retAddr 0)], [.int (Int32.ofNat N + 2), .retAddr 0, .int (xs (N + 1)), .ref 0]) from rfl) ?_
  refine zy_h (mr := zm_m285) rfl rfl (zl_ld (k := 2) hO rfl (by omega) hL) ?_
  refine zy_n 4 (mr := zm_m285) rfl (show _ = some (591, [(3, .int (Int32.ofNat N)), (2, .ref 55), (1, .ref 0), (0, .retAddr 0)], [.int (Int32.ofNat N + 3), .retAddr 0, .int (xs (N + 2)), .int (xs (N + 1)), .ref 0]) from rfl) ?_
  refine zy_h (mr := zm_m285) rfl rfl (zl_ld (k := 3) hO rfl (by omega) hL) ?_
  refine zy_n 4 (mr := zm_m285) rfl (show _ = some (596, [(3, .int (Int32.ofNat N)), (2, .ref 55), (1, .ref 0), (0, .retAddr 0)], [.int (Int32.ofNat N + 4), .retAddr 0, .int (xs (N + 3)), .int (xs (N + 2)), .int (xs (N + 1)), .ref 0]) from rfl) ?_
  refine zy_h (mr := zm_m285) rfl rfl (zl_ld (k := 4) hO rfl (by omega) hL) ?_
  refine zy_n 4 (mr := zm_m285) rfl (show _ = some (601, [(3, .int (Int32.ofNat N)), (2, .ref 55), (1, .ref 0), (0, .retAddr 0)], [.int (Int32.ofNat N + 5), .retAddr 0, .int (xs (N + 4)), .int (xs (N + 3)), .int (xs (N + 2)), .int (xs (N + 1)), .ref 0]) from rfl) ?_
  refine zy_h (mr := zm_m285) rfl rfl (zl_ld (k := 5) hO rfl (by omega) hL) ?_
  refine zy_c (mr := zm_m285) (mc := zm_m31) rfl rfl (zl_cx (A := [.int (xs (N + 1)), .int (xs (N + 2)), .int (xs (N + 3)), .int (xs (N + 4)), .int (xs (N + 5))]) hH rfl rfl) rfl rfl ?_
  refine ((xo_x_feed hH hX ((xs (N + 1))) ((xs (N + 2))) ((xs (N + 3))) ((xs (N + 4))) ((xs (N + 5))) ).deep (Nat.le_of_ble_eq_true rfl)).mono (fun r h1 hq => ?_)
  obtain ⟨⟨i1, rfl⟩, τ1, hH1, hX1, hW1, hF1⟩ := hq
  have hR1 := xRR_F hH hF1 ⟨rfl, rfl, rfl, rfl⟩ hR
  refine zy_n 6 (mr := zm_m285) rfl (show _ = some (611, [(3, .int (Int32.ofNat N)), (2, .ref 55), (1, .ref 0), (0, .retAddr 0)], [.int (Int32.ofNat N + 1), .retAddr 0, .ref 55]) from rfl) ?_
  refine zy_h (mr := zm_m285) rfl rfl (zl_ld (k := 1) hO rfl (by omega) hL) ?_
  refine zy_n 4 (mr := zm_m285) rfl (show _ = some (616, [(3, .int (Int32.ofNat N)), (2, .ref 55), (1, .ref 0), (0, .retAddr 0)], [.int (Int32.ofNat N + 2), .retAddr 0, .int (xs (N + 1)), .ref 55]) from rfl) ?_
  refine zy_h (mr := zm_m285) rfl rfl (zl_ld (k := 2) hO rfl (by omega) hL) ?_
  refine zy_n 4 (mr := zm_m285) rfl (show _ = some (621, [(3, .int (Int32.ofNat N)), (2, .ref 55), (1, .ref 0), (0, .retAddr 0)], [.int (Int32.ofNat N + 3), .retAddr 0, .int (xs (N + 2)), .int (xs (N + 1)), .ref 55]) from rfl) ?_
  refine zy_h (mr := zm_m285) rfl rfl (zl_ld (k := 3) hO rfl (by omega) hL) ?_
  refine zy_n 4 (mr := zm_m285) rfl (show _ = some (626, [(3, .int (Int32.ofNat N)), (2, .ref 55), (1, .ref 0), (0, .retAddr 0)], [.int (Int32.ofNat N + 4), .retAddr 0, .int (xs (N + 3)), .int (xs (N + 2)), .int (xs (N + 1)), .ref 55]) from rfl) ?_
  refine zy_h (mr := zm_m285) rfl rfl (zl_ld (k := 4) hO rfl (by omega) hL) ?_
  refine zy_n 4 (mr := zm_m285) rfl (show _ = some (631, [(3, .int (Int32.ofNat N)), (2, .ref 55), (1, .ref 0), (0, .retAddr 0)], [.int (Int32.ofNat N + 5), .retAddr 0, .int (xs (N + 4)), .int (xs (N + 3)), .int (xs (N + 2)), .int (xs (N + 1)), .ref 55]) from rfl) ?_
  refine zy_h (mr := zm_m285) rfl rfl (zl_ld (k := 5) hO rfl (by omega) hL) ?_
  refine zy_c (mr := zm_m285) (mc := zm_m199) rfl rfl (zl_cm (A := [.int (xs (N + 1)), .int (xs (N + 2)), .int (xs (N + 3)), .int (xs (N + 4)), .int (xs (N + 5))]) hH1 rfl rfl) rfl rfl ?_
  refine ((xo_m_feed hH1 hX1 ((xs (N + 1))) ((xs (N + 2))) ((xs (N + 3))) ((xs (N + 4))) ((xs (N + 5))) ).deep (Nat.le_of_ble_eq_true rfl)).mono (fun r h2 hq => ?_)
  obtain ⟨⟨i2, rfl⟩, τ2, hH2, hX2, hW2, hF2⟩ := hq
  have hR2 := xRR_F hH1 hF2 ⟨rfl, rfl, rfl, rfl⟩ hR1
  refine zy_n 2 (mr := zm_m285) rfl (show _ = some (1970, [(3, .int (Int32.ofNat N)), (2, .ref 55), (1, .ref 0), (0, .retAddr 0)], []) from rfl) ?_
  exact kk τ2 h2 hH2 hX2 hR2 (by omega)
set_option maxRecDepth 100000 in
theorem zl_9 (hO : og 0 = some (.inl (0, L, .inl xs))) (hL : L ≤ 3584) (hN : N + 6 < L) (hH : xHI xKT xSG τ h) (hX : xX τ h) (hR : xRR τ h) (kk : ∀ (τ1 : List Nat) (h1 : zm_H), xHI xKT xSG τ1 h1 → xX τ1 h1 → xRR τ1 h1 → xW h1 ≤ xW h + 3734 → zm_Y og 60 285 1970 [(3, .int (Int32.ofNat N)), (2, .ref 55), (1, .ref 0), (0, .retAddr 0)] [] h1 Q) : zm_Y og 60 285 639 [(3, .int (Int32.ofNat N)), (2, .ref 55), (1, .ref 0), (0, .retAddr 0)] [] h Q := by
  refine zy_n 5 (mr := zm_m285) rfl (show _ = some (644, [(3, .int (Int32.ofNat N)), (2, .ref 55), (1, .ref 0), (0, .retAddr 0)], [.int (Int32.ofNat N + 1), .retAddr 0, .ref 0]) from rfl) ?_
  refine zy_h (mr := zm_m285) rfl rfl (zl_ld (k := 1) hO rfl (by omega) hL) ?_
  refine zy_c (mr := zm_m285) (mc := zm_m34) rfl rfl (zl_cx (A := [.int (xs (N + 1))]) hH rfl rfl) rfl rfl ?_
  refine ((xo_x_end hH hX ((xs (N + 1))) ).deep (Nat.le_of_ble_eq_true rfl)).mono (fun r h1 hq => ?_)
  obtain ⟨⟨i1, rfl⟩, τ1, hH1, hX1, hW1, hF1⟩ := hq
  have hR1 := xRR_F hH hF1 ⟨rfl, rfl, rfl, rfl⟩ hR
  refine zy_n 6 (mr := zm_m285) rfl (show _ = some (654, [(3, .int (Int32.ofNat N)), (2, .ref 55), (1, .ref 0), (0, .retAddr 0)], [.int (Int32.ofNat N + 1), .retAddr 0, .ref 55]) from rfl) ?_
  refine zy_h (mr := zm_m285) rfl rfl (zl_ld (k := 1) hO rfl (by omega) hL) ?_
  refine zy_c (mr := zm_m285) (mc := zm_m200) rfl rfl (zl_cm (A := [.int (xs (N + 1))]) hH1 rfl rfl) rfl rfl ?_
  refine ((xo_m_end hH1 hX1 ((xs (N + 1))) ).deep (Nat.le_of_ble_eq_true rfl)).mono (fun r h2 hq => ?_)
  obtain ⟨⟨i2, rfl⟩, τ2, hH2, hX2, hW2, hF2⟩ := hq
  have hR2 := xRR_F hH1 hF2 ⟨rfl, rfl, rfl, rfl⟩ hR1
  refine zy_n 2 (mr := zm_m285) rfl (show _ = some (1970, [(3, .int (Int32.ofNat N)), (2, .ref 55), (1, .ref 0), (0, .retAddr 0)], []) from rfl) ?_
  exact kk τ2 h2 hH2 hX2 hR2 (by omega)
set_option maxRecDepth 100000 in
theorem zl_10 (hO : og 0 = some (.inl (0, L, .inl xs))) (hL : L ≤ 3584) (hN : N + 6 < L) (hH : xHI xKT xSG τ h) (hX : xX τ h) (hR : xRR τ h) (kk : ∀ (τ1 : List Nat) (h1 : zm_H), xHI xKT xSG τ1 h1 → xX τ1 h1 → xRR τ1 h1 → xW h1 ≤ xW h + 3734 → zm_Y og 60 285 1970 [(3, .int (Int32.ofNat N)), (2, .ref 55), (1, .ref 0), (0, .retAddr 0)] [] h1 Q) : zm_Y og 60 285 662 [(3, .int (Int32.ofNat N)), (2, .ref 55), (1, .ref 0), (0, .retAddr 0)] [] h Q := by
  refine zy_n 5 (mr := zm_m285) rfl (show _ = some (667, [(3, .int (Int32.ofNat N)), (2, .ref 55), (1, .ref 0), (0, .retAddr 0)], [.int (Int32.ofNat N + 1), .retAddr 0, .ref 0]) from rfl) ?_
  refine zy_h (mr := zm_m285) rfl rfl (zl_ld (k := 1) hO rfl (by omega) hL) ?_
  refine zy_c (mr := zm_m285) (mc := zm_m35) rfl rfl (zl_cx (A := [.int (xs (N + 1))]) hH rfl rfl) rfl rfl ?_
  refine ((xo_x_act hH hX ((xs (N + 1))) ).deep (Nat.le_of_ble_eq_true rfl)).mono (fun r h1 hq => ?_)
  obtain ⟨⟨i1, rfl⟩, τ1, hH1, hX1, hW1, hF1⟩ := hq
  have hR1 := xRR_F hH hF1 ⟨rfl, rfl, rfl, rfl⟩ hR
  refine zy_n 6 (mr := zm_m285) rfl (show _ = some (677, [(3, .int (Int32.ofNat N)), (2, .ref 55), (1, .ref 0), (0, .retAddr 0)], [.int (Int32.ofNat N + 1), .retAddr 0, .ref 55]) from rfl) ?_
  refine zy_h (mr := zm_m285) rfl rfl (zl_ld (k := 1) hO rfl (by omega) hL) ?_
  refine zy_c (mr := zm_m285) (mc := zm_m201) rfl rfl (zl_cm (A := [.int (xs (N + 1))]) hH1 rfl rfl) rfl rfl ?_
  refine ((xo_m_act hH1 hX1 ((xs (N + 1))) ).deep (Nat.le_of_ble_eq_true rfl)).mono (fun r h2 hq => ?_)
  obtain ⟨⟨i2, rfl⟩, τ2, hH2, hX2, hW2, hF2⟩ := hq
  have hR2 := xRR_F hH1 hF2 ⟨rfl, rfl, rfl, rfl⟩ hR1
  refine zy_n 2 (mr := zm_m285) rfl (show _ = some (1970, [(3, .int (Int32.ofNat N)), (2, .ref 55), (1, .ref 0), (0, .retAddr 0)], []) from rfl) ?_
  exact kk τ2 h2 hH2 hX2 hR2 (by omega)
set_option maxRecDepth 100000 in
theorem zl_11 (hO : og 0 = some (.inl (0, L, .inl xs))) (hL : L ≤ 3584) (hN : N + 6 < L) (hH : xHI xKT xSG τ h) (hX : xX τ h) (hR : xRR τ h) (kk : ∀ (τ1 : List Nat) (h1 : zm_H), xHI xKT xSG τ1 h1 → xX τ1 h1 → xRR τ1 h1 → xW h1 ≤ xW h + 3734 → zm_Y og 60 285 1970 [(3, .int (Int32.ofNat N)), (2, .ref 55), (1, .ref 0), (0, .retAddr 0)] [] h1 Q) : zm_Y og 60 285 685 [(3, .int (Int32.ofNat N)), (2, .ref 55), (1, .ref 0), (0, .retAddr 0)] [] h Q := by
  refine zy_n 1 (mr := zm_m285) rfl (show _ = some (686, [(3, .int (Int32.ofNat N)), (2, .ref 55), (1, .ref 0), (0, .retAddr 0)], [.ref 0]) from rfl) ?_
  refine zy_c (mr := zm_m285) (mc := zm_m73) rfl rfl (zl_cx (A := []) hH rfl rfl) rfl rfl ?_
  refine ((xo_x_fault hH hX ).deep (Nat.le_of_ble_eq_true rfl)).mono (fun r h1 hq => ?_)
  obtain ⟨⟨i1, rfl⟩, τ1, hH1, hX1, hW1, hF1⟩ := hq
  have hR1 := xRR_F hH hF1 ⟨rfl, rfl, rfl, rfl⟩ hR
  refine zy_n 2 (mr := zm_m285) rfl (show _ = some (691, [(3, .int (Int32.ofNat N)), (2, .ref 55), (1, .ref 0), (0, .retAddr 0)], [.ref 55]) from rfl) ?_
  refine zy_c (mr := zm_m285) (mc := zm_m231) rfl rfl (zl_cm (A := []) hH1 rfl rfl) rfl rfl ?_
  refine ((xo_m_fault hH1 hX1 ).deep (Nat.le_of_ble_eq_true rfl)).mono (fun r h2 hq => ?_)
  obtain ⟨⟨i2, rfl⟩, τ2, hH2, hX2, hW2, hF2⟩ := hq
  have hR2 := xRR_F hH1 hF2 ⟨rfl, rfl, rfl, rfl⟩ hR1
  refine zy_n 2 (mr := zm_m285) rfl (show _ = some (1970, [(3, .int (Int32.ofNat N)), (2, .ref 55), (1, .ref 0), (0, .retAddr 0)], []) from rfl) ?_
  exact kk τ2 h2 hH2 hX2 hR2 (by omega)
set_option maxRecDepth 100000 in
theorem zl_12 (hO : og 0 = some (.inl (0, L, .inl xs))) (hL : L ≤ 3584) (hN : N + 6 < L) (hH : xHI xKT xSG τ h) (hX : xX τ h) (hR : xRR τ h) (kk : ∀ (τ1 : List Nat) (h1 : zm_H), xHI xKT xSG τ1 h1 → xX τ1 h1 → xRR τ1 h1 → xW h1 ≤ xW h + 3734 → zm_Y og 60 285 1970 [(3, .int (Int32.ofNat N)), (2, .ref 55), (1, .ref 0), (0, .retAddr 0)] [] h1 Q) : zm_Y og 60 285 698 [(3, .int (Int32.ofNat N)), (2, .ref 55), (1, .ref 0), (0, .retAddr 0)] [] h Q := by
  refine zy_n 5 (mr := zm_m285) rfl (show _ = some (703, [(3, .int (Int32.ofNat N)), (2, .ref 55), (1, .ref 0), (0, .retAddr 0)], [.int (Int32.ofNat N + 1), .retAddr 0, .ref 0]) from rfl) ?_
  refine zy_h (mr := zm_m285) rfl rfl (zl_ld (k := 1) hO rfl (by omega) hL) ?_
  refine zy_n 4 (mr := zm_m285) rfl (show _ = some (708, [(3, .int (Int32.ofNat N)), (2, .ref 55), (1, .ref 0), (0, .retAddr 0)], [.int (Int32.ofNat N + 2), .retAddr 0, .int (xs (N + 1)), .ref 0]) from rfl) ?_
  refine zy_h (mr := zm_m285) rfl rfl (zl_ld (k := 2) hO rfl (by omega) hL) ?_
  refine zy_n 4 (mr := zm_m285) rfl (show _ = some (713, [(3, .int (Int32.ofNat N)), (2, .ref 55), (1, .ref 0), (0, .retAddr 0)], [.int (Int32.ofNat N + 3), .retAddr 0, .int (xs (N + 2)), .int (xs (N + 1)), .ref 0]) from rfl) ?_
  refine zy_h (mr := zm_m285) rfl rfl (zl_ld (k := 3) hO rfl (by omega) hL) ?_
  refine zy_c (mr := zm_m285) (mc := zm_m74) rfl rfl (zl_cx (A := [.int (xs (N + 1)), .int (xs (N + 2)), .int (xs (N + 3))]) hH rfl rfl) rfl rfl ?_
  refine ((xo_x_weight hH hX ((xs (N + 1))) ((xs (N + 2))) ((xs (N + 3))) ).deep (Nat.le_of_ble_eq_true rfl)).mono (fun r h1 hq => ?_)
  obtain ⟨⟨i1, rfl⟩, τ1, hH1, hX1, hW1, hF1⟩ := hq
  have hR1 := xRR_F hH hF1 ⟨rfl, rfl, rfl, rfl⟩ hR
  refine zy_n 6 (mr := zm_m285) rfl (show _ = some (723, [(3, .int (Int32.ofNat N)), (2, .ref 55), (1, .ref 0), (0, .retAddr 0)], [.int (Int32.ofNat N + 1), .retAddr 0, .ref 55]) from rfl) ?_
  refine zy_h (mr := zm_m285) rfl rfl (zl_ld (k := 1) hO rfl (by omega) hL) ?_
  refine zy_n 4 (mr := zm_m285) rfl (show _ = some (728, [(3, .int (Int32.ofNat N)), (2, .ref 55), (1, .ref 0), (0, .retAddr 0)], [.int (Int32.ofNat N + 2), .retAddr 0, .int (xs (N + 1)), .ref 55]) from rfl) ?_
  refine zy_h (mr := zm_m285) rfl rfl (zl_ld (k := 2) hO rfl (by omega) hL) ?_
  refine zy_n 4 (mr := zm_m285) rfl (show _ = some (733, [(3, .int (Int32.ofNat N)), (2, .ref 55), (1, .ref 0), (0, .retAddr 0)], [.int (Int32.ofNat N + 3), .retAddr 0, .int (xs (N + 2)), .int (xs (N + 1)), .ref 55]) from rfl) ?_
  refine zy_h (mr := zm_m285) rfl rfl (zl_ld (k := 3) hO rfl (by omega) hL) ?_
  refine zy_c (mr := zm_m285) (mc := zm_m232) rfl rfl (zl_cm (A := [.int (xs (N + 1)), .int (xs (N + 2)), .int (xs (N + 3))]) hH1 rfl rfl) rfl rfl ?_
  refine ((xo_m_weight hH1 hX1 ((xs (N + 1))) ((xs (N + 2))) ((xs (N + 3))) ).deep (Nat.le_of_ble_eq_true rfl)).mono (fun r h2 hq => ?_)
  obtain ⟨⟨i2, rfl⟩, τ2, hH2, hX2, hW2, hF2⟩ := hq
  have hR2 := xRR_F hH1 hF2 ⟨rfl, rfl, rfl, rfl⟩ hR1
  refine zy_n 2 (mr := zm_m285) rfl (show _ = some (1970, [(3, .int (Int32.ofNat N)), (2, .ref 55), (1, .ref 0), (0, .retAddr 0)], []) from rfl) ?_
  exact kk τ2 h2 hH2 hX2 hR2 (by omega)
set_option maxRecDepth 100000 in
theorem zl_13 (hO : og 0 = some (.inl (0, L, .inl xs))) (hL : L ≤ 3584) (hN : N + 6 < L) (hH : xHI xKT xSG τ h) (hX : xX τ h) (hR : xRR τ h) (kk : ∀ (τ1 : List Nat) (h1 : zm_H), xHI xKT xSG τ1 h1 → xX τ1 h1 → xRR τ1 h1 → xW h1 ≤ xW h + 3734 → zm_Y og 60 285 1970 [(3, .int (Int32.ofNat N)), (2, .ref 55), (1, .ref 0), (0, .retAddr 0)] [] h1 Q) : zm_Y og 60 285 741 [(3, .int (Int32.ofNat N)), (2, .ref 55), (1, .ref 0), (0, .retAddr 0)] [] h Q := by
  refine zy_n 5 (mr := zm_m285) rfl (show _ = some (746, [(3, .int (Int32.ofNat N)), (2, .ref 55), (1, .ref 0), (0, .retAddr 0)], [.int (Int32.ofNat N + 1), .retAddr 0, .ref 0]) from rfl) ?_
  refine zy_h (mr := zm_m285) rfl rfl (zl_ld (k := 1) hO rfl (by omega) hL) ?_
  refine zy_n 4 (mr := zm_m285) rfl (show _ = some (751, [(3, .int (Int32.ofNat N)), (2, .ref 55), (1, .ref 0), (0, .retAddr 0)], [.int (Int32.ofNat N + 2), .retAddr 0, .int (xs (N + 1)), .ref 0]) from rfl) ?_
  refine zy_h (mr := zm_m285) rfl rfl (zl_ld (k := 2) hO rfl (by omega) hL) ?_
  refine zy_n 4 (mr := zm_m285) rfl (show _ = some (756, [(3, .int (Int32.ofNat N)), (2, .ref 55), (1, .ref 0), (0, .retAddr 0)], [.int (Int32.ofNat N + 3), .retAddr 0, .int (xs (N + 2)), .int (xs (N + 1)), .ref 0]) from rfl) ?_
  refine zy_h (mr := zm_m285) rfl rfl (zl_ld (k := 3) hO rfl (by omega) hL) ?_
  refine zy_c (mr := zm_m285) (mc := zm_m84) rfl rfl (zl_cx (A := [.int (xs (N + 1)), .int (xs (N + 2)), .int (xs (N + 3))]) hH rfl rfl) rfl rfl ?_
  refine ((xo_x_counted hH hX ((xs (N + 1))) ((xs (N + 2))) ((xs (N + 3))) ).deep (Nat.le_of_ble_eq_true rfl)).mono (fun r h1 hq => ?_)
  obtain ⟨⟨i1, rfl⟩, τ1, hH1, hX1, hW1, hF1⟩ := hq
  have hR1 := xRR_F hH hF1 ⟨rfl, rfl, rfl, rfl⟩ hR
  refine zy_n 6 (mr := zm_m285) rfl (show _ = some (766, [(3, .int (Int32.ofNat N)), (2, .ref 55), (1, .ref 0), (0, .retAddr 0)], [.int (Int32.ofNat N + 1), .retAddr 0, .ref 55]) from rfl) ?_
  refine zy_h (mr := zm_m285) rfl rfl (zl_ld (k := 1) hO rfl (by omega) hL) ?_
  refine zy_n 4 (mr := zm_m285) rfl (show _ = some (771, [(3, .int (Int32.ofNat N)), (2, .ref 55), (1, .ref 0), (0, .retAddr 0)], [.int (Int32.ofNat N + 2), .retAddr 0, .int (xs (N + 1)), .ref 55]) from rfl) ?_
  refine zy_h (mr := zm_m285) rfl rfl (zl_ld (k := 2) hO rfl (by omega) hL) ?_
  refine zy_n 4 (mr := zm_m285) rfl (show _ = some (776, [(3, .int (Int32.ofNat N)), (2, .ref 55), (1, .ref 0), (0, .retAddr 0)], [.int (Int32.ofNat N + 3), .retAddr 0, .int (xs (N + 2)), .int (xs (N + 1)), .ref 55]) from rfl) ?_
  refine zy_h (mr := zm_m285) rfl rfl (zl_ld (k := 3) hO rfl (by omega) hL) ?_
  refine zy_c (mr := zm_m285) (mc := zm_m235) rfl rfl (zl_cm (A := [.int (xs (N + 1)), .int (xs (N + 2)), .int (xs (N + 3))]) hH1 rfl rfl) rfl rfl ?_
  refine ((xo_m_counted hH1 hX1 ((xs (N + 1))) ((xs (N + 2))) ((xs (N + 3))) ).deep (Nat.le_of_ble_eq_true rfl)).mono (fun r h2 hq => ?_)
  obtain ⟨⟨i2, rfl⟩, τ2, hH2, hX2, hW2, hF2⟩ := hq
  have hR2 := xRR_F hH1 hF2 ⟨rfl, rfl, rfl, rfl⟩ hR1
  refine zy_n 2 (mr := zm_m285) rfl (show _ = some (1970, [(3, .int (Int32.ofNat N)), (2, .ref 55), (1, .ref 0), (0, .retAddr 0)], []) from rfl) ?_
  exact kk τ2 h2 hH2 hX2 hR2 (by omega)
set_option maxRecDepth 100000 in
theorem zl_14 (hO : og 0 = some (.inl (0, L, .inl xs))) (hL : L ≤ 3584) (hN : N + 6 < L) (hH : xHI xKT xSG τ h) (hX : xX τ h) (hR : xRR τ h) (kk : ∀ (τ1 : List Nat) (h1 : zm_H), xHI xKT xSG τ1 h1 → xX τ1 h1 → xRR τ1 h1 → xW h1 ≤ xW h + 3734 → zm_Y og 60 285 1970 [(3, .int (Int32.ofNat N)), (2, .ref 55), (1, .ref 0), (0, .retAddr 0)] [] h1 Q) : zm_Y og 60 285 784 [(3, .int (Int32.ofNat N)), (2, .ref 55), (1, .ref 0), (0, .retAddr 0)] [] h Q := by
  refine zy_n 5 (mr := zm_m285) rfl (show _ = some (789, [(3, .int (Int32.ofNat N)), (2, .ref 55), (1, .ref 0), (0, .retAddr 0)], [.int (Int32.ofNat N + 1), .retAddr 0, .ref 0]) from rfl) ?_
  refine zy_h (mr := zm_m285) rfl rfl (zl_ld (k := 1) hO rfl (by omega) hL) ?_
  refine zy_n 4 (mr := zm_m285) rfl (show _ = some (794, [(3, .int (Int32.ofNat N)), (2, .ref 55), (1, .ref 0), (0, .retAddr 0)], [.int (Int32.ofNat N + 2), .retAddr 0, .int (xs (N + 1)), .ref 0]) from rfl) ?_
  refine zy_h (mr := zm_m285) rfl rfl (zl_ld (k := 2) hO rfl (by omega) hL) ?_
  refine zy_n 4 (mr := zm_m285) rfl (show _ = some (799, [(3, .int (Int32.ofNat N)), (2, .ref 55), (1, .ref 0), (0, .retAddr 0)], [.int (Int32.ofNat N + 3), .retAddr 0, .int (xs (N + 2)), .int (xs (N + 1)), .ref 0]) from rfl) ?_
  refine zy_h (mr := zm_m285) rfl rfl (zl_ld (k := 3) hO rfl (by omega) hL) ?_
  refine zy_c (mr := zm_m285) (mc := zm_m89) rfl rfl (zl_cx (A := [.int (xs (N + 1)), .int (xs (N + 2)), .int (xs (N + 3))]) hH rfl rfl) rfl rfl ?_
  refine ((xo_x_tax hH hX ((xs (N + 1))) ((xs (N + 2))) ((xs (N + 3))) ).deep (Nat.le_of_ble_eq_true rfl)).mono (fun r h1 hq => ?_)
  obtain ⟨⟨i1, rfl⟩, τ1, hH1, hX1, hW1, hF1⟩ := hq
  have hR1 := xRR_F hH hF1 ⟨rfl, rfl, rfl, rfl⟩ hR
  refine zy_n 6 (mr := zm_m285) rfl (show _ = some (809, [(3, .int (Int32.ofNat N)), (2, .ref 55), (1, .ref 0), (0, .retAddr 0)], [.int (Int32.ofNat N + 1), .retAddr 0, .ref 55]) from rfl) ?_
  refine zy_h (mr := zm_m285) rfl rfl (zl_ld (k := 1) hO rfl (by omega) hL) ?_
  refine zy_n 4 (mr := zm_m285) rfl (show _ = some (814, [(3, .int (Int32.ofNat N)), (2, .ref 55), (1, .ref 0), (0, .retAddr 0)], [.int (Int32.ofNat N + 2), .retAddr 0, .int (xs (N + 1)), .ref 55]) from rfl) ?_
  refine zy_h (mr := zm_m285) rfl rfl (zl_ld (k := 2) hO rfl (by omega) hL) ?_
  refine zy_n 4 (mr := zm_m285) rfl (show _ = some (819, [(3, .int (Int32.ofNat N)), (2, .ref 55), (1, .ref 0), (0, .retAddr 0)], [.int (Int32.ofNat N + 3), .retAddr 0, .int (xs (N + 2)), .int (xs (N + 1)), .ref 55]) from rfl) ?_
  refine zy_h (mr := zm_m285) rfl rfl (zl_ld (k := 3) hO rfl (by omega) hL) ?_
  refine zy_c (mr := zm_m285) (mc := zm_m238) rfl rfl (zl_cm (A := [.int (xs (N + 1)), .int (xs (N + 2)), .int (xs (N + 3))]) hH1 rfl rfl) rfl rfl ?_
  refine ((xo_m_tax hH1 hX1 ((xs (N + 1))) ((xs (N + 2))) ((xs (N + 3))) ).deep (Nat.le_of_ble_eq_true rfl)).mono (fun r h2 hq => ?_)
  obtain ⟨⟨i2, rfl⟩, τ2, hH2, hX2, hW2, hF2⟩ := hq
  have hR2 := xRR_F hH1 hF2 ⟨rfl, rfl, rfl, rfl⟩ hR1
  refine zy_n 2 (mr := zm_m285) rfl (show _ = some (1970, [(3, .int (Int32.ofNat N)), (2, .ref 55), (1, .ref 0), (0, .retAddr 0)], []) from rfl) ?_
  exact kk τ2 h2 hH2 hX2 hR2 (by omega)
set_option maxRecDepth 100000 in
theorem zl_15 (hO : og 0 = some (.inl (0, L, .inl xs))) (hL : L ≤ 3584) (hN : N + 6 < L) (hH : xHI xKT xSG τ h) (hX : xX τ h) (hR : xRR τ h) (kk : ∀ (τ1 : List Nat) (h1 : zm_H), xHI xKT xSG τ1 h1 → xX τ1 h1 → xRR τ1 h1 → xW h1 ≤ xW h + 3734 → zm_Y og 60 285 1970 [(3, .int (Int32.ofNat N)), (2, .ref 55), (1, .ref 0), (0, .retAddr 0)] [] h1 Q) : zm_Y og 60 285 827 [(3, .int (Int32.ofNat N)), (2, .ref 55), (1, .ref 0), (0, .retAddr 0)] [] h Q := by
  refine zy_n 5 (mr := zm_m285) rfl (show _ = some (832, [(3, .int (Int32.ofNat N)), (2, .ref 55), (1, .ref 0), (0, .retAddr 0)], [.int (Int32.ofNat N + 1), .retAddr 0, .ref 0]) from rfl) ?_
  refine zy_h (mr := zm_m285) rfl rfl (zl_ld (k := 1) hO rfl (by omega) hL) ?_
  refine zy_c (mr := zm_m285) (mc := zm_m92) rfl rfl (zl_cx (A := [.int (xs (N + 1))]) hH rfl rfl) rfl rfl ?_
  refine ((xo_x_due hH hX ((xs (N + 1))) ).deep (Nat.le_of_ble_eq_true rfl)).mono (fun r h1 hq => ?_)
  obtain ⟨⟨i1, rfl⟩, τ1, hH1, hX1, hW1, hF1⟩ := hq
  have hR1 := xRR_F hH hF1 ⟨rfl, rfl, rfl, rfl⟩ hR
  refine zy_n 6 (mr := zm_m285) rfl (show _ = some (842, [(3, .int (Int32.ofNat N)), (2, .ref 55), (1, .ref 0), (0, .retAddr 0)], [.int (Int32.ofNat N + 1), .retAddr 0, .ref 55]) from rfl) ?_
  refine zy_h (mr := zm_m285) rfl rfl (zl_ld (k := 1) hO rfl (by omega) hL) ?_
  refine zy_c (mr := zm_m285) (mc := zm_m240) rfl rfl (zl_cm (A := [.int (xs (N + 1))]) hH1 rfl rfl) rfl rfl ?_
  refine ((xo_m_due hH1 hX1 ((xs (N + 1))) ).deep (Nat.le_of_ble_eq_true rfl)).mono (fun r h2 hq => ?_)
  obtain ⟨⟨i2, rfl⟩, τ2, hH2, hX2, hW2, hF2⟩ := hq
  have hR2 := xRR_F hH1 hF2 ⟨rfl, rfl, rfl, rfl⟩ hR1
  refine zy_n 2 (mr := zm_m285) rfl (show _ = some (1970, [(3, .int (Int32.ofNat N)), (2, .ref 55), (1, .ref 0), (0, .retAddr 0)], []) from rfl) ?_
  exact kk τ2 h2 hH2 hX2 hR2 (by omega)
end ZLW
