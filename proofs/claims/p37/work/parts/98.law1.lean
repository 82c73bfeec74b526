/-! The law, further cases -/
section ZLW
variable {og : Nat → Option zm_C} {xs : Nat → Int32} {L N : Nat} {τ : List Nat} {h : zm_H} {Q : Option Value → zm_H → Prop}
set_option maxRecDepth 100000 in
theorem zl_16 (hO : og 0 = some (.inl (0, L, .inl xs))) (hL : L ≤ 3584) (hN : N + 6 < L) (hH : xHI xKT xSG τ h) (hX : xX τ h) (hR : xRR τ h) (kk : ∀ (τ1 : List Nat) (h1 : zm_H), xHI xKT xSG τ1 h1 → xX τ1 h1 → xRR τ1 h1 → xW h1 ≤ xW h + 3734 → zm_Y og 60 285 1970 [(3, .int (Int32.ofNat N)), (2, .ref 55), (1, .ref 0), (0, .retAddr 0)] [] h1 Q) : zm_Y og 60 285 850 [(3, .int (Int32.ofNat N)), (2, .ref 55), (1, .ref 0), (0, .retAddr 0)] [] h Q := by
  refine zy_n 5 (mr := zm_m285) rfl (show _ = some (855, [(3, .int (Int32.ofNat N)), (2, .ref 55), (1, .ref 0), (0, .retAddr 0)], [.int (Int32.ofNat N + 1), .retAddr 0, .ref 0]) from rfl) ?_
  refine zy_h (mr := zm_m285) rfl rfl (zl_ld (k := 1) hO rfl (by omega) hL) ?_
  refine zy_n 4 (mr := zm_m285) rfl (show _ = some (860, [(3, .int (Int32.ofNat N)), (2, .ref 55), (1, .ref 0), (0, .retAddr 0)], [.int (Int32.ofNat N + 2), .retAddr 0, .int (xs (N + 1)), .ref 0]) from rfl) ?_
  refine zy_h (mr := zm_m285) rfl rfl (zl_ld (k := 2) hO rfl (by omega) hL) ?_
  refine zy_c (mr := zm_m285) (mc := zm_m95) rfl rfl (zl_cx (A := [.int (xs (N + 1)), .int (xs (N + 2))]) hH rfl rfl) rfl rfl ?_
  refine ((xo_x_plan hH hX ((xs (N + 1))) ((xs (N + 2))) ).deep (Nat.le_of_ble_eq_true rfl)).mono (fun r h1 hq => ?_)
  obtain ⟨⟨i1, rfl⟩, τ1, hH1, hX1, hW1, hF1⟩ := hq
  have hR1 := xRR_F hH hF1 ⟨rfl, rfl, rfl, rfl⟩ hR
  refine zy_n 6 (mr := zm_m285) rfl (show _ = some (870, [(3, .int (Int32.ofNat N)), (2, .ref 55), (1, .ref 0), (0, .retAddr 0)], [.int (Int32.ofNat N + 1), .retAddr 0, .ref 55]) from rfl) ?_
  refine zy_h (mr := zm_m285) rfl rfl (zl_ld (k := 1) hO rfl (by omega) hL) ?_
  refine zy_n 4 (mr := zm_m285) rfl (show _ = some (875, [(3, .int (Int32.ofNat N)), (2, .ref 55), (1, .ref 0), (0, .retAddr 0)], [.int (Int32.ofNat N + 2), .retAddr 0, .int (xs (N + 1)), .ref 55]) from rfl) ?_
  refine zy_h (mr := zm_m285) rfl rfl (zl_ld (k := 2) hO rfl (by omega) hL) ?_
  refine zy_c (mr := zm_m285) (mc := zm_m243) rfl rfl (zl_cm (A := [.int (xs (N + 1)), .int (xs (N + 2))]) hH1 rfl rfl) rfl rfl ?_
  refine ((xo_m_plan hH1 hX1 ((xs (N + 1))) ((xs (N + 2))) ).deep (Nat.le_of_ble_eq_true rfl)).mono (fun r h2 hq => ?_)
  obtain ⟨⟨i2, rfl⟩, τ2, hH2, hX2, hW2, hF2⟩ := hq
  have hR2 := xRR_F hH1 hF2 ⟨rfl, rfl, rfl, rfl⟩ hR1
  refine zy_n 2 (mr := zm_m285) rfl (show _ = some (1970, [(3, .int (Int32.ofNat N)), (2, .ref 55), (1, .ref 0), (0, .retAddr 0)], []) from rfl) ?_
  exact kk τ2 h2 hH2 hX2 hR2 (by omega)
set_option maxRecDepth 100000 in
theorem zl_17 (hO : og 0 = some (.inl (0, L, .inl xs))) (hL : L ≤ 3584) (hN : N + 6 < L) (hH : xHI xKT xSG τ h) (hX : xX τ h) (hR : xRR τ h) (kk : ∀ (τ1 : List Nat) (h1 : zm_H), xHI xKT xSG τ1 h1 → xX τ1 h1 → xRR τ1 h1 → xW h1 ≤ xW h + 3734 → zm_Y og 60 285 1970 [(3, .int (Int32.ofNat N)), (2, .ref 55), (1, .ref 0), (0, .retAddr 0)] [] h1 Q) : zm_Y og 60 285 883 [(3, .int (Int32.ofNat N)), (2, .ref 55), (1, .ref 0), (0, .retAddr 0)] [] h Q := by
  refine zy_n 5 (mr := zm_m285) rfl (show _ = some (888, [(3, .int (Int32.ofNat N)), (2, .ref 55), (1, .ref 0), (0, .retAddr 0)], [.int (Int32.ofNat N + 1), .retAddr 0, .ref 0]) from rfl) ?_
  refine zy_h (mr := zm_m285) rfl rfl (zl_ld (k := 1) hO rfl (by omega) hL) ?_
  refine zy_c (mr := zm_m285) (mc := zm_m104) rfl rfl (zl_cx (A := [.int (xs (N + 1))]) hH rfl rfl) rfl rfl ?_
  refine ((xo_x_planned hH hX ((xs (N + 1))) ).deep (Nat.le_of_ble_eq_true rfl)).mono (fun r h1 hq => ?_)
  obtain ⟨⟨i1, rfl⟩, τ1, hH1, hX1, hW1, hF1⟩ := hq
  have hR1 := xRR_F hH hF1 ⟨rfl, rfl, rfl, rfl⟩ hR
  refine zy_n 6 (mr := zm_m285) rfl (show _ = some (898, [(3, .int (Int32.ofNat N)), (2, .ref 55), (1, .ref 0), (0, .retAddr 0)], [.int (Int32.ofNat N + 1), .retAddr 0, .ref 55]) from rfl) ?_
  refine zy_h (mr := zm_m285) rfl rfl (zl_ld (k := 1) hO rfl (by omega) hL) ?_
  refine zy_c (mr := zm_m285) (mc := zm_m251) rfl rfl (zl_cm (A := [.int (xs (N + 1))]) hH1 rfl rfl) rfl rfl ?_
  refine ((xo_m_planned hH1 hX1 ((xs (N + 1))) ).deep (Nat.le_of_ble_eq_true rfl)).mono (fun r h2 hq => ?_)
  obtain ⟨⟨i2, rfl⟩, τ2, hH2, hX2, hW2, hF2⟩ := hq
  have hR2 := xRR_F hH1 hF2 ⟨rfl, rfl, rfl, rfl⟩ hR1
  refine zy_n 2 (mr := zm_m285) rfl (show _ = some (1970, [(3, .int (Int32.ofNat N)), (2, .ref 55), (1, .ref 0), (0, .retAddr 0)], []) from rfl) ?_
  exact kk τ2 h2 hH2 hX2 hR2 (by omega)
set_option maxRecDepth 100000 in
theorem zl_18 (hO : og 0 = some (.inl (0, L, .inl xs))) (hL : L ≤ 3584) (hN : N + 6 < L) (hH : xHI xKT xSG τ h) (hX : xX τ h) (hR : xRR τ h) (kk : ∀ (τ1 : List Nat) (h1 : zm_H), xHI xKT xSG τ1 h1 → xX τ1 h1 → xRR τ1 h1 → xW h1 ≤ xW h + 3734 → zm_Y og 60 285 1970 [(3, .int (Int32.ofNat N)), (2, .ref 55), (1, .ref 0), (0, .retAddr 0)] [] h1 Q) : zm_Y og 60 285 906 [(3, .int (Int32.ofNat N)), (2, .ref 55), (1, .ref 0), (0, .retAddr 0)] [] h Q := by
  refine zy_n 1 (mr := zm_m285) rfl (show _ = some (907, [(3, .int (Int32.ofNat N)), (2, .ref 55), (1, .ref 0), (0, .retAddr 0)], [.ref 0]) from rfl) ?_
  refine zy_c (mr := zm_m285) (mc := zm_m105) rfl rfl (zl_cx (A := []) hH rfl rfl) rfl rfl ?_
  refine ((xo_x_owner hH hX ).deep (Nat.le_of_ble_eq_true rfl)).mono (fun r h1 hq => ?_)
  obtain ⟨⟨i1, rfl⟩, τ1, hH1, hX1, hW1, hF1⟩ := hq
  have hR1 := xRR_F hH hF1 ⟨rfl, rfl, rfl, rfl⟩ hR
  refine zy_n 2 (mr := zm_m285) rfl (show _ = some (912, [(3, .int (Int32.ofNat N)), (2, .ref 55), (1, .ref 0), (0, .retAddr 0)], [.ref 55]) from rfl) ?_
  refine zy_c (mr := zm_m285) (mc := zm_m252) rfl rfl (zl_cm (A := []) hH1 rfl rfl) rfl rfl ?_
  refine ((xo_m_owner hH1 hX1 ).deep (Nat.le_of_ble_eq_true rfl)).mono (fun r h2 hq => ?_)
  obtain ⟨⟨i2, rfl⟩, τ2, hH2, hX2, hW2, hF2⟩ := hq
  have hR2 := xRR_F hH1 hF2 ⟨rfl, rfl, rfl, rfl⟩ hR1
  refine zy_n 2 (mr := zm_m285) rfl (show _ = some (1970, [(3, .int (Int32.ofNat N)), (2, .ref 55), (1, .ref 0), (0, .retAddr 0)], []) from rfl) ?_
  exact kk τ2 h2 hH2 hX2 hR2 (by omega)
set_option maxRecDepth 100000 in
theorem zl_19 (hO : og 0 = some (.inl (0, L, .inl xs))) (hL : L ≤ 3584) (hN : N + 6 < L) (hH : xHI xKT xSG τ h) (hX : xX τ h) (hR : xRR τ h) (kk : ∀ (τ1 : List Nat) (h1 : zm_H), xHI xKT xSG τ1 h1 → xX τ1 h1 → xRR τ1 h1 → xW h1 ≤ xW h + 3734 → zm_Y og 60 285 1970 [(3, .int (Int32.ofNat N)), (2, .ref 55), (1, .ref 0), (0, .retAddr 0)] [] h1 Q) : zm_Y og 60 285 919 [(3, .int (Int32.ofNat N)), (2, .ref 55), (1, .ref 0), (0, .retAddr 0)] [] h Q := by
  refine zy_n 5 (mr := zm_m285) rfl (show _ = some (924, [(3, .int (Int32.ofNat N)), (2, .ref 55), (1, .ref 0), (0, .retAddr 0)], [.int (Int32.ofNat N + 1), .retAddr 0, .ref 0]) from rfl) ?_
  refine zy_h (mr := zm_m285) rfl rfl (zl_ld (k := 1) hO rfl (by omega) hL) ?_
  refine zy_n 4 (mr := zm_m285) rfl (show _ = some (929, [(3, .int (Int32.ofNat N)), (2, .ref 55), (1, .ref 0), (0, .retAddr 0)], [.int (Int32.ofNat N + 2), .retAddr 0, .int (xs (N + 1)), .ref 0]) from rfl) ?_
  refine zy_h (mr := zm_m285) rfl rfl (zl_ld (k := 2) hO rfl (by omega) hL) ?_
  refine zy_n 4 (mr := zm_m285) rfl (show _ = some (934, [(3, .int (Int32.ofNat N)), (2, .ref 55), (1, .ref 0), (0, .retAddr 0)], [.int (Int32.ofNat N + 3), .retAddr 0, .int (xs (N + 2)), .int (xs (N + 1)), .ref 0]) from rfl) ?_
  refine zy_h (mr := zm_m285) rfl rfl (zl_ld (k := 3) hO rfl (by omega) hL) ?_
  refine zy_n 4 (mr := zm_m285) rfl (show _ = some (939, [(3, .int (Int32.ofNat N)), (2, .ref 55), (1, .ref 0), (0, .retAddr 0)], [.int (Int32.ofNat N + 4), .retAddr 0, .int (xs (N + 3)), .int (xs (N + 2)), .int (xs (N + 1)), .ref 0]) from rfl) ?_
  refine zy_h (mr := zm_m285) rfl rfl (zl_ld (k := 4) hO rfl (by omega) hL) ?_
  refine zy_b (mr := zm_m285) rfl rfl (show _ = some (zm_if .eq (xs (N + 4)) 947 943, [.int (xs (N + 3)), .int (xs (N + 2)), .int (xs (N + 1)), .ref 0]) from rfl) ?_
  suffices kk948 : zm_Y og 60 285 948 [(3, .int (Int32.ofNat N)), (2, .ref 55), (1, .ref 0), (0, .retAddr 0)] [.int (xbn (xs (N + 4))), .int (xs (N + 3)), .int (xs (N + 2)), .int (xs (N + 1)), .ref 0] h Q by
    refine zi_eq (fun e => ?_) (fun e => ?_)
    · rw [show xbn (xs (N + 4)) = 0 from if_pos e] at kk948
      exact zy_n 1 (mr := zm_m285) rfl rfl kk948
    · rw [show xbn (xs (N + 4)) = 1 from if_neg e] at kk948
      exact zy_n 2 (mr := zm_m285) rfl rfl kk948
  refine zy_n 4 (mr := zm_m285) rfl (show _ = some (952, [(3, .int (Int32.ofNat N)), (2, .ref 55), (1, .ref 0), (0, .retAddr 0)], [.int (Int32.ofNat N + 5), .retAddr 0, .int (xbn (xs (N + 4))), .int (xs (N + 3)), .int (xs (N + 2)), .int (xs (N + 1)), .ref 0]) from rfl) ?_
  refine zy_h (mr := zm_m285) rfl rfl (zl_ld (k := 5) hO rfl (by omega) hL) ?_
  refine zy_b (mr := zm_m285) rfl rfl (show _ = some (zm_if .eq (xs (N + 5)) 960 956, [.int (xbn (xs (N + 4))), .int (xs (N + 3)), .int (xs (N + 2)), .int (xs (N + 1)), .ref 0]) from rfl) ?_
  suffices kk961 : zm_Y og 60 285 961 [(3, .int (Int32.ofNat N)), (2, .ref 55), (1, .ref 0), (0, .retAddr 0)] [.int (xbn (xs (N + 5))), .int (xbn (xs (N + 4))), .int (xs (N + 3)), .int (xs (N + 2)), .int (xs (N + 1)), .ref 0] h Q by
    refine zi_eq (fun e => ?_) (fun e => ?_)
    · rw [show xbn (xs (N + 5)) = 0 from if_pos e] at kk961
      exact zy_n 1 (mr := zm_m285) rfl rfl kk961
    · rw [show xbn (xs (N + 5)) = 1 from if_neg e] at kk961
      exact zy_n 2 (mr := zm_m285) rfl rfl kk961
  refine zy_n 4 (mr := zm_m285) rfl (show _ = some (966, [(3, .int (Int32.ofNat N)), (2, .ref 55), (1, .ref 0), (0, .retAddr 0)], [.int (Int32.ofNat N + 6), .retAddr 0, .int (xbn (xs (N + 5))), .int (xbn (xs (N + 4))), .int (xs (N + 3)), .int (xs (N + 2)), .int (xs (N + 1)), .ref 0]) from rfl) ?_
  refine zy_h (mr := zm_m285) rfl rfl (zl_ld (k := 6) hO rfl (by omega) hL) ?_
  refine zy_b (mr := zm_m285) rfl rfl (show _ = some (zm_if .eq (xs (N + 6)) 974 970, [.int (xbn (xs (N + 5))), .int (xbn (xs (N + 4))), .int (xs (N + 3)), .int (xs (N + 2)), .int (xs (N + 1)), .ref 0]) from rfl) ?_
  suffices kk975 : zm_Y og 60 285 975 [(3, .int (Int32.ofNat N)), (2, .ref 55), (1, .ref 0), (0, .retAddr 0)] [.int (xbn (xs (N + 6))), .int (xbn (xs (N + 5))), .int (xbn (xs (N + 4))), .int (xs (N + 3)), .int (xs (N + 2)), .int (xs (N + 1)), .ref 0] h Q by
    refine zi_eq (fun e => ?_) (fun e => ?_)
    · rw [show xbn (xs (N + 6)) = 0 from if_pos e] at kk975
      exact zy_n 1 (mr := zm_m285) rfl rfl kk975
    · rw [show xbn (xs (N + 6)) = 1 from if_neg e] at kk975
      exact zy_n 2 (mr := zm_m285) rfl rfl kk975
  refine zy_c (mr := zm_m285) (mc := zm_m107) rfl rfl (zl_cx (A := [.int (xs (N + 1)), .int (xs (N + 2)), .int (xs (N + 3)), .int (xbn (xs (N + 4))), .int (xbn (xs (N + 5))), .int (xbn (xs (N + 6)))]) hH rfl rfl) rfl rfl ?_
  refine ((xo_x_held hH hX ((xs (N + 1))) ((xs (N + 2))) ((xs (N + 3))) ((xbn (xs (N + 4)))) ((xbn (xs (N + 5)))) ((xbn (xs (N + 6)))) (xbn_r _) (xbn_r _) (xbn_r _)).deep (Nat.le_of_ble_eq_true rfl)).mono (fun r h1 hq => ?_)
  obtain ⟨⟨i1, rfl⟩, τ1, hH1, hX1, hW1, hF1⟩ := hq
  have hR1 := xRR_F hH hF1 ⟨rfl, rfl, rfl, rfl⟩ hR
  refine zy_n 6 (mr := zm_m285) rfl (show _ = some (984, [(3, .int (Int32.ofNat N)), (2, .ref 55), (1, .ref 0), (0, .retAddr 0)], [.int (Int32.ofNat N + 1), .retAddr 0, .ref 55]) from rfl) ?_
  refine zy_h (mr := zm_m285) rfl rfl (zl_ld (k := 1) hO rfl (by omega) hL) ?_
  refine zy_n 4 (mr := zm_m285) rfl (show _ = some (989, [(3, .int (Int32.ofNat N)), (2, .ref 55), (1, .ref 0), (0, .retAddr 0)], [.int (Int32.ofNat N + 2), .retAddr 0, .int (xs (N + 1)), .ref 55]) from rfl) ?_
  refine zy_h (mr := zm_m285) rfl rfl (zl_ld (k := 2) hO rfl (by omega) hL) ?_
  refine zy_n 4 (mr := zm_m285) rfl (show _ = some (994, [(3, .int (Int32.ofNat N)), (2, .ref 55), (1, .ref 0), (0, .retAddr 0)], [.int (Int32.ofNat N + 3), .retAddr 0, .int (xs (N + 2)), .int (xs (N + 1)), .ref 55]) from rfl) ?_
  refine zy_h (mr := zm_m285) rfl rfl (zl_ld (k := 3) hO rfl (by omega) hL) ?_
  refine zy_n 4 (mr := zm_m285) rfl (show _ = some (999, [(3, .int (Int32.ofNat N)), (2, .ref 55), (1, .ref 0), (0, .retAddr 0)], [.int (Int32.ofNat N + 4), .retAddr 0, .int (xs (N + 3)), .int (xs (N + 2)), .int (xs (N + 1)), .ref 55]) from rfl) ?_
  refine zy_h (mr := zm_m285) rfl rfl (zl_ld (k := 4) hO rfl (by omega) hL) ?_
  refine zy_b (mr := zm_m285) rfl rfl (show _ = some (zm_if .eq (xs (N + 4)) 1007 1003, [.int (xs (N + 3)), .int (xs (N + 2)), .int (xs (N + 1)), .ref 55]) from rfl) ?_
  suffices kk1008 : zm_Y og 60 285 1008 [(3, .int (Int32.ofNat N)), (2, .ref 55), (1, .ref 0), (0, .retAddr 0)] [.int (xbn (xs (N + 4))), .int (xs (N + 3)), .int (xs (N + 2)), .int (xs (N + 1)), .ref 55] h1 Q by
    refine zi_eq (fun e => ?_) (fun e => ?_)
    · rw [show xbn (xs (N + 4)) = 0 from if_pos e] at kk1008
      exact zy_n 1 (mr := zm_m285) rfl rfl kk1008
    · rw [show xbn (xs (N + 4)) = 1 from if_neg e] at kk1008
      exact zy_n 2 (mr := zm_m285) rfl rfl kk1008
  refine zy_n 4 (mr := zm_m285) rfl (show _ = some (1012, [(3, .int (Int32.ofNat N)), (2, .ref 55), (1, .ref 0), (0, .retAddr 0)], [.int (Int32.ofNat N + 5), .retAddr 0, .int (xbn (xs (N + 4))), .int (xs (N + 3)), .int (xs (N + 2)), .int (xs (N + 1)), .ref 55]) from rfl) ?_
  refine zy_h (mr := zm_m285) rfl rfl (zl_ld (k := 5) hO rfl (by omega) hL) ?_
  refine zy_b (mr := zm_m285) rfl rfl (show _ = some (zm_if .eq (xs (N + 5)) 1020 1016, [.int (xbn (xs (N + 4))), .int (xs (N + 3)), .int (xs (N + 2)), .int (xs (N + 1)), .ref 55]) from rfl) ?_
  suffices kk1021 : zm_Y og 60 285 1021 [(3, .int (Int32.ofNat N)), (2, .ref 55), (1, .ref 0), (0, .retAddr 0)] [.int (xbn (xs (N + 5))), .int (xbn (xs (N + 4))), .int (xs (N + 3)), .int (xs (N + 2)), .int (xs (N + 1)), .ref 55] h1 Q by
    refine zi_eq (fun e => ?_) (fun e => ?_)
    · rw [show xbn (xs (N + 5)) = 0 from if_pos e] at kk1021
      exact zy_n 1 (mr := zm_m285) rfl rfl kk1021
    · rw [show xbn (xs (N + 5)) = 1 from if_neg e] at kk1021
      exact zy_n 2 (mr := zm_m285) rfl rfl kk1021
  refine zy_n 4 (mr := zm_m285) rfl (show _ = some (1026, [(3, .int (Int32.ofNat N)), (2, .ref 55), (1, .ref 0), (0, .retAddr 0)], [.int (Int32.ofNat N + 6), .retAddr 0, .int (xbn (xs (N + 5))), .int (xbn (xs (N + 4))), .int (xs (N + 3)), .int (xs (N + 2)), .int (xs (N + 1)), .ref 55]) from rfl) ?_
  refine zy_h (mr := zm_m285) rfl rfl (zl_ld (k := 6) hO rfl (by omega) hL) ?_
  refine zy_b (mr := zm_m285) rfl rfl (show _ = some (zm_if .eq (xs (N + 6)) 1034 1030, [.int (xbn (xs (N + 5))), .int (xbn (xs (N + 4))), .int (xs (N + 3)), .int (xs (N + 2)), .int (xs (N + 1)), .ref 55]) from rfl) ?_
  suffices kk1035 : zm_Y og 60 285 1035 [(3, .int (Int32.ofNat N)), (2, .ref 55), (1, .ref 0), (0, .retAddr 0)] [.int (xbn (xs (N + 6))), .int (xbn (xs (N + 5))), .int (xbn (xs (N + 4))), .int (xs (N + 3)), .int (xs (N + 2)), .int (xs (N + 1)), .ref 55] h1 Q by
    refine zi_eq (fun e => ?_) (fun e => ?_)
    · rw [show xbn (xs (N + 6)) = 0 from if_pos e] at kk1035
      exact zy_n 1 (mr := zm_m285) rfl rfl kk1035
    · rw [show xbn (xs (N + 6)) = 1 from if_neg e] at kk1035
      exact zy_n 2 (mr := zm_m285) rfl rfl kk1035
  refine zy_c (mr := zm_m285) (mc := zm_m253) rfl rfl (zl_cm (A := [.int (xs (N + 1)), .int (xs (N + 2)), .int (xs (N + 3)), .int (xbn (xs (N + 4))), .int (xbn (xs (N + 5))), .int (xbn (xs (N + 6)))]) hH1 rfl rfl) rfl rfl ?_
  refine ((xo_m_held hH1 hX1 ((xs (N + 1))) ((xs (N + 2))) ((xs (N + 3))) ((xbn (xs (N + 4)))) ((xbn (xs (N + 5)))) ((xbn (xs (N + 6)))) (xbn_r _) (xbn_r _) (xbn_r _)).deep (Nat.le_of_ble_eq_true rfl)).mono (fun r h2 hq => ?_)
  obtain ⟨⟨i2, rfl⟩, τ2, hH2, hX2, hW2, hF2⟩ := hq
  have hR2 := xRR_F hH1 hF2 ⟨rfl, rfl, rfl, rfl⟩ hR1
  refine zy_n 2 (mr := zm_m285) rfl (show _ = some (1970, [(3, .int (Int32.ofNat N)), (2, .ref 55), (1, .ref 0), (0, .retAddr 0)], []) from rfl) ?_
  exact kk τ2 h2 hH2 hX2 hR2 (by omega)
set_option maxRecDepth 100000 in
theorem zl_20 (hO : og 0 = some (.inl (0, L, .inl xs))) (hL : L ≤ 3584) (hN : N + 6 < L) (hH : xHI xKT xSG τ h) (hX : xX τ h) (hR : xRR τ h) (kk : ∀ (τ1 : List Nat) (h1 : zm_H), xHI xKT xSG τ1 h1 → xX τ1 h1 → xRR τ1 h1 → xW h1 ≤ xW h + 3734 → zm_Y og 60 285 1970 [(3, .int (Int32.ofNat N)), (2, .ref 55), (1, .ref 0), (0, .retAddr 0)] [] h1 Q) : zm_Y og 60 285 1042 [(3, .int (Int32.ofNat N)), (2, .ref 55), (1, .ref 0), (0, .retAddr 0)] [] h Q := by
  refine zy_n 5 (mr := zm_m285) rfl (show _ = some (1047, [(3, .int (Int32.ofNat N)), (2, .ref 55), (1, .ref 0), (0, .retAddr 0)], [.int (Int32.ofNat N + 1), .retAddr 0, .ref 0]) from rfl) ?_
  refine zy_h (mr := zm_m285) rfl rfl (zl_ld (k := 1) hO rfl (by omega) hL) ?_
  refine zy_n 4 (mr := zm_m285) rfl (show _ = some (1052, [(3, .int (Int32.ofNat N)), (2, .ref 55), (1, .ref 0), (0, .retAddr 0)], [.int (Int32.ofNat N + 2), .retAddr 0, .int (xs (N + 1)), .ref 0]) from rfl) ?_
  refine zy_h (mr := zm_m285) rfl rfl (zl_ld (k := 2) hO rfl (by omega) hL) ?_
  refine zy_c (mr := zm_m285) (mc := zm_m110) rfl rfl (zl_cx (A := [.int (xs (N + 1)), .int (xs (N + 2))]) hH rfl rfl) rfl rfl ?_
  refine ((xo_x_nearest hH hX ((xs (N + 1))) ((xs (N + 2))) ).deep (Nat.le_of_ble_eq_true rfl)).mono (fun r h1 hq => ?_)
  obtain ⟨⟨i1, rfl⟩, τ1, hH1, hX1, hW1, hF1⟩ := hq
  have hR1 := xRR_F hH hF1 ⟨rfl, rfl, rfl, rfl⟩ hR
  refine zy_n 6 (mr := zm_m285) rfl (show _ = some (1062, [(3, .int (Int32.ofNat N)), (2, .ref 55), (1, .ref 0), (0, .retAddr 0)], [.int (Int32.ofNat N + 1), .retAddr 0, .ref 55]) from rfl) ?_
  refine zy_h (mr := zm_m285) rfl rfl (zl_ld (k := 1) hO rfl (by omega) hL) ?_
  refine zy_n 4 (mr := zm_m285) rfl (show _ = some (1067, [(3, .int (Int32.ofNat N)), (2, .ref 55), (1, .ref 0), (0, .retAddr 0)], [.int (Int32.ofNat N + 2), .retAddr 0, .int (xs (N + 1)), .ref 55]) from rfl) ?_
  refine zy_h (mr := zm_m285) rfl rfl (zl_ld (k := 2) hO rfl (by omega) hL) ?_
  refine zy_c (mr := zm_m285) (mc := zm_m255) rfl rfl (zl_cm (A := [.int (xs (N + 1)), .int (xs (N + 2))]) hH1 rfl rfl) rfl rfl ?_
  refine ((xo_m_nearest hH1 hX1 ((xs (N + 1))) ((xs (N + 2))) ).deep (Nat.le_of_ble_eq_true rfl)).mono (fun r h2 hq => ?_)
  obtain ⟨⟨i2, rfl⟩, τ2, hH2, hX2, hW2, hF2⟩ := hq
  have hR2 := xRR_F hH1 hF2 ⟨rfl, rfl, rfl, rfl⟩ hR1
  refine zy_n 2 (mr := zm_m285) rfl (show _ = some (1970, [(3, .int (Int32.ofNat N)), (2, .ref 55), (1, .ref 0), (0, .retAddr 0)], []) from rfl) ?_
  exact kk τ2 h2 hH2 hX2 hR2 (by omega)
set_option maxRecDepth 100000 in
theorem zl_21 (hO : og 0 = some (.inl (0, L, .inl xs))) (hL : L ≤ 3584) (hN : N + 6 < L) (hH : xHI xKT xSG τ h) (hX : xX τ h) (hR : xRR τ h) (kk : ∀ (τ1 : List Nat) (h1 : zm_H), xHI xKT xSG τ1 h1 → xX τ1 h1 → xRR τ1 h1 → xW h1 ≤ xW h + 3734 → zm_Y og 60 285 1970 [(3, .int (Int32.ofNat N)), (2, .ref 55), (1, .ref 0), (0, .retAddr 0)] [] h1 Q) : zm_Y og 60 285 1075 [(3, .int (Int32.ofNat N)), (2, .ref 55), (1, .ref 0), (0, .retAddr 0)] [] h Q := by
  refine zy_n 5 (mr := zm_m285) rfl (show _ = some (1080, [(3, .int (Int32.ofNat N)), (2, .ref 55), (1, .ref 0), (0, .retAddr 0)], [.int (Int32.ofNat N + 1), .retAddr 0, .ref 0]) from rfl) ?_
  refine zy_h (mr := zm_m285) rfl rfl (zl_ld (k := 1) hO rfl (by omega) hL) ?_
  refine zy_n 4 (mr := zm_m285) rfl (show _ = some (1085, [(3, .int (Int32.ofNat N)), (2, .ref 55), (1, .ref 0), (0, .retAddr 0)], [.int (Int32.ofNat N + 2), .retAddr 0, .int (xs (N + 1)), .ref 0]) from rfl) ?_
  refine zy_h (mr := zm_m285) rfl rfl (zl_ld (k := 2) hO rfl (by omega) hL) ?_
  refine zy_c (mr := zm_m285) (mc := zm_m114) rfl rfl (zl_cx (A := [.int (xs (N + 1)), .int (xs (N + 2))]) hH rfl rfl) rfl rfl ?_
  refine ((xo_x_appeal hH hX ((xs (N + 1))) ((xs (N + 2))) ).deep (Nat.le_of_ble_eq_true rfl)).mono (fun r h1 hq => ?_)
  obtain ⟨⟨i1, rfl⟩, τ1, hH1, hX1, hW1, hF1⟩ := hq
  have hR1 := xRR_F hH hF1 ⟨rfl, rfl, rfl, rfl⟩ hR
  refine zy_n 6 (mr := zm_m285) rfl (show _ = some (1095, [(3, .int (Int32.ofNat N)), (2, .ref 55), (1, .ref 0), (0, .retAddr 0)], [.int (Int32.ofNat N + 1), .retAddr 0, .ref 55]) from rfl) ?_
  refine zy_h (mr := zm_m285) rfl rfl (zl_ld (k := 1) hO rfl (by omega) hL) ?_
  refine zy_n 4 (mr := zm_m285) rfl (show _ = some (1100, [(3, .int (Int32.ofNat N)), (2, .ref 55), (1, .ref 0), (0, .retAddr 0)], [.int (Int32.ofNat N + 2), .retAddr 0, .int (xs (N + 1)), .ref 55]) from rfl) ?_
  refine zy_h (mr := zm_m285) rfl rfl (zl_ld (k := 2) hO rfl (by omega) hL) ?_
  refine zy_c (mr := zm_m285) (mc := zm_m258) rfl rfl (zl_cm (A := [.int (xs (N + 1)), .int (xs (N + 2))]) hH1 rfl rfl) rfl rfl ?_
  refine ((xo_m_appeal hH1 hX1 ((xs (N + 1))) ((xs (N + 2))) ).deep (Nat.le_of_ble_eq_true rfl)).mono (fun r h2 hq => ?_)
  obtain ⟨⟨i2, rfl⟩, τ2, hH2, hX2, hW2, hF2⟩ := hq
  have hR2 := xRR_F hH1 hF2 ⟨rfl, rfl, rfl, rfl⟩ hR1
  refine zy_n 2 (mr := zm_m285) rfl (show _ = some (1970, [(3, .int (Int32.ofNat N)), (2, .ref 55), (1, .ref 0), (0, .retAddr 0)], []) from rfl) ?_
  exact kk τ2 h2 hH2 hX2 hR2 (by omega)
set_option maxRecDepth 100000 in
theorem zl_22 (hO : og 0 = some (.inl (0, L, .inl xs))) (hL : L ≤ 3584) (hN : N + 6 < L) (hH : xHI xKT xSG τ h) (hX : xX τ h) (hR : xRR τ h) (kk : ∀ (τ1 : List Nat) (h1 : zm_H), xHI xKT xSG τ1 h1 → xX τ1 h1 → xRR τ1 h1 → xW h1 ≤ xW h + 3734 → zm_Y og 60 285 1970 [(3, .int (Int32.ofNat N)), (2, .ref 55), (1, .ref 0), (0, .retAddr 0)] [] h1 Q) : zm_Y og 60 285 1108 [(3, .int (Int32.ofNat N)), (2, .ref 55), (1, .ref 0), (0, .retAddr 0)] [] h Q := by
  refine zy_n 5 (mr := zm_m285) rfl (show _ = some (1113, [(3, .int (Int32.ofNat N)), (2, .ref 55), (1, .ref 0), (0, .retAddr 0)], [.int (Int32.ofNat N + 1), .retAddr 0, .ref 0]) from rfl) ?_
  refine zy_h (mr := zm_m285) rfl rfl (zl_ld (k := 1) hO rfl (by omega) hL) ?_
  refine zy_c (mr := zm_m285) (mc := zm_m116) rfl rfl (zl_cx (A := [.int (xs (N + 1))]) hH rfl rfl) rfl rfl ?_
  refine ((xo_x_overrule hH hX ((xs (N + 1))) ).deep (Nat.le_of_ble_eq_true rfl)).mono (fun r h1 hq => ?_)
  obtain ⟨⟨i1, rfl⟩, τ1, hH1, hX1, hW1, hF1⟩ := hq
  have hR1 := xRR_F hH hF1 ⟨rfl, rfl, rfl, rfl⟩ hR
  refine zy_n 6 (mr := zm_m285) rfl (show _ = some (1123, [(3, .int (Int32.ofNat N)), (2, .ref 55), (1, .ref 0), (0, .retAddr 0)], [.int (Int32.ofNat N + 1), .retAddr 0, .ref 55]) from rfl) ?_
  refine zy_h (mr := zm_m285) rfl rfl (zl_ld (k := 1) hO rfl (by omega) hL) ?_
  refine zy_c (mr := zm_m285) (mc := zm_m259) rfl rfl (zl_cm (A := [.int (xs (N + 1))]) hH1 rfl rfl) rfl rfl ?_
  refine ((xo_m_overrule hH1 hX1 ((xs (N + 1))) ).deep (Nat.le_of_ble_eq_true rfl)).mono (fun r h2 hq => ?_)
  obtain ⟨⟨i2, rfl⟩, τ2, hH2, hX2, hW2, hF2⟩ := hq
  have hR2 := xRR_F hH1 hF2 ⟨rfl, rfl, rfl, rfl⟩ hR1
  refine zy_n 2 (mr := zm_m285) rfl (show _ = some (1970, [(3, .int (Int32.ofNat N)), (2, .ref 55), (1, .ref 0), (0, .retAddr 0)], []) from rfl) ?_
  exact kk τ2 h2 hH2 hX2 hR2 (by omega)
set_option maxRecDepth 100000 in
theorem zl_23 (hO : og 0 = some (.inl (0, L, .inl xs))) (hL : L ≤ 3584) (hN : N + 6 < L) (hH : xHI xKT xSG τ h) (hX : xX τ h) (hR : xRR τ h) (kk : ∀ (τ1 : List Nat) (h1 : zm_H), xHI xKT xSG τ1 h1 → xX τ1 h1 → xRR τ1 h1 → xW h1 ≤ xW h + 3734 → zm_Y og 60 285 1970 [(3, .int (Int32.ofNat N)), (2, .ref 55), (1, .ref 0), (0, .retAddr 0)] [] h1 Q) : zm_Y og 60 285 1131 [(3, .int (Int32.ofNat N)), (2, .ref 55), (1, .ref 0), (0, .retAddr 0)] [] h Q := by
  refine zy_n 5 (mr := zm_m285) rfl (show _ = some (1136, [(3, .int (Int32.ofNat N)), (2, .ref 55), (1, .ref 0), (0, .retAddr 0)], [.int (Int32.ofNat N + 1), .retAddr 0, .ref 0]) from rfl) ?_
  refine zy_h (mr := zm_m285) rfl rfl (zl_ld (k := 1) hO rfl (by omega) hL) ?_
  refine zy_n 4 (mr := zm_m285) rfl (show _ = some (1141, [(3, .int (Int32.ofNat N)), (2, .ref 55), (1, .ref 0), (0, .retAddr 0)], [.int (Int32.ofNat N + 2), .retAddr 0, .int (xs (N + 1)), .ref 0]) from rfl) ?_
  refine zy_h (mr := zm_m285) rfl rfl (zl_ld (k := 2) hO rfl (by omega) hL) ?_
  refine zy_c (mr := zm_m285) (mc := zm_m119) rfl rfl (zl_cx (A := [.int (xs (N + 1)), .int (xs (N + 2))]) hH rfl rfl) rfl rfl ?_
  refine ((xo_x_heldOf hH hX ((xs (N + 1))) ((xs (N + 2))) ).deep (Nat.le_of_ble_eq_true rfl)).mono (fun r h1 hq => ?_)
  obtain ⟨⟨i1, rfl⟩, τ1, hH1, hX1, hW1, hF1⟩ := hq
  have hR1 := xRR_F hH hF1 ⟨rfl, rfl, rfl, rfl⟩ hR
  refine zy_n 6 (mr := zm_m285) rfl (show _ = some (1151, [(3, .int (Int32.ofNat N)), (2, .ref 55), (1, .ref 0), (0, .retAddr 0)], [.int (Int32.ofNat N + 1), .retAddr 0, .ref 55]) from rfl) ?_
  refine zy_h (mr := zm_m285) rfl rfl (zl_ld (k := 1) hO rfl (by omega) hL) ?_
  refine zy_n 4 (mr := zm_m285) rfl (show _ = some (1156, [(3, .int (Int32.ofNat N)), (2, .ref 55), (1, .ref 0), (0, .retAddr 0)], [.int (Int32.ofNat N + 2), .retAddr 0, .int (xs (N + 1)), .ref 55]) from rfl) ?_
  refine zy_h (mr := zm_m285) rfl rfl (zl_ld (k := 2) hO rfl (by omega) hL) ?_
  refine zy_c (mr := zm_m285) (mc := zm_m260) rfl rfl (zl_cm (A := [.int (xs (N + 1)), .int (xs (N + 2))]) hH1 rfl rfl) rfl rfl ?_
  refine ((xo_m_heldOf hH1 hX1 ((xs (N + 1))) ((xs (N + 2))) ).deep (Nat.le_of_ble_eq_true rfl)).mono (fun r h2 hq => ?_)
  obtain ⟨⟨i2, rfl⟩, τ2, hH2, hX2, hW2, hF2⟩ := hq
  have hR2 := xRR_F hH1 hF2 ⟨rfl, rfl, rfl, rfl⟩ hR1
  refine zy_n 2 (mr := zm_m285) rfl (show _ = some (1970, [(3, .int (Int32.ofNat N)), (2, .ref 55), (1, .ref 0), (0, .retAddr 0)], []) from rfl) ?_
  exact kk τ2 h2 hH2 hX2 hR2 (by omega)
set_option maxRecDepth 100000 in
theorem zl_24 (hO : og 0 = some (.inl (0, L, .inl xs))) (hL : L ≤ 3584) (hN : N + 6 < L) (hH : xHI xKT xSG τ h) (hX : xX τ h) (hR : xRR τ h) (kk : ∀ (τ1 : List Nat) (h1 : zm_H), xHI xKT xSG τ1 h1 → xX τ1 h1 → xRR τ1 h1 → xW h1 ≤ xW h + 3734 → zm_Y og 60 285 1970 [(3, .int (Int32.ofNat N)), (2, .ref 55), (1, .ref 0), (0, .retAddr 0)] [] h1 Q) : zm_Y og 60 285 1164 [(3, .int (Int32.ofNat N)), (2, .ref 55), (1, .ref 0), (0, .retAddr 0)] [] h Q := by
  refine zy_n 5 (mr := zm_m285) rfl (show _ = some (1169, [(3, .int (Int32.ofNat N)), (2, .ref 55), (1, .ref 0), (0, .retAddr 0)], [.int (Int32.ofNat N + 1), .retAddr 0, .ref 0]) from rfl) ?_
  refine zy_h (mr := zm_m285) rfl rfl (zl_ld (k := 1) hO rfl (by omega) hL) ?_
  refine zy_n 4 (mr := zm_m285) rfl (show _ = some (1174, [(3, .int (Int32.ofNat N)), (2, .ref 55), (1, .ref 0), (0, .retAddr 0)], [.int (Int32.ofNat N + 2), .retAddr 0, .int (xs (N + 1)), .ref 0]) from rfl) ?_
  refine zy_h (mr := zm_m285) rfl rfl (zl_ld (k := 2) hO rfl (by omega) hL) ?_
  refine zy_c (mr := zm_m285) (mc := zm_m120) rfl rfl (zl_cx (A := [.int (xs (N + 1)), .int (xs (N + 2))]) hH rfl rfl) rfl rfl ?_
  refine ((xo_x_walk hH hX ((xs (N + 1))) ((xs (N + 2))) ).deep (Nat.le_of_ble_eq_true rfl)).mono (fun r h1 hq => ?_)
  obtain ⟨⟨i1, rfl⟩, τ1, hH1, hX1, hW1, hF1⟩ := hq
  have hR1 := xRR_F hH hF1 ⟨rfl, rfl, rfl, rfl⟩ hR
  refine zy_n 6 (mr := zm_m285) rfl (show _ = some (1184, [(3, .int (Int32.ofNat N)), (2, .ref 55), (1, .ref 0), (0, .retAddr 0)], [.int (Int32.ofNat N + 1), .retAddr 0, .ref 55]) from rfl) ?_
  refine zy_h (mr := zm_m285) rfl rfl (zl_ld (k := 1) hO rfl (by omega) hL) ?_
  refine zy_n 4 (mr := zm_m285) rfl (show _ = some (1189, [(3, .int (Int32.ofNat N)), (2, .ref 55), (1, .ref 0), (0, .retAddr 0)], [.int (Int32.ofNat N + 2), .retAddr 0, .int (xs (N + 1)), .ref 55]) from rfl) ?_
  refine zy_h (mr := zm_m285) rfl rfl (zl_ld (k := 2) hO rfl (by omega) hL) ?_
  refine zy_c (mr := zm_m285) (mc := zm_m261) rfl rfl (zl_cm (A := [.int (xs (N + 1)), .int (xs (N + 2))]) hH1 rfl rfl) rfl rfl ?_
  refine ((xo_m_walk hH1 hX1 ((xs (N + 1))) ((xs (N + 2))) ).deep (Nat.le_of_ble_eq_true rfl)).mono (fun r h2 hq => ?_)
  obtain ⟨⟨i2, rfl⟩, τ2, hH2, hX2, hW2, hF2⟩ := hq
  have hR2 := xRR_F hH1 hF2 ⟨rfl, rfl, rfl, rfl⟩ hR1
  refine zy_n 2 (mr := zm_m285) rfl (show _ = some (1970, [(3, .int (Int32.ofNat N)), (2, .ref 55), (1, .ref 0), (0, .retAddr 0)], []) from rfl) ?_
  exact kk τ2 h2 hH2 hX2 hR2 (by omega)
set_option maxRecDepth 100000 in
theorem zl_25 (hO : og 0 = some (.inl (0, L, .inl xs))) (hL : L ≤ 3584) (hN : N + 6 < L) (hH : xHI xKT xSG τ h) (hX : xX τ h) (hR : xRR τ h) (kk : ∀ (τ1 : List Nat) (h1 : zm_H), xHI xKT xSG τ1 h1 → xX τ1 h1 → xRR τ1 h1 → xW h1 ≤ xW h + 3734 → zm_Y og 60 285 1970 [(3, .int (Int32.ofNat N)), (2, .ref 55), (1, .ref 0), (0, .retAddr 0)] [] h1 Q) : zm_Y og 60 285 1197 [(3, .int (Int32.ofNat N)), (2, .ref 55), (1, .ref 0), (0, .retAddr 0)] [] h Q := by
  refine zy_n 5 (mr := zm_m285) rfl (show _ = some (1202, [(3, .int (Int32.ofNat N)), (2, .ref 55), (1, .ref 0), (0, .retAddr 0)], [.int (Int32.ofNat N + 1), .retAddr 0, .ref 0]) from rfl) ?_
  refine zy_h (mr := zm_m285) rfl rfl (zl_ld (k := 1) hO rfl (by omega) hL) ?_
  refine zy_n 4 (mr := zm_m285) rfl (show _ = some (1207, [(3, .int (Int32.ofNat N)), (2, .ref 55), (1, .ref 0), (0, .retAddr 0)], [.int (Int32.ofNat N + 2), .retAddr 0, .int (xs (N + 1)), .ref 0]) from rfl) ?_
  refine zy_h (mr := zm_m285) rfl rfl (zl_ld (k := 2) hO rfl (by omega) hL) ?_
  refine zy_c (mr := zm_m285) (mc := zm_m126) rfl rfl (zl_cx (A := [.int (xs (N + 1)), .int (xs (N + 2))]) hH rfl rfl) rfl rfl ?_
  refine ((xo_x_look hH hX ((xs (N + 1))) ((xs (N + 2))) ).deep (Nat.le_of_ble_eq_true rfl)).mono (fun r h1 hq => ?_)
  obtain ⟨⟨i1, rfl⟩, τ1, hH1, hX1, hW1, hF1⟩ := hq
  have hR1 := xRR_F hH hF1 ⟨rfl, rfl, rfl, rfl⟩ hR
  refine zy_n 6 (mr := zm_m285) rfl (show _ = some (1217, [(3, .int (Int32.ofNat N)), (2, .ref 55), (1, .ref 0), (0, .retAddr 0)], [.int (Int32.ofNat N + 1), .retAddr 0, .ref 55]) from rfl) ?_
  refine zy_h (mr := zm_m285) rfl rfl (zl_ld (k := 1) hO rfl (by omega) hL) ?_
  refine zy_n 4 (mr := zm_m285) rfl (show _ = some (1222, [(3, .int (Int32.ofNat N)), (2, .ref 55), (1, .ref 0), (0, .retAddr 0)], [.int (Int32.ofNat N + 2), .retAddr 0, .int (xs (N + 1)), .ref 55]) from rfl) ?_
  refine zy_h (mr := zm_m285) rfl rfl (zl_ld (k := 2) hO rfl (by omega) hL) ?_
  refine zy_c (mr := zm_m285) (mc := zm_m263) rfl rfl (zl_cm (A := [.int (xs (N + 1)), .int (xs (N + 2))]) hH1 rfl rfl) rfl rfl ?_
  refine ((xo_m_look hH1 hX1 ((xs (N + 1))) ((xs (N + 2))) ).deep (Nat.le_of_ble_eq_true rfl)).mono (fun r h2 hq => ?_)
  obtain ⟨⟨i2, rfl⟩, τ2, hH2, hX2, hW2, hF2⟩ := hq
  have hR2 := xRR_F hH1 hF2 ⟨rfl, rfl, rfl, rfl⟩ hR1
  refine zy_n 2 (mr := zm_m285) rfl (show _ = some (1970, [(3, .int (Int32.ofNat N)), (2, .ref 55), (1, .ref 0), (0, .retAddr 0)], []) from rfl) ?_
  exact kk τ2 h2 hH2 hX2 hR2 (by omega)
set_option maxRecDepth 100000 in
theorem zl_26 (hO : og 0 = some (.inl (0, L, .inl xs))) (hL : L ≤ 3584) (hN : N + 6 < L) (hH : xHI xKT xSG τ h) (hX : xX τ h) (hR : xRR τ h) (kk : ∀ (τ1 : List Nat) (h1 : zm_H), xHI xKT xSG τ1 h1 → xX τ1 h1 → xRR τ1 h1 → xW h1 ≤ xW h + 3734 → zm_Y og 60 285 1970 [(3, .int (Int32.ofNat N)), (2, .ref 55), (1, .ref 0), (0, .retAddr 0)] [] h1 Q) : zm_Y og 60 285 1230 [(3, .int (Int32.ofNat N)), (2, .ref 55), (1, .ref 0), (0, .retAddr 0)] [] h Q := by
  refine zy_n 5 (mr := zm_m285) rfl (show _ = some (1235, [(3, .int (Int32.ofNat N)), (2, .ref 55), (1, .ref 0), (0, .retAddr 0)], [.int (Int32.ofNat N + 1), .retAddr 0, .ref 0]) from rfl) ?_
  refine zy_h (mr := zm_m285) rfl rfl (zl_ld (k := 1) hO rfl (by omega) hL) ?_
  refine zy_n 4 (mr := zm_m285) rfl (show _ = some (1240, [(3, .int (Int32.ofNat N)), (2, .ref 55), (1, .ref 0), (0, .retAddr 0)], [.int (Int32.ofNat N + 2), .retAddr 0, .int (xs (N + 1)), .ref 0]) from rfl) ?_
  refine zy_h (mr := zm_m285) rfl rfl (zl_ld (k := 2) hO rfl (by omega) hL) ?_
  refine zy_c (mr := zm_m285) (mc := zm_m128) rfl rfl (zl_cx (A := [.int (xs (N + 1)), .int (xs (N + 2))]) hH rfl rfl) rfl rfl ?_
  refine ((xo_x_route hH hX ((xs (N + 1))) ((xs (N + 2))) ).deep (Nat.le_of_ble_eq_true rfl)).mono (fun r h1 hq => ?_)
  obtain ⟨⟨i1, rfl⟩, τ1, hH1, hX1, hW1, hF1⟩ := hq
  have hR1 := xRR_F hH hF1 ⟨rfl, rfl, rfl, rfl⟩ hR
  refine zy_n 6 (mr := zm_m285) rfl (show _ = some (1250, [(3, .int (Int32.ofNat N)), (2, .ref 55), (1, .ref 0), (0, .retAddr 0)], [.int (Int32.ofNat N + 1), .retAddr 0, .ref 55]) from rfl) ?_
  refine zy_h (mr := zm_m285) rfl rfl (zl_ld (k := 1) hO rfl (by omega) hL) ?_
  refine zy_n 4 (mr := zm_m285) rfl (show _ = some (1255, [(3, .int (Int32.ofNat N)), (2, .ref 55), (1, .ref 0), (0, .retAddr 0)], [.int (Int32.ofNat N + 2), .retAddr 0, .int (xs (N + 1)), .ref 55]) from rfl) ?_
  refine zy_h (mr := zm_m285) rfl rfl (zl_ld (k := 2) hO rfl (by omega) hL) ?_
  refine zy_c (mr := zm_m285) (mc := zm_m265) rfl rfl (zl_cm (A := [.int (xs (N + 1)), .int (xs (N + 2))]) hH1 rfl rfl) rfl rfl ?_
  refine ((xo_m_route hH1 hX1 ((xs (N + 1))) ((xs (N + 2))) ).deep (Nat.le_of_ble_eq_true rfl)).mono (fun r h2 hq => ?_)
  obtain ⟨⟨i2, rfl⟩, τ2, hH2, hX2, hW2, hF2⟩ := hq
  have hR2 := xRR_F hH1 hF2 ⟨rfl, rfl, rfl, rfl⟩ hR1
  refine zy_n 2 (mr := zm_m285) rfl (show _ = some (1970, [(3, .int (Int32.ofNat N)), (2, .ref 55), (1, .ref 0), (0, .retAddr 0)], []) from rfl) ?_
  exact kk τ2 h2 hH2 hX2 hR2 (by omega)
set_option maxRecDepth 100000 in
theorem zl_27 (hO : og 0 = some (.inl (0, L, .inl xs))) (hL : L ≤ 3584) (hN : N + 6 < L) (hH : xHI xKT xSG τ h) (hX : xX τ h) (hR : xRR τ h) (kk : ∀ (τ1 : List Nat) (h1 : zm_H), xHI xKT xSG τ1 h1 → xX τ1 h1 → xRR τ1 h1 → xW h1 ≤ xW h + 3734 → zm_Y og 60 285 1970 [(3, .int (Int32.ofNat N)), (2, .ref 55), (1, .ref 0), (0, .retAddr 0)] [] h1 Q) : zm_Y og 60 285 1263 [(3, .int (Int32.ofNat N)), (2, .ref 55), (1, .ref 0), (0, .retAddr 0)] [] h Q := by
  refine zy_n 5 (mr := zm_m285) rfl (show _ = some (1268, [(3, .int (Int32.ofNat N)), (2, .ref 55), (1, .ref 0), (0, .retAddr 0)], [.int (Int32.ofNat N + 1), .retAddr 0, .ref 0]) from rfl) ?_
  refine zy_h (mr := zm_m285) rfl rfl (zl_ld (k := 1) hO rfl (by omega) hL) ?_
  refine zy_n 4 (mr := zm_m285) rfl (show _ = some (1273, [(3, .int (Int32.ofNat N)), (2, .ref 55), (1, .ref 0), (0, .retAddr 0)], [.int (Int32.ofNat N + 2), .retAddr 0, .int (xs (N + 1)), .ref 0]) from rfl) ?_
  refine zy_h (mr := zm_m285) rfl rfl (zl_ld (k := 2) hO rfl (by omega) hL) ?_
  refine zy_n 4 (mr := zm_m285) rfl (show _ = some (1278, [(3, .int (Int32.ofNat N)), (2, .ref 55), (1, .ref 0), (0, .retAddr 0)], [.int (Int32.ofNat N + 3), .retAddr 0, .int (xs (N + 2)), .int (xs (N + 1)), .ref 0]) from rfl) ?_
  refine zy_h (mr := zm_m285) rfl rfl (zl_ld (k := 3) hO rfl (by omega) hL) ?_
  refine zy_c (mr := zm_m285) (mc := zm_m131) rfl rfl (zl_cx (A := [.int (xs (N + 1)), .int (xs (N + 2)), .int (xs (N + 3))]) hH rfl rfl) rfl rfl ?_
  refine ((xo_x_late hH hX ((xs (N + 1))) ((xs (N + 2))) ((xs (N + 3))) ).deep (Nat.le_of_ble_eq_true rfl)).mono (fun r h1 hq => ?_)
  obtain ⟨⟨i1, rfl⟩, τ1, hH1, hX1, hW1, hF1⟩ := hq
  have hR1 := xRR_F hH hF1 ⟨rfl, rfl, rfl, rfl⟩ hR
  refine zy_n 6 (mr := zm_m285) rfl (show _ = some (1288, [(3, .int (Int32.ofNat N)), (2, .ref 55), (1, .ref 0), (0, .retAddr 0)], [.int (Int32.ofNat N + 1), .retAddr 0, .ref 55]) from rfl) ?_
  refine zy_h (mr := zm_m285) rfl rfl (zl_ld (k := 1) hO rfl (by omega) hL) ?_
  refine zy_n 4 (mr := zm_m285) rfl (show _ = some (1293, [(3, .int (Int32.ofNat N)), (2, .ref 55), (1, .ref 0), (0, .retAddr 0)], [.int (Int32.ofNat N + 2), .retAddr 0, .int (xs (N + 1)), .ref 55]) from rfl) ?_
  refine zy_h (mr := zm_m285) rfl rfl (zl_ld (k := 2) hO rfl (by omega) hL) ?_
  refine zy_n 4 (mr := zm_m285) rfl (show _ = some (1298, [(3, .int (Int32.ofNat N)), (2, .ref 55), (1, .ref 0), (0, .retAddr 0)], [.int (Int32.ofNat N + 3), .retAddr 0, .int (xs (N + 2)), .int (xs (N + 1)), .ref 55]) from rfl) ?_
  refine zy_h (mr := zm_m285) rfl rfl (zl_ld (k := 3) hO rfl (by omega) hL) ?_
  refine zy_c (mr := zm_m285) (mc := zm_m266) rfl rfl (zl_cm (A := [.int (xs (N + 1)), .int (xs (N + 2)), .int (xs (N + 3))]) hH1 rfl rfl) rfl rfl ?_
  refine ((xo_m_late hH1 hX1 ((xs (N + 1))) ((xs (N + 2))) ((xs (N + 3))) ).deep (Nat.le_of_ble_eq_true rfl)).mono (fun r h2 hq => ?_)
  obtain ⟨⟨i2, rfl⟩, τ2, hH2, hX2, hW2, hF2⟩ := hq
  have hR2 := xRR_F hH1 hF2 ⟨rfl, rfl, rfl, rfl⟩ hR1
  refine zy_n 2 (mr := zm_m285) rfl (show _ = some (1970, [(3, .int (Int32.ofNat N)), (2, .ref 55), (1, .ref 0), (0, .retAddr 0)], []) from rfl) ?_
  exact kk τ2 h2 hH2 hX2 hR2 (by omega)
set_option maxRecDepth 100000 in
theorem zl_28 (hO : og 0 = some (.inl (0, L, .inl xs))) (hL : L ≤ 3584) (hN : N + 6 < L) (hH : xHI xKT xSG τ h) (hX : xX τ h) (hR : xRR τ h) (kk : ∀ (τ1 : List Nat) (h1 : zm_H), xHI xKT xSG τ1 h1 → xX τ1 h1 → xRR τ1 h1 → xW h1 ≤ xW h + 3734 → zm_Y og 60 285 1970 [(3, .int (Int32.ofNat N)), (2, .ref 55), (1, .ref 0), (0, .retAddr 0)] [] h1 Q) : zm_Y og 60 285 1306 [(3, .int (Int32.ofNat N)), (2, .ref 55), (1, .ref 0), (0, .retAddr 0)] [] h Q := by
  refine zy_n 1 (mr := zm_m285) rfl (show _ = some (1307, [(3, .int (Int32.ofNat N)), (2, .ref 55), (1, .ref 0), (0, .retAddr 0)], [.ref 0]) from rfl) ?_
  refine zy_c (mr := zm_m285) (mc := zm_m132) rfl rfl (zl_cx (A := []) hH rfl rfl) rfl rfl ?_
  refine ((xo_x_go hH hX ).deep (Nat.le_of_ble_eq_true rfl)).mono (fun r h1 hq => ?_)
  obtain ⟨⟨i1, rfl⟩, τ1, hH1, hX1, hW1, hF1⟩ := hq
  have hR1 := xRR_F hH hF1 ⟨rfl, rfl, rfl, rfl⟩ hR
  refine zy_n 2 (mr := zm_m285) rfl (show _ = some (1312, [(3, .int (Int32.ofNat N)), (2, .ref 55), (1, .ref 0), (0, .retAddr 0)], [.ref 55]) from rfl) ?_
  refine zy_c (mr := zm_m285) (mc := zm_m267) rfl rfl (zl_cm (A := []) hH1 rfl rfl) rfl rfl ?_
  refine ((xo_m_go hH1 hX1 ).deep (Nat.le_of_ble_eq_true rfl)).mono (fun r h2 hq => ?_)
  obtain ⟨⟨i2, rfl⟩, τ2, hH2, hX2, hW2, hF2⟩ := hq
  have hR2 := xRR_F hH1 hF2 ⟨rfl, rfl, rfl, rfl⟩ hR1
  refine zy_n 2 (mr := zm_m285) rfl (show _ = some (1970, [(3, .int (Int32.ofNat N)), (2, .ref 55), (1, .ref 0), (0, .retAddr 0)], []) from rfl) ?_
  exact kk τ2 h2 hH2 hX2 hR2 (by omega)
set_option maxRecDepth 100000 in
theorem zl_29 (hO : og 0 = some (.inl (0, L, .inl xs))) (hL : L ≤ 3584) (hN : N + 6 < L) (hH : xHI xKT xSG τ h) (hX : xX τ h) (hR : xRR τ h) (kk : ∀ (τ1 : List Nat) (h1 : zm_H), xHI xKT xSG τ1 h1 → xX τ1 h1 → xRR τ1 h1 → xW h1 ≤ xW h + 3734 → zm_Y og 60 285 1970 [(3, .int (Int32.ofNat N)), (2, .ref 55), (1, .ref 0), (0, .retAddr 0)] [] h1 Q) : zm_Y og 60 285 1319 [(3, .int (Int32.ofNat N)), (2, .ref 55), (1, .ref 0), (0, .retAddr 0)] [] h Q := by
  refine zy_n 5 (mr := zm_m285) rfl (show _ = some (1324, [(3, .int (Int32.ofNat N)), (2, .ref 55), (1, .ref 0), (0, .retAddr 0)], [.int (Int32.ofNat N + 1), .retAddr 0, .ref 0]) from rfl) ?_
  refine zy_h (mr := zm_m285) rfl rfl (zl_ld (k := 1) hO rfl (by omega) hL) ?_
  refine zy_n 4 (mr := zm_m285) rfl (show _ = some (1329, [(3, .int (Int32.ofNat N)), (2, .ref 55), (1, .ref 0), (0, .retAddr 0)], [.int (Int32.ofNat N + 2), .retAddr 0, .int (xs (N + 1)), .ref 0]) from rfl) ?_
  refine zy_h (mr := zm_m285) rfl rfl (zl_ld (k := 2) hO rfl (by omega) hL) ?_
  refine zy_n 4 (mr := zm_m285) rfl (show _ = some (1334, [(3, .int (Int32.ofNat N)), (2, .ref 55), (1, .ref 0), (0, .retAddr 0)], [.int (Int32.ofNat N + 3), .retAddr 0, .int (xs (N + 2)), .int (xs (N + 1)), .ref 0]) from rfl) ?_
  refine zy_h (mr := zm_m285) rfl rfl (zl_ld (k := 3) hO rfl (by omega) hL) ?_
  refine zy_n 4 (mr := zm_m285) rfl (show _ = some (1339, [(3, .int (Int32.ofNat N)), (2, .ref 55), (1, .ref 0), (0, .retAddr 0)], [.int (Int32.ofNat N + 4), .retAddr 0, .int (xs (N + 3)), .int (xs (N + 2)), .int (xs (N + 1)), .ref 0]) from rfl) ?_
  refine zy_h (mr := zm_m285) rfl rfl (zl_ld (k := 4) hO rfl (by omega) hL) ?_
  refine zy_c (mr := zm_m285) (mc := zm_m136) rfl rfl (zl_cx (A := [.int (xs (N + 1)), .int (xs (N + 2)), .int (xs (N + 3)), .int (xs (N + 4))]) hH rfl rfl) rfl rfl ?_
  refine ((xo_x_roll hH hX ((xs (N + 1))) ((xs (N + 2))) ((xs (N + 3))) ((xs (N + 4))) ).deep (Nat.le_of_ble_eq_true rfl)).mono (fun r h1 hq => ?_)
  obtain ⟨⟨i1, rfl⟩, τ1, hH1, hX1, hW1, hF1⟩ := hq
  have hR1 := xRR_F hH hF1 ⟨rfl, rfl, rfl, rfl⟩ hR
  refine zy_n 6 (mr := zm_m285) rfl (show _ = some (1349, [(3, .int (Int32.ofNat N)), (2, .ref 55), (1, .ref 0), (0, .retAddr 0)], [.int (Int32.ofNat N + 1), .retAddr 0, .ref 55]) from rfl) ?_
  refine zy_h (mr := zm_m285) rfl rfl (zl_ld (k := 1) hO rfl (by omega) hL) ?_
  refine zy_n 4 (mr := zm_m285) rfl (show _ = some (1354, [(3, .int (Int32.ofNat N)), (2, .ref 55), (1, .ref 0), (0, .retAddr 0)], [.int (Int32.ofNat N + 2), .retAddr 0, .int (xs (N + 1)), .ref 55]) from rfl) ?_
  refine zy_h (mr := zm_m285) rfl rfl (zl_ld (k := 2) hO rfl (by omega) hL) ?_
  refine zy_n 4 (mr := zm_m285) rfl (show _ = some (1359, [(3, .int (Int32.ofNat N)), (2, .ref 55), (1, .ref 0), (0, .retAddr 0)], [.int (Int32.ofNat N + 3), .retAddr 0, .int (xs (N + 2)), .int (xs (N + 1)), .ref 55]) from rfl) ?_
  refine zy_h (mr := zm_m285) rfl rfl (zl_ld (k := 3) hO rfl (by omega) hL) ?_
  refine zy_n 4 (mr := zm_m285) rfl (show _ = some (1364, [(3, .int (Int32.ofNat N)), (2, .ref 55), (1, .ref 0), (0, .retAddr 0)], [.int (Int32.ofNat N + 4), .retAddr 0, .int (xs (N + 3)), .int (xs (N + 2)), .int (xs (N + 1)), .ref 55]) from rfl) ?_
  refine zy_h (mr := zm_m285) rfl rfl (zl_ld (k := 4) hO rfl (by omega) hL) ?_
  refine zy_c (mr := zm_m285) (mc := zm_m269) rfl rfl (zl_cm (A := [.int (xs (N + 1)), .int (xs (N + 2)), .int (xs (N + 3)), .int (xs (N + 4))]) hH1 rfl rfl) rfl rfl ?_
  refine ((xo_m_roll hH1 hX1 ((xs (N + 1))) ((xs (N + 2))) ((xs (N + 3))) ((xs (N + 4))) ).deep (Nat.le_of_ble_eq_true rfl)).mono (fun r h2 hq => ?_)
  obtain ⟨⟨i2, rfl⟩, τ2, hH2, hX2, hW2, hF2⟩ := hq
  have hR2 := xRR_F hH1 hF2 ⟨rfl, rfl, rfl, rfl⟩ hR1
  refine zy_n 2 (mr := zm_m285) rfl (show _ = some (1970, [(3, .int (Int32.ofNat N)), (2, .ref 55), (1, .ref 0), (0, .retAddr 0)], []) from rfl) ?_
  exact kk τ2 h2 hH2 hX2 hR2 (by omega)
set_option maxRecDepth 100000 in
theorem zl_30 (hO : og 0 = some (.inl (0, L, .inl xs))) (hL : L ≤ 3584) (hN : N + 6 < L) (hH : xHI xKT xSG τ h) (hX : xX τ h) (hR : xRR τ h) (kk : ∀ (τ1 : List Nat) (h1 : zm_H), xHI xKT xSG τ1 h1 → xX τ1 h1 → xRR τ1 h1 → xW h1 ≤ xW h + 3734 → zm_Y og 60 285 1970 [(3, .int (Int32.ofNat N)), (2, .ref 55), (1, .ref 0), (0, .retAddr 0)] [] h1 Q) : zm_Y og 60 285 1372 [(3, .int (Int32.ofNat N)), (2, .ref 55), (1, .ref 0), (0, .retAddr 0)] [] h Q := by
  refine zy_n 5 (mr := zm_m285) rfl (show _ = some (1377, [(3, .int (Int32.ofNat N)), (2, .ref 55), (1, .ref 0), (0, .retAddr 0)], [.int (Int32.ofNat N + 1), .retAddr 0, .ref 0]) from rfl) ?_
  refine zy_h (mr := zm_m285) rfl rfl (zl_ld (k := 1) hO rfl (by omega) hL) ?_
  refine zy_n 4 (mr := zm_m285) rfl (show _ = some (1382, [(3, .int (Int32.ofNat N)), (2, .ref 55), (1, .ref 0), (0, .retAddr 0)], [.int (Int32.ofNat N + 2), .retAddr 0, .int (xs (N + 1)), .ref 0]) from rfl) ?_
  refine zy_h (mr := zm_m285) rfl rfl (zl_ld (k := 2) hO rfl (by omega) hL) ?_
  refine zy_n 4 (mr := zm_m285) rfl (show _ = some (1387, [(3, .int (Int32.ofNat N)), (2, .ref 55), (1, .ref 0), (0, .retAddr 0)], [.int (Int32.ofNat N + 3), .retAddr 0, .int (xs (N + 2)), .int (xs (N + 1)), .ref 0]) from rfl) ?_
  refine zy_h (mr := zm_m285) rfl rfl (zl_ld (k := 3) hO rfl (by omega) hL) ?_
  refine zy_n 4 (mr := zm_m285) rfl (show _ = some (1392, [(3, .int (Int32.ofNat N)), (2, .ref 55), (1, .ref 0), (0, .retAddr 0)], [.int (Int32.ofNat N + 4), .retAddr 0, .int (xs (N + 3)), .int (xs (N + 2)), .int (xs (N + 1)), .ref 0]) from rfl) ?_
  refine zy_h (mr := zm_m285) rfl rfl (zl_ld (k := 4) hO rfl (by omega) hL) ?_
  refine zy_c (mr := zm_m285) (mc := zm_m139) rfl rfl (zl_cx (A := [.int (xs (N + 1)), .int (xs (N + 2)), .int (xs (N + 3)), .int (xs (N + 4))]) hH rfl rfl) rfl rfl ?_
  refine ((xo_x_span hH hX ((xs (N + 1))) ((xs (N + 2))) ((xs (N + 3))) ((xs (N + 4))) ).deep (Nat.le_of_ble_eq_true rfl)).mono (fun r h1 hq => ?_)
  obtain ⟨⟨i1, rfl⟩, τ1, hH1, hX1, hW1, hF1⟩ := hq
  have hR1 := xRR_F hH hF1 ⟨rfl, rfl, rfl, rfl⟩ hR
  refine zy_n 6 (mr := zm_m285) rfl (show _ = some (1402, [(3, .int (Int32.ofNat N)), (2, .ref 55), (1, .ref 0), (0, .retAddr 0)], [.int (Int32.ofNat N + 1), .retAddr 0, .ref 55]) from rfl) ?_
  refine zy_h (mr := zm_m285) rfl rfl (zl_ld (k := 1) hO rfl (by omega) hL) ?_
  refine zy_n 4 (mr := zm_m285) rfl (show _ = some (1407, [(3, .int (Int32.ofNat N)), (2, .ref 55), (1, .ref 0), (0, .retAddr 0)], [.int (Int32.ofNat N + 2), .retAddr 0, .int (xs (N + 1)), .ref 55]) from rfl) ?_
  refine zy_h (mr := zm_m285) rfl rfl (zl_ld (k := 2) hO rfl (by omega) hL) ?_
  refine zy_n 4 (mr := zm_m285) rfl (show _ = some (1412, [(3, .int (Int32.ofNat N)), (2, .ref 55), (1, .ref 0), (0, .retAddr 0)], [.int (Int32.ofNat N + 3), .retAddr 0, .int (xs (N + 2)), .int (xs (N + 1)), .ref 55]) from rfl) ?_
  refine zy_h (mr := zm_m285) rfl rfl (zl_ld (k := 3) hO rfl (by omega) hL) ?_
  refine zy_n 4 (mr := zm_m285) rfl (show _ = some (1417, [(3, .int (Int32.ofNat N)), (2, .ref 55), (1, .ref 0), (0, .retAddr 0)], [.int (Int32.ofNat N + 4), .retAddr 0, .int (xs (N + 3)), .int (xs (N + 2)), .int (xs (N + 1)), .ref 55]) from rfl) ?_
  refine zy_h (mr := zm_m285) rfl rfl (zl_ld (k := 4) hO rfl (by omega) hL) ?_
  refine zy_c (mr := zm_m285) (mc := zm_m270) rfl rfl (zl_cm (A := [.int (xs (N + 1)), .int (xs (N + 2)), .int (xs (N + 3)), .int (xs (N + 4))]) hH1 rfl rfl) rfl rfl ?_
  refine ((xo_m_span hH1 hX1 ((xs (N + 1))) ((xs (N + 2))) ((xs (N + 3))) ((xs (N + 4))) ).deep (Nat.le_of_ble_eq_true rfl)).mono (fun r h2 hq => ?_)
  obtain ⟨⟨i2, rfl⟩, τ2, hH2, hX2, hW2, hF2⟩ := hq
  have hR2 := xRR_F hH1 hF2 ⟨rfl, rfl, rfl, rfl⟩ hR1
  refine zy_n 2 (mr := zm_m285) rfl (show _ = some (1970, [(3, .int (Int32.ofNat N)), (2, .ref 55), (1, .ref 0), (0, .retAddr 0)], []) from rfl) ?_
  exact kk τ2 h2 hH2 hX2 hR2 (by omega)
set_option maxRecDepth 100000 in
theorem zl_31 (hO : og 0 = some (.inl (0, L, .inl xs))) (hL : L ≤ 3584) (hN : N + 6 < L) (hH : xHI xKT xSG τ h) (hX : xX τ h) (hR : xRR τ h) (kk : ∀ (τ1 : List Nat) (h1 : zm_H), xHI xKT xSG τ1 h1 → xX τ1 h1 → xRR τ1 h1 → xW h1 ≤ xW h + 3734 → zm_Y og 60 285 1970 [(3, .int (Int32.ofNat N)), (2, .ref 55), (1, .ref 0), (0, .retAddr 0)] [] h1 Q) : zm_Y og 60 285 1425 [(3, .int (Int32.ofNat N)), (2, .ref 55), (1, .ref 0), (0, .retAddr 0)] [] h Q := by
  refine zy_n 5 (mr := zm_m285) rfl (show _ = some (1430, [(3, .int (Int32.ofNat N)), (2, .ref 55), (1, .ref 0), (0, .retAddr 0)], [.int (Int32.ofNat N + 1), .retAddr 0, .ref 0]) from rfl) ?_
  refine zy_h (mr := zm_m285) rfl rfl (zl_ld (k := 1) hO rfl (by omega) hL) ?_
  refine zy_n 4 (mr := zm_m285) rfl (show _ = some (1435, [(3, .int (Int32.ofNat N)), (2, .ref 55), (1, .ref 0), (0, .retAddr 0)], [.int (Int32.ofNat N + 2), .retAddr 0, .int (xs (N + 1)), .ref 0]) from rfl) ?_
  refine zy_h (mr := zm_m285) rfl rfl (zl_ld (k := 2) hO rfl (by omega) hL) ?_
  refine zy_n 4 (mr := zm_m285) rfl (show _ = some (1440, [(3, .int (Int32.ofNat N)), (2, .ref 55), (1, .ref 0), (0, .retAddr 0)], [.int (Int32.ofNat N + 3), .retAddr 0, .int (xs (N + 2)), .int (xs (N + 1)), .ref 0]) from rfl) ?_
  refine zy_h (mr := zm_m285) rfl rfl (zl_ld (k := 3) hO rfl (by omega) hL) ?_
  refine zy_c (mr := zm_m285) (mc := zm_m141) rfl rfl (zl_cx (A := [.int (xs (N + 1)), .int (xs (N + 2)), .int (xs (N + 3))]) hH rfl rfl) rfl rfl ?_
  refine ((xo_x_habit hH hX ((xs (N + 1))) ((xs (N + 2))) ((xs (N + 3))) ).deep (Nat.le_of_ble_eq_true rfl)).mono (fun r h1 hq => ?_)
  obtain ⟨⟨i1, rfl⟩, τ1, hH1, hX1, hW1, hF1⟩ := hq
  have hR1 := xRR_F hH hF1 ⟨rfl, rfl, rfl, rfl⟩ hR
  refine zy_n 6 (mr := zm_m285) rfl (show _ = some (1450, [(3, .int (Int32.ofNat N)), (2, .ref 55), (1, .ref 0), (0, .retAddr 0)], [.int (Int32.ofNat N + 1), .retAddr 0, .ref 55]) from rfl) ?_
  refine zy_h (mr := zm_m285) rfl rfl (zl_ld (k := 1) hO rfl (by omega) hL) ?_
  refine zy_n 4 (mr := zm_m285) rfl (show _ = some (1455, [(3, .int (Int32.ofNat N)), (2, .ref 55), (1, .ref 0), (0, .retAddr 0)], [.int (Int32.ofNat N + 2), .retAddr 0, .int (xs (N + 1)), .ref 55]) from rfl) ?_
  refine zy_h (mr := zm_m285) rfl rfl (zl_ld (k := 2) hO rfl (by omega) hL) ?_
  refine zy_n 4 (mr := zm_m285) rfl (show _ = some (1460, [(3, .int (Int32.ofNat N)), (2, .ref 55), (1, .ref 0), (0, .retAddr 0)], [.int (Int32.ofNat N + 3), .retAddr 0, .int (xs (N + 2)), .int (xs (N + 1)), .ref 55]) from rfl) ?_
  refine zy_h (mr := zm_m285) rfl rfl (zl_ld (k := 3) hO rfl (by omega) hL) ?_
  refine zy_c (mr := zm_m285) (mc := zm_m271) rfl rfl (zl_cm (A := [.int (xs (N + 1)), .int (xs (N + 2)), .int (xs (N + 3))]) hH1 rfl rfl) rfl rfl ?_
  refine ((xo_m_habit hH1 hX1 ((xs (N + 1))) ((xs (N + 2))) ((xs (N + 3))) ).deep (Nat.le_of_ble_eq_true rfl)).mono (fun r h2 hq => ?_)
  obtain ⟨⟨i2, rfl⟩, τ2, hH2, hX2, hW2, hF2⟩ := hq
  have hR2 := xRR_F hH1 hF2 ⟨rfl, rfl, rfl, rfl⟩ hR1
  refine zy_n 2 (mr := zm_m285) rfl (show _ = some (1970, [(3, .int (Int32.ofNat N)), (2, .ref 55), (1, .ref 0), (0, .retAddr 0)], []) from rfl) ?_
  exact kk τ2 h2 hH2 hX2 hR2 (by omega)
end ZLW
