/-! The law, further cases -/
section ZLW
variable {og : Nat → Option zm_C} {xs : Nat → Int32} {L N : Nat} {τ : List Nat} {h : zm_H} {Q : Option Value → zm_H → Prop}
set_option maxRecDepth 100000 in
theorem zl_32 (hO : og 0 = some (.inl (0, L, .inl xs))) (hL : L ≤ 3584) (hN : N + 6 < L) (hH : xHI xKT xSG τ h) (hX : xX τ h) (hR : xRR τ h) (kk : ∀ (τ1 : List Nat) (h1 : zm_H), xHI xKT xSG τ1 h1 → xX τ1 h1 → xRR τ1 h1 → xW h1 ≤ xW h + 3734 → zm_Y og 60 285 1970 [(3, .int (Int32.ofNat N)), (2, .ref 55), (1, .ref 0), (0, .retAddr 0)] [] h1 Q) : zm_Y og 60 285 1468 [(3, .int (Int32.ofNat N)), (2, .ref 55), (1, .ref 0), (0, .retAddr 0)] [] h Q := by
  refine zy_n 5 (mr := zm_m285) rfl (show _ = some (1473, [(3, .int (Int32.ofNat N)), (2, .ref 55), (1, .ref 0), (0, .retAddr 0)], [.int (Int32.ofNat N + 1), .retAddr 0, .ref 0]) from rfl) ?_
  refine zy_h (mr := zm_m285) rfl rfl (zl_ld (k := 1) hO rfl (by omega) hL) ?_
  refine zy_c (mr := zm_m285) (mc := zm_m143) rfl rfl (zl_cx (A := [.int (xs (N + 1))]) hH rfl rfl) rfl rfl ?_
  refine ((xo_x_ask hH hX ((xs (N + 1))) ).deep (Nat.le_of_ble_eq_true rfl)).mono (fun r h1 hq => ?_)
  obtain ⟨⟨i1, rfl⟩, τ1, hH1, hX1, hW1, hF1⟩ := hq
  have hR1 := xRR_F hH hF1 ⟨rfl, rfl, rfl, rfl⟩ hR
  refine zy_n 6 (mr := zm_m285) rfl (show _ = some (1483, [(3, .int (Int32.ofNat N)), (2, .ref 55), (1, .ref 0), (0, .retAddr 0)], [.int (Int32.ofNat N + 1), .retAddr 0, .ref 55]) from rfl) ?_
  refine zy_h (mr := zm_m285) rfl rfl (zl_ld (k := 1) hO rfl (by omega) hL) ?_
  refine zy_c (mr := zm_m285) (mc := zm_m272) rfl rfl (zl_cm (A := [.int (xs (N + 1))]) hH1 rfl rfl) rfl rfl ?_
  refine ((xo_m_ask hH1 hX1 ((xs (N + 1))) ).deep (Nat.le_of_ble_eq_true rfl)).mono (fun r h2 hq => ?_)
  obtain ⟨⟨i2, rfl⟩, τ2, hH2, hX2, hW2, hF2⟩ := hq
  have hR2 := xRR_F hH1 hF2 ⟨rfl, rfl, rfl, rfl⟩ hR1
  refine zy_n 2 (mr := zm_m285) rfl (show _ = some (1970, [(3, .int (Int32.ofNat N)), (2, .ref 55), (1, .ref 0), (0, .retAddr 0)], []) from rfl) ?_
  exact kk τ2 h2 hH2 hX2 hR2 (by omega)
set_option maxRecDepth 100000 in
theorem zl_33 (hO : og 0 = some (.inl (0, L, .inl xs))) (hL : L ≤ 3584) (hN : N + 6 < L) (hH : xHI xKT xSG τ h) (hX : xX τ h) (hR : xRR τ h) (kk : ∀ (τ1 : List Nat) (h1 : zm_H), xHI xKT xSG τ1 h1 → xX τ1 h1 → xRR τ1 h1 → xW h1 ≤ xW h + 3734 → zm_Y og 60 285 1970 [(3, .int (Int32.ofNat N)), (2, .ref 55), (1, .ref 0), (0, .retAddr 0)] [] h1 Q) : zm_Y og 60 285 1491 [(3, .int (Int32.ofNat N)), (2, .ref 55), (1, .ref 0), (0, .retAddr 0)] [] h Q := by
  refine zy_n 5 (mr := zm_m285) rfl (show _ = some (1496, [(3, .int (Int32.ofNat N)), (2, .ref 55), (1, .ref 0), (0, .retAddr 0)], [.int (Int32.ofNat N + 1), .retAddr 0, .ref 0]) from rfl) ?_
  refine zy_h (mr := zm_m285) rfl rfl (zl_ld (k := 1) hO rfl (by omega) hL) ?_
  refine zy_n 4 (mr := zm_m285) rfl (show _ = some (1501, [(3, .int (Int32.ofNat N)), (2, .ref 55), (1, .ref 0), (0, .retAddr 0)], [.int (Int32.ofNat N + 2), .retAddr 0, .int (xs (N + 1)), .ref 0]) from rfl) ?_
  refine zy_h (mr := zm_m285) rfl rfl (zl_ld (k := 2) hO rfl (by omega) hL) ?_
  refine zy_c (mr := zm_m285) (mc := zm_m153) rfl rfl (zl_cx (A := [.int (xs (N + 1)), .int (xs (N + 2))]) hH rfl rfl) rfl rfl ?_
  refine ((xo_x_answer hH hX ((xs (N + 1))) ((xs (N + 2))) ).deep (Nat.le_of_ble_eq_true rfl)).mono (fun r h1 hq => ?_)
  obtain ⟨⟨i1, rfl⟩, τ1, hH1, hX1, hW1, hF1⟩ := hq
  have hR1 := xRR_F hH hF1 ⟨rfl, rfl, rfl, rfl⟩ hR
  refine zy_n 6 (mr := zm_m285) rfl (show _ = some (1511, [(3, .int (Int32.ofNat N)), (2, .ref 55), (1, .ref 0), (0, .retAddr 0)], [.int (Int32.ofNat N + 1), .retAddr 0, .ref 55]) from rfl) ?_
  refine zy_h (mr := zm_m285) rfl rfl (zl_ld (k := 1) hO rfl (by omega) hL) ?_
  refine zy_n 4 (mr := zm_m285) rfl (show _ = some (1516, [(3, .int (Int32.ofNat N)), (2, .ref 55), (1, .ref 0), (0, .retAddr 0)], [.int (Int32.ofNat N + 2), .retAddr 0, .int (xs (N + 1)), .ref 55]) from rfl) ?_
  refine zy_h (mr := zm_m285) rfl rfl (zl_ld (k := 2) hO rfl (by omega) hL) ?_
  refine zy_c (mr := zm_m285) (mc := zm_m275) rfl rfl (zl_cm (A := [.int (xs (N + 1)), .int (xs (N + 2))]) hH1 rfl rfl) rfl rfl ?_
  refine ((xo_m_answer hH1 hX1 ((xs (N + 1))) ((xs (N + 2))) ).deep (Nat.le_of_ble_eq_true rfl)).mono (fun r h2 hq => ?_)
  obtain ⟨⟨i2, rfl⟩, τ2, hH2, hX2, hW2, hF2⟩ := hq
  have hR2 := xRR_F hH1 hF2 ⟨rfl, rfl, rfl, rfl⟩ hR1
  refine zy_n 2 (mr := zm_m285) rfl (show _ = some (1970, [(3, .int (Int32.ofNat N)), (2, .ref 55), (1, .ref 0), (0, .retAddr 0)], []) from rfl) ?_
  exact kk τ2 h2 hH2 hX2 hR2 (by omega)
set_option maxRecDepth 100000 in
theorem zl_34 (hO : og 0 = some (.inl (0, L, .inl xs))) (hL : L ≤ 3584) (hN : N + 6 < L) (hH : xHI xKT xSG τ h) (hX : xX τ h) (hR : xRR τ h) (kk : ∀ (τ1 : List Nat) (h1 : zm_H), xHI xKT xSG τ1 h1 → xX τ1 h1 → xRR τ1 h1 → xW h1 ≤ xW h + 3734 → zm_Y og 60 285 1970 [(3, .int (Int32.ofNat N)), (2, .ref 55), (1, .ref 0), (0, .retAddr 0)] [] h1 Q) : zm_Y og 60 285 1524 [(3, .int (Int32.ofNat N)), (2, .ref 55), (1, .ref 0), (0, .retAddr 0)] [] h Q := by
  refine zy_n 5 (mr := zm_m285) rfl (show _ = some (1529, [(3, .int (Int32.ofNat N)), (2, .ref 55), (1, .ref 0), (0, .retAddr 0)], [.int (Int32.ofNat N + 1), .retAddr 0, .ref 0]) from rfl) ?_
  refine zy_h (mr := zm_m285) rfl rfl (zl_ld (k := 1) hO rfl (by omega) hL) ?_
  refine zy_n 4 (mr := zm_m285) rfl (show _ = some (1534, [(3, .int (Int32.ofNat N)), (2, .ref 55), (1, .ref 0), (0, .retAddr 0)], [.int (Int32.ofNat N + 2), .retAddr 0, .int (xs (N + 1)), .ref 0]) from rfl) ?_
  refine zy_h (mr := zm_m285) rfl rfl (zl_ld (k := 2) hO rfl (by omega) hL) ?_
  refine zy_n 4 (mr := zm_m285) rfl (show _ = some (1539, [(3, .int (Int32.ofNat N)), (2, .ref 55), (1, .ref 0), (0, .retAddr 0)], [.int (Int32.ofNat N + 3), .retAddr 0, .int (xs (N + 2)), .int (xs (N + 1)), .ref 0]) from rfl) ?_
  refine zy_h (mr := zm_m285) rfl rfl (zl_ld (k := 3) hO rfl (by omega) hL) ?_
  refine zy_c (mr := zm_m285) (mc := zm_m154) rfl rfl (zl_cx (A := [.int (xs (N + 1)), .int (xs (N + 2)), .int (xs (N + 3))]) hH rfl rfl) rfl rfl ?_
  obtain ⟨wd, sz, nm, pl, pr, hcx, hcm, hrl, hpx, hpm⟩ := hR
  obtain ⟨x, wd2, sz2, nm2, pl2, pr2, hrl2, kx, km⟩ := xr_match (og := og) (pr := pr) ((xs (N + 1))) ((xs (N + 2))) ((xs (N + 3))) (fun j hj => xrw hH hcx hj) hrl
  refine ((kx τ h hH hX hcx hpx).deep (Nat.le_of_ble_eq_true rfl)).mono (fun r h1 hq => ?_)
  obtain ⟨rfl, τ1, hH1, hX1, hW1, ⟨hcx1, hpx1⟩, ho1, hop1⟩ := hq
  have hcm1 := ho1 _ _ _ hcm
  have hpm1 := hop1 _ _ hpm
  refine zy_n 6 (mr := zm_m285) rfl (show _ = some (1549, [(3, .int (Int32.ofNat N)), (2, .ref 55), (1, .ref 0), (0, .retAddr 0)], [.int (Int32.ofNat N + 1), .retAddr 0, .ref 55]) from rfl) ?_
  refine zy_h (mr := zm_m285) rfl rfl (zl_ld (k := 1) hO rfl (by omega) hL) ?_
  refine zy_n 4 (mr := zm_m285) rfl (show _ = some (1554, [(3, .int (Int32.ofNat N)), (2, .ref 55), (1, .ref 0), (0, .retAddr 0)], [.int (Int32.ofNat N + 2), .retAddr 0, .int (xs (N + 1)), .ref 55]) from rfl) ?_
  refine zy_h (mr := zm_m285) rfl rfl (zl_ld (k := 2) hO rfl (by omega) hL) ?_
  refine zy_n 4 (mr := zm_m285) rfl (show _ = some (1559, [(3, .int (Int32.ofNat N)), (2, .ref 55), (1, .ref 0), (0, .retAddr 0)], [.int (Int32.ofNat N + 3), .retAddr 0, .int (xs (N + 2)), .int (xs (N + 1)), .ref 55]) from rfl) ?_
  refine zy_h (mr := zm_m285) rfl rfl (zl_ld (k := 3) hO rfl (by omega) hL) ?_
  refine zy_c (mr := zm_m285) (mc := zm_m276) rfl rfl (zl_cm (A := [.int (xs (N + 1)), .int (xs (N + 2)), .int (xs (N + 3))]) hH1 rfl rfl) rfl rfl ?_
  refine ((km τ1 h1 hH1 hX1 hcm1 hpm1).deep (Nat.le_of_ble_eq_true rfl)).mono (fun r h2 hq => ?_)
  obtain ⟨rfl, τ2, hH2, hX2, hW2, ⟨hcm2, hpm2⟩, ho2, hop2⟩ := hq
  have hR2 : xRR τ2 h2 := ⟨wd2, sz2, nm2, pl2, pr2, ho2 _ _ _ hcx1, hcm2, hrl2, hop2 _ _ hpx1, hpm2⟩
  refine zy_n 2 (mr := zm_m285) rfl (show _ = some (1970, [(3, .int (Int32.ofNat N)), (2, .ref 55), (1, .ref 0), (0, .retAddr 0)], []) from rfl) ?_
  exact kk τ2 h2 hH2 hX2 hR2 (by omega)
set_option maxRecDepth 100000 in
theorem zl_35 (hO : og 0 = some (.inl (0, L, .inl xs))) (hL : L ≤ 3584) (hN : N + 6 < L) (hH : xHI xKT xSG τ h) (hX : xX τ h) (hR : xRR τ h) (kk : ∀ (τ1 : List Nat) (h1 : zm_H), xHI xKT xSG τ1 h1 → xX τ1 h1 → xRR τ1 h1 → xW h1 ≤ xW h + 3734 → zm_Y og 60 285 1970 [(3, .int (Int32.ofNat N)), (2, .ref 55), (1, .ref 0), (0, .retAddr 0)] [] h1 Q) : zm_Y og 60 285 1567 [(3, .int (Int32.ofNat N)), (2, .ref 55), (1, .ref 0), (0, .retAddr 0)] [] h Q := by
  refine zy_n 5 (mr := zm_m285) rfl (show _ = some (1572, [(3, .int (Int32.ofNat N)), (2, .ref 55), (1, .ref 0), (0, .retAddr 0)], [.int (Int32.ofNat N + 1), .retAddr 0, .ref 0]) from rfl) ?_
  refine zy_h (mr := zm_m285) rfl rfl (zl_ld (k := 1) hO rfl (by omega) hL) ?_
  refine zy_c (mr := zm_m285) (mc := zm_m159) rfl rfl (zl_cx (A := [.int (xs (N + 1))]) hH rfl rfl) rfl rfl ?_
  obtain ⟨wd, sz, nm, pl, pr, hcx, hcm, hrl, hpx, hpm⟩ := hR
  obtain ⟨x, wd2, sz2, nm2, pl2, pr2, hrl2, kx, km⟩ := xr_matched (og := og) (pr := pr) ((xs (N + 1))) (fun j hj => xrw hH hcx hj) hrl
  refine ((kx τ h hH hX hcx hpx).deep (Nat.le_of_ble_eq_true rfl)).mono (fun r h1 hq => ?_)
  obtain ⟨rfl, τ1, hH1, hX1, hW1, ⟨hcx1, hpx1⟩, ho1, hop1⟩ := hq
  have hcm1 := ho1 _ _ _ hcm
  have hpm1 := hop1 _ _ hpm
  refine zy_n 5 (mr := zm_m285) rfl (show _ = some (1581, [(3, .int (Int32.ofNat N)), (2, .ref 55), (1, .ref 0), (0, .retAddr 0)], [.int (Int32.ofNat N + 1), .retAddr 0, .ref 55, .int x]) from rfl) ?_
  refine zy_h (mr := zm_m285) rfl rfl (zl_ld (k := 1) hO rfl (by omega) hL) ?_
  refine zy_c (mr := zm_m285) (mc := zm_m278) rfl rfl (zl_cm (A := [.int (xs (N + 1))]) hH1 rfl rfl) rfl rfl ?_
  refine ((km τ1 h1 hH1 hX1 hcm1 hpm1).deep (Nat.le_of_ble_eq_true rfl)).mono (fun r h2 hq => ?_)
  obtain ⟨rfl, τ2, hH2, hX2, hW2, ⟨hcm2, hpm2⟩, ho2, hop2⟩ := hq
  have hR2 : xRR τ2 h2 := ⟨wd2, sz2, nm2, pl2, pr2, ho2 _ _ _ hcx1, hcm2, hrl2, hop2 _ _ hpx1, hpm2⟩
  refine zy_b (mr := zm_m285) rfl rfl (show _ = some (zm_ic .eq x x 1970 1588, []) from rfl) ?_
  refine zc_eq (fun _ => ?_) (fun e => absurd rfl e)
  exact kk τ2 h2 hH2 hX2 hR2 (by omega)
set_option maxRecDepth 100000 in
theorem zl_36 (hO : og 0 = some (.inl (0, L, .inl xs))) (hL : L ≤ 3584) (hN : N + 6 < L) (hH : xHI xKT xSG τ h) (hX : xX τ h) (hR : xRR τ h) (kk : ∀ (τ1 : List Nat) (h1 : zm_H), xHI xKT xSG τ1 h1 → xX τ1 h1 → xRR τ1 h1 → xW h1 ≤ xW h + 3734 → zm_Y og 60 285 1970 [(3, .int (Int32.ofNat N)), (2, .ref 55), (1, .ref 0), (0, .retAddr 0)] [] h1 Q) : zm_Y og 60 285 1590 [(3, .int (Int32.ofNat N)), (2, .ref 55), (1, .ref 0), (0, .retAddr 0)] [] h Q := by
  refine zy_n 5 (mr := zm_m285) rfl (show _ = some (1595, [(3, .int (Int32.ofNat N)), (2, .ref 55), (1, .ref 0), (0, .retAddr 0)], [.int (Int32.ofNat N + 1), .retAddr 0, .ref 0]) from rfl) ?_
  refine zy_h (mr := zm_m285) rfl rfl (zl_ld (k := 1) hO rfl (by omega) hL) ?_
  refine zy_n 4 (mr := zm_m285) rfl (show _ = some (1600, [(3, .int (Int32.ofNat N)), (2, .ref 55), (1, .ref 0), (0, .retAddr 0)], [.int (Int32.ofNat N + 2), .retAddr 0, .int (xs (N + 1)), .ref 0]) from rfl) ?_
  refine zy_h (mr := zm_m285) rfl rfl (zl_ld (k := 2) hO rfl (by omega) hL) ?_
  refine zy_c (mr := zm_m285) (mc := zm_m160) rfl rfl (zl_cx (A := [.int (xs (N + 1)), .int (xs (N + 2))]) hH rfl rfl) rfl rfl ?_
  refine ((xo_x_beside hH hX ((xs (N + 1))) ((xs (N + 2))) ).deep (Nat.le_of_ble_eq_true rfl)).mono (fun r h1 hq => ?_)
  obtain ⟨⟨i1, rfl⟩, τ1, hH1, hX1, hW1, hF1⟩ := hq
  have hR1 := xRR_F hH hF1 ⟨rfl, rfl, rfl, rfl⟩ hR
  refine zy_n 6 (mr := zm_m285) rfl (show _ = some (1610, [(3, .int (Int32.ofNat N)), (2, .ref 55), (1, .ref 0), (0, .retAddr 0)], [.int (Int32.ofNat N + 1), .retAddr 0, .ref 55]) from rfl) ?_
  refine zy_h (mr := zm_m285) rfl rfl (zl_ld (k := 1) hO rfl (by omega) hL) ?_
  refine zy_n 4 (mr := zm_m285) rfl (show _ = some (1615, [(3, .int (Int32.ofNat N)), (2, .ref 55), (1, .ref 0), (0, .retAddr 0)], [.int (Int32.ofNat N + 2), .retAddr 0, .int (xs (N + 1)), .ref 55]) from rfl) ?_
  refine zy_h (mr := zm_m285) rfl rfl (zl_ld (k := 2) hO rfl (by omega) hL) ?_
  refine zy_c (mr := zm_m285) (mc := zm_m279) rfl rfl (zl_cm (A := [.int (xs (N + 1)), .int (xs (N + 2))]) hH1 rfl rfl) rfl rfl ?_
  refine ((xo_m_beside hH1 hX1 ((xs (N + 1))) ((xs (N + 2))) ).deep (Nat.le_of_ble_eq_true rfl)).mono (fun r h2 hq => ?_)
  obtain ⟨⟨i2, rfl⟩, τ2, hH2, hX2, hW2, hF2⟩ := hq
  have hR2 := xRR_F hH1 hF2 ⟨rfl, rfl, rfl, rfl⟩ hR1
  refine zy_n 2 (mr := zm_m285) rfl (show _ = some (1970, [(3, .int (Int32.ofNat N)), (2, .ref 55), (1, .ref 0), (0, .retAddr 0)], []) from rfl) ?_
  exact kk τ2 h2 hH2 hX2 hR2 (by omega)
set_option maxRecDepth 100000 in
theorem zl_37 (hO : og 0 = some (.inl (0, L, .inl xs))) (hL : L ≤ 3584) (hN : N + 6 < L) (hH : xHI xKT xSG τ h) (hX : xX τ h) (hR : xRR τ h) (kk : ∀ (τ1 : List Nat) (h1 : zm_H), xHI xKT xSG τ1 h1 → xX τ1 h1 → xRR τ1 h1 → xW h1 ≤ xW h + 3734 → zm_Y og 60 285 1970 [(3, .int (Int32.ofNat N)), (2, .ref 55), (1, .ref 0), (0, .retAddr 0)] [] h1 Q) : zm_Y og 60 285 1623 [(3, .int (Int32.ofNat N)), (2, .ref 55), (1, .ref 0), (0, .retAddr 0)] [] h Q := by
  refine zy_n 5 (mr := zm_m285) rfl (show _ = some (1628, [(3, .int (Int32.ofNat N)), (2, .ref 55), (1, .ref 0), (0, .retAddr 0)], [.int (Int32.ofNat N + 1), .retAddr 0, .ref 0]) from rfl) ?_
  refine zy_h (mr := zm_m285) rfl rfl (zl_ld (k := 1) hO rfl (by omega) hL) ?_
  refine zy_c (mr := zm_m285) (mc := zm_m163) rfl rfl (zl_cx (A := [.int (xs (N + 1))]) hH rfl rfl) rfl rfl ?_
  refine ((xo_x_heap hH hX ((xs (N + 1))) ).deep (Nat.le_of_ble_eq_true rfl)).mono (fun r h1 hq => ?_)
  obtain ⟨⟨i1, rfl⟩, τ1, hH1, hX1, hW1, hF1⟩ := hq
  have hR1 := xRR_F hH hF1 ⟨rfl, rfl, rfl, rfl⟩ hR
  refine zy_n 6 (mr := zm_m285) rfl (show _ = some (1638, [(3, .int (Int32.ofNat N)), (2, .ref 55), (1, .ref 0), (0, .retAddr 0)], [.int (Int32.ofNat N + 1), .retAddr 0, .ref 55]) from rfl) ?_
  refine zy_h (mr := zm_m285) rfl rfl (zl_ld (k := 1) hO rfl (by omega) hL) ?_
  refine zy_c (mr := zm_m285) (mc := zm_m280) rfl rfl (zl_cm (A := [.int (xs (N + 1))]) hH1 rfl rfl) rfl rfl ?_
  refine ((xo_m_heap hH1 hX1 ((xs (N + 1))) ).deep (Nat.le_of_ble_eq_true rfl)).mono (fun r h2 hq => ?_)
  obtain ⟨⟨i2, rfl⟩, τ2, hH2, hX2, hW2, hF2⟩ := hq
  have hR2 := xRR_F hH1 hF2 ⟨rfl, rfl, rfl, rfl⟩ hR1
  refine zy_n 2 (mr := zm_m285) rfl (show _ = some (1970, [(3, .int (Int32.ofNat N)), (2, .ref 55), (1, .ref 0), (0, .retAddr 0)], []) from rfl) ?_
  exact kk τ2 h2 hH2 hX2 hR2 (by omega)
set_option maxRecDepth 100000 in
theorem zl_38 (hO : og 0 = some (.inl (0, L, .inl xs))) (hL : L ≤ 3584) (hN : N + 6 < L) (hH : xHI xKT xSG τ h) (hX : xX τ h) (hR : xRR τ h) (kk : ∀ (τ1 : List Nat) (h1 : zm_H), xHI xKT xSG τ1 h1 → xX τ1 h1 → xRR τ1 h1 → xW h1 ≤ xW h + 3734 → zm_Y og 60 285 1970 [(3, .int (Int32.ofNat N)), (2, .ref 55), (1, .ref 0), (0, .retAddr 0)] [] h1 Q) : zm_Y og 60 285 1646 [(3, .int (Int32.ofNat N)), (2, .ref 55), (1, .ref 0), (0, .retAddr 0)] [] h Q := by
  refine zy_n 5 (mr := zm_m285) rfl (show _ = some (1651, [(3, .int (Int32.ofNat N)), (2, .ref 55), (1, .ref 0), (0, .retAddr 0)], [.int (Int32.ofNat N + 1), .retAddr 0, .ref 0]) from rfl) ?_
  refine zy_h (mr := zm_m285) rfl rfl (zl_ld (k := 1) hO rfl (by omega) hL) ?_
  refine zy_n 4 (mr := zm_m285) rfl (show _ = some (1656, [(3, .int (Int32.ofNat N)), (2, .ref 55), (1, .ref 0), (0, .retAddr 0)], [.int (Int32.ofNat N + 2), .retAddr 0, .int (xs (N + 1)), .ref 0]) from rfl) ?_
  refine zy_h (mr := zm_m285) rfl rfl (zl_ld (k := 2) hO rfl (by omega) hL) ?_
  refine zy_c (mr := zm_m285) (mc := zm_m164) rfl rfl (zl_cx (A := [.int (xs (N + 1)), .int (xs (N + 2))]) hH rfl rfl) rfl rfl ?_
  refine ((xo_x_houseOf hH hX ((xs (N + 1))) ((xs (N + 2))) ).deep (Nat.le_of_ble_eq_true rfl)).mono (fun r h1 hq => ?_)
  obtain ⟨⟨i1, rfl⟩, τ1, hH1, hX1, hW1, hF1⟩ := hq
  have hR1 := xRR_F hH hF1 ⟨rfl, rfl, rfl, rfl⟩ hR
  refine zy_n 6 (mr := zm_m285) rfl (show _ = some (1666, [(3, .int (Int32.ofNat N)), (2, .ref 55), (1, .ref 0), (0, .retAddr 0)], [.int (Int32.ofNat N + 1), .retAddr 0, .ref 55]) from rfl) ?_
  refine zy_h (mr := zm_m285) rfl rfl (zl_ld (k := 1) hO rfl (by omega) hL) ?_
  refine zy_n 4 (mr := zm_m285) rfl (show _ = some (1671, [(3, .int (Int32.ofNat N)), (2, .ref 55), (1, .ref 0), (0, .retAddr 0)], [.int (Int32.ofNat N + 2), .retAddr 0, .int (xs (N + 1)), .ref 55]) from rfl) ?_
  refine zy_h (mr := zm_m285) rfl rfl (zl_ld (k := 2) hO rfl (by omega) hL) ?_
  refine zy_c (mr := zm_m285) (mc := zm_m281) rfl rfl (zl_cm (A := [.int (xs (N + 1)), .int (xs (N + 2))]) hH1 rfl rfl) rfl rfl ?_
  refine ((xo_m_houseOf hH1 hX1 ((xs (N + 1))) ((xs (N + 2))) ).deep (Nat.le_of_ble_eq_true rfl)).mono (fun r h2 hq => ?_)
  obtain ⟨⟨i2, rfl⟩, τ2, hH2, hX2, hW2, hF2⟩ := hq
  have hR2 := xRR_F hH1 hF2 ⟨rfl, rfl, rfl, rfl⟩ hR1
  refine zy_n 2 (mr := zm_m285) rfl (show _ = some (1970, [(3, .int (Int32.ofNat N)), (2, .ref 55), (1, .ref 0), (0, .retAddr 0)], []) from rfl) ?_
  exact kk τ2 h2 hH2 hX2 hR2 (by omega)
set_option maxRecDepth 100000 in
theorem zl_39 (hO : og 0 = some (.inl (0, L, .inl xs))) (hL : L ≤ 3584) (hN : N + 6 < L) (hH : xHI xKT xSG τ h) (hX : xX τ h) (hR : xRR τ h) (kk : ∀ (τ1 : List Nat) (h1 : zm_H), xHI xKT xSG τ1 h1 → xX τ1 h1 → xRR τ1 h1 → xW h1 ≤ xW h + 3734 → zm_Y og 60 285 1970 [(3, .int (Int32.ofNat N)), (2, .ref 55), (1, .ref 0), (0, .retAddr 0)] [] h1 Q) : zm_Y og 60 285 1679 [(3, .int (Int32.ofNat N)), (2, .ref 55), (1, .ref 0), (0, .retAddr 0)] [] h Q := by
  refine zy_n 5 (mr := zm_m285) rfl (show _ = some (1684, [(3, .int (Int32.ofNat N)), (2, .ref 55), (1, .ref 0), (0, .retAddr 0)], [.int (Int32.ofNat N + 1), .retAddr 0, .ref 0]) from rfl) ?_
  refine zy_h (mr := zm_m285) rfl rfl (zl_ld (k := 1) hO rfl (by omega) hL) ?_
  refine zy_n 4 (mr := zm_m285) rfl (show _ = some (1689, [(3, .int (Int32.ofNat N)), (2, .ref 55), (1, .ref 0), (0, .retAddr 0)], [.int (Int32.ofNat N + 2), .retAddr 0, .int (xs (N + 1)), .ref 0]) from rfl) ?_
  refine zy_h (mr := zm_m285) rfl rfl (zl_ld (k := 2) hO rfl (by omega) hL) ?_
  refine zy_n 4 (mr := zm_m285) rfl (show _ = some (1694, [(3, .int (Int32.ofNat N)), (2, .ref 55), (1, .ref 0), (0, .retAddr 0)], [.int (Int32.ofNat N + 3), .retAddr 0, .int (xs (N + 2)), .int (xs (N + 1)), .ref 0]) from rfl) ?_
  refine zy_h (mr := zm_m285) rfl rfl (zl_ld (k := 3) hO rfl (by omega) hL) ?_
  refine zy_c (mr := zm_m285) (mc := zm_m166) rfl rfl (zl_cx (A := [.int (xs (N + 1)), .int (xs (N + 2)), .int (xs (N + 3))]) hH rfl rfl) rfl rfl ?_
  refine ((xo_x_opening hH hX ((xs (N + 1))) ((xs (N + 2))) ((xs (N + 3))) ).deep (Nat.le_of_ble_eq_true rfl)).mono (fun r h1 hq => ?_)
  obtain ⟨⟨i1, rfl⟩, τ1, hH1, hX1, hW1, hF1⟩ := hq
  have hR1 := xRR_F hH hF1 ⟨rfl, rfl, rfl, rfl⟩ hR
  refine zy_n 6 (mr := zm_m285) rfl (show _ = some (1704, [(3, .int (Int32.ofNat N)), (2, .ref 55), (1, .ref 0), (0, .retAddr 0)], [.int (Int32.ofNat N + 1), .retAddr 0, .ref 55]) from rfl) ?_
  refine zy_h (mr := zm_m285) rfl rfl (zl_ld (k := 1) hO rfl (by omega) hL) ?_
  refine zy_n 4 (mr := zm_m285) rfl (show _ = some (1709, [(3, .int (Int32.ofNat N)), (2, .ref 55), (1, .ref 0), (0, .retAddr 0)], [.int (Int32.ofNat N + 2), .retAddr 0, .int (xs (N + 1)), .ref 55]) from rfl) ?_
  refine zy_h (mr := zm_m285) rfl rfl (zl_ld (k := 2) hO rfl (by omega) hL) ?_
  refine zy_n 4 (mr := zm_m285) rfl (show _ = some (1714, [(3, .int (Int32.ofNat N)), (2, .ref 55), (1, .ref 0), (0, .retAddr 0)], [.int (Int32.ofNat N + 3), .retAddr 0, .int (xs (N + 2)), .int (xs (N + 1)), .ref 55]) from rfl) ?_
  refine zy_h (mr := zm_m285) rfl rfl (zl_ld (k := 3) hO rfl (by omega) hL) ?_
  refine zy_c (mr := zm_m285) (mc := zm_m282) rfl rfl (zl_cm (A := [.int (xs (N + 1)), .int (xs (N + 2)), .int (xs (N + 3))]) hH1 rfl rfl) rfl rfl ?_
  refine ((xo_m_opening hH1 hX1 ((xs (N + 1))) ((xs (N + 2))) ((xs (N + 3))) ).deep (Nat.le_of_ble_eq_true rfl)).mono (fun r h2 hq => ?_)
  obtain ⟨⟨i2, rfl⟩, τ2, hH2, hX2, hW2, hF2⟩ := hq
  have hR2 := xRR_F hH1 hF2 ⟨rfl, rfl, rfl, rfl⟩ hR1
  refine zy_n 2 (mr := zm_m285) rfl (show _ = some (1970, [(3, .int (Int32.ofNat N)), (2, .ref 55), (1, .ref 0), (0, .retAddr 0)], []) from rfl) ?_
  exact kk τ2 h2 hH2 hX2 hR2 (by omega)
set_option maxRecDepth 100000 in
theorem zl_40 (hO : og 0 = some (.inl (0, L, .inl xs))) (hL : L ≤ 3584) (hN : N + 6 < L) (hH : xHI xKT xSG τ h) (hX : xX τ h) (hR : xRR τ h) (kk : ∀ (τ1 : List Nat) (h1 : zm_H), xHI xKT xSG τ1 h1 → xX τ1 h1 → xRR τ1 h1 → xW h1 ≤ xW h + 3734 → zm_Y og 60 285 1970 [(3, .int (Int32.ofNat N)), (2, .ref 55), (1, .ref 0), (0, .retAddr 0)] [] h1 Q) : zm_Y og 60 285 1722 [(3, .int (Int32.ofNat N)), (2, .ref 55), (1, .ref 0), (0, .retAddr 0)] [] h Q := by
  refine zy_n 5 (mr := zm_m285) rfl (show _ = some (1727, [(3, .int (Int32.ofNat N)), (2, .ref 55), (1, .ref 0), (0, .retAddr 0)], [.int (Int32.ofNat N + 1), .retAddr 0, .ref 0]) from rfl) ?_
  refine zy_h (mr := zm_m285) rfl rfl (zl_ld (k := 1) hO rfl (by omega) hL) ?_
  refine zy_c (mr := zm_m285) (mc := zm_m168) rfl rfl (zl_cx (A := [.int (xs (N + 1))]) hH rfl rfl) rfl rfl ?_
  refine ((xo_x_paid hH hX ((xs (N + 1))) ).deep (Nat.le_of_ble_eq_true rfl)).mono (fun r h1 hq => ?_)
  obtain ⟨⟨i1, rfl⟩, τ1, hH1, hX1, hW1, hF1⟩ := hq
  have hR1 := xRR_F hH hF1 ⟨rfl, rfl, rfl, rfl⟩ hR
  refine zy_n 6 (mr := zm_m285) rfl (show _ = some (1737, [(3, .int (Int32.ofNat N)), (2, .ref 55), (1, .ref 0), (0, .retAddr 0)], [.int (Int32.ofNat N + 1), .retAddr 0, .ref 55]) from rfl) ?_
  refine zy_h (mr := zm_m285) rfl rfl (zl_ld (k := 1) hO rfl (by omega) hL) ?_
  refine zy_c (mr := zm_m285) (mc := zm_m283) rfl rfl (zl_cm (A := [.int (xs (N + 1))]) hH1 rfl rfl) rfl rfl ?_
  refine ((xo_m_paid hH1 hX1 ((xs (N + 1))) ).deep (Nat.le_of_ble_eq_true rfl)).mono (fun r h2 hq => ?_)
  obtain ⟨⟨i2, rfl⟩, τ2, hH2, hX2, hW2, hF2⟩ := hq
  have hR2 := xRR_F hH1 hF2 ⟨rfl, rfl, rfl, rfl⟩ hR1
  refine zy_n 2 (mr := zm_m285) rfl (show _ = some (1970, [(3, .int (Int32.ofNat N)), (2, .ref 55), (1, .ref 0), (0, .retAddr 0)], []) from rfl) ?_
  exact kk τ2 h2 hH2 hX2 hR2 (by omega)
set_option maxRecDepth 100000 in
theorem zl_41 (hO : og 0 = some (.inl (0, L, .inl xs))) (hL : L ≤ 3584) (hN : N + 6 < L) (hH : xHI xKT xSG τ h) (hX : xX τ h) (hR : xRR τ h) (kk : ∀ (τ1 : List Nat) (h1 : zm_H), xHI xKT xSG τ1 h1 → xX τ1 h1 → xRR τ1 h1 → xW h1 ≤ xW h + 3734 → zm_Y og 60 285 1970 [(3, .int (Int32.ofNat N)), (2, .ref 55), (1, .ref 0), (0, .retAddr 0)] [] h1 Q) : zm_Y og 60 285 1745 [(3, .int (Int32.ofNat N)), (2, .ref 55), (1, .ref 0), (0, .retAddr 0)] [] h Q := by
  refine zy_n 5 (mr := zm_m285) rfl (show _ = some (1750, [(3, .int (Int32.ofNat N)), (2, .ref 55), (1, .ref 0), (0, .retAddr 0)], [.int (Int32.ofNat N + 1), .retAddr 0, .ref 0]) from rfl) ?_
  refine zy_h (mr := zm_m285) rfl rfl (zl_ld (k := 1) hO rfl (by omega) hL) ?_
  refine zy_c (mr := zm_m285) (mc := zm_m169) rfl rfl (zl_cx (A := [.int (xs (N + 1))]) hH rfl rfl) rfl rfl ?_
  refine ((xo_x_count hH hX ((xs (N + 1))) ).deep (Nat.le_of_ble_eq_true rfl)).mono (fun r h1 hq => ?_)
  obtain ⟨⟨i1, rfl⟩, τ1, hH1, hX1, hW1, hF1⟩ := hq
  have hR1 := xRR_F hH hF1 ⟨rfl, rfl, rfl, rfl⟩ hR
  refine zy_n 6 (mr := zm_m285) rfl (show _ = some (1760, [(3, .int (Int32.ofNat N)), (2, .ref 55), (1, .ref 0), (0, .retAddr 0)], [.int (Int32.ofNat N + 1), .retAddr 0, .ref 55]) from rfl) ?_
  refine zy_h (mr := zm_m285) rfl rfl (zl_ld (k := 1) hO rfl (by omega) hL) ?_
  refine zy_c (mr := zm_m285) (mc := zm_m284) rfl rfl (zl_cm (A := [.int (xs (N + 1))]) hH1 rfl rfl) rfl rfl ?_
  refine ((xo_m_count hH1 hX1 ((xs (N + 1))) ).deep (Nat.le_of_ble_eq_true rfl)).mono (fun r h2 hq => ?_)
  obtain ⟨⟨i2, rfl⟩, τ2, hH2, hX2, hW2, hF2⟩ := hq
  have hR2 := xRR_F hH1 hF2 ⟨rfl, rfl, rfl, rfl⟩ hR1
  refine zy_n 2 (mr := zm_m285) rfl (show _ = some (1970, [(3, .int (Int32.ofNat N)), (2, .ref 55), (1, .ref 0), (0, .retAddr 0)], []) from rfl) ?_
  exact kk τ2 h2 hH2 hX2 hR2 (by omega)
set_option maxRecDepth 100000 in
theorem zl_42 (hO : og 0 = some (.inl (0, L, .inl xs))) (hL : L ≤ 3584) (hN : N + 6 < L) (hH : xHI xKT xSG τ h) (hX : xX τ h) (hR : xRR τ h) (kk : ∀ (τ1 : List Nat) (h1 : zm_H), xHI xKT xSG τ1 h1 → xX τ1 h1 → xRR τ1 h1 → xW h1 ≤ xW h + 3734 → zm_Y og 60 285 1970 [(3, .int (Int32.ofNat N)), (2, .ref 55), (1, .ref 0), (0, .retAddr 0)] [] h1 Q) : zm_Y og 60 285 1768 [(3, .int (Int32.ofNat N)), (2, .ref 55), (1, .ref 0), (0, .retAddr 0)] [] h Q := by
  refine zy_n 5 (mr := zm_m285) rfl (show _ = some (1773, [(3, .int (Int32.ofNat N)), (2, .ref 55), (1, .ref 0), (0, .retAddr 0)], [.int (Int32.ofNat N + 1), .retAddr 0, .ref 0]) from rfl) ?_
  refine zy_h (mr := zm_m285) rfl rfl (zl_ld (k := 1) hO rfl (by omega) hL) ?_
  refine zy_n 4 (mr := zm_m285) rfl (show _ = some (1778, [(3, .int (Int32.ofNat N)), (2, .ref 55), (1, .ref 0), (0, .retAddr 0)], [.int (Int32.ofNat N + 2), .retAddr 0, .int (xs (N + 1)), .ref 0]) from rfl) ?_
  refine zy_h (mr := zm_m285) rfl rfl (zl_ld (k := 2) hO rfl (by omega) hL) ?_
  refine zy_n 4 (mr := zm_m285) rfl (show _ = some (1783, [(3, .int (Int32.ofNat N)), (2, .ref 55), (1, .ref 0), (0, .retAddr 0)], [.int (Int32.ofNat N + 3), .retAddr 0, .int (xs (N + 2)), .int (xs (N + 1)), .ref 0]) from rfl) ?_
  refine zy_h (mr := zm_m285) rfl rfl (zl_ld (k := 3) hO rfl (by omega) hL) ?_
  refine zy_c (mr := zm_m285) (mc := zm_m173) rfl rfl (zl_cx (A := [.int (xs (N + 1)), .int (xs (N + 2)), .int (xs (N + 3))]) hH rfl rfl) rfl rfl ?_
  obtain ⟨wd, sz, nm, pl, pr, hcx, hcm, hrl, hpx, hpm⟩ := hR
  obtain ⟨x, wd2, sz2, nm2, pl2, pr2, hrl2, kx, km⟩ := xr_row (og := og) (pr := pr) ((xs (N + 1))) ((xs (N + 2))) ((xs (N + 3))) (fun j hj => xrw hH hcx hj) hrl
  refine ((kx τ h hH hX hcx hpx).deep (Nat.le_of_ble_eq_true rfl)).mono (fun r h1 hq => ?_)
  obtain ⟨rfl, τ1, hH1, hX1, hW1, ⟨hcx1, hpx1⟩, ho1, hop1⟩ := hq
  have hcm1 := ho1 _ _ _ hcm
  have hpm1 := hop1 _ _ hpm
  refine zy_n 6 (mr := zm_m285) rfl (show _ = some (1793, [(3, .int (Int32.ofNat N)), (2, .ref 55), (1, .ref 0), (0, .retAddr 0)], [.int (Int32.ofNat N + 1), .retAddr 0, .ref 55]) from rfl) ?_
  refine zy_h (mr := zm_m285) rfl rfl (zl_ld (k := 1) hO rfl (by omega) hL) ?_
  refine zy_n 4 (mr := zm_m285) rfl (show _ = some (1798, [(3, .int (Int32.ofNat N)), (2, .ref 55), (1, .ref 0), (0, .retAddr 0)], [.int (Int32.ofNat N + 2), .retAddr 0, .int (xs (N + 1)), .ref 55]) from rfl) ?_
  refine zy_h (mr := zm_m285) rfl rfl (zl_ld (k := 2) hO rfl (by omega) hL) ?_
  refine zy_n 4 (mr := zm_m285) rfl (show _ = some (1803, [(3, .int (Int32.ofNat N)), (2, .ref 55), (1, .ref 0), (0, .retAddr 0)], [.int (Int32.ofNat N + 3), .retAddr 0, .int (xs (N + 2)), .int (xs (N + 1)), .ref 55]) from rfl) ?_
  refine zy_h (mr := zm_m285) rfl rfl (zl_ld (k := 3) hO rfl (by omega) hL) ?_
  refine zy_c (mr := zm_m285) (mc := zm_m181) rfl rfl (zl_cm (A := [.int (xs (N + 1)), .int (xs (N + 2)), .int (xs (N + 3))]) hH1 rfl rfl) rfl rfl ?_
  refine ((km τ1 h1 hH1 hX1 hcm1 hpm1).deep (Nat.le_of_ble_eq_true rfl)).mono (fun r h2 hq => ?_)
  obtain ⟨rfl, τ2, hH2, hX2, hW2, ⟨hcm2, hpm2⟩, ho2, hop2⟩ := hq
  have hR2 : xRR τ2 h2 := ⟨wd2, sz2, nm2, pl2, pr2, ho2 _ _ _ hcx1, hcm2, hrl2, hop2 _ _ hpx1, hpm2⟩
  refine zy_n 2 (mr := zm_m285) rfl (show _ = some (1970, [(3, .int (Int32.ofNat N)), (2, .ref 55), (1, .ref 0), (0, .retAddr 0)], []) from rfl) ?_
  exact kk τ2 h2 hH2 hX2 hR2 (by omega)
set_option maxRecDepth 100000 in
theorem zl_43 (hO : og 0 = some (.inl (0, L, .inl xs))) (hL : L ≤ 3584) (hN : N + 6 < L) (hH : xHI xKT xSG τ h) (hX : xX τ h) (hR : xRR τ h) (kk : ∀ (τ1 : List Nat) (h1 : zm_H), xHI xKT xSG τ1 h1 → xX τ1 h1 → xRR τ1 h1 → xW h1 ≤ xW h + 3734 → zm_Y og 60 285 1970 [(3, .int (Int32.ofNat N)), (2, .ref 55), (1, .ref 0), (0, .retAddr 0)] [] h1 Q) : zm_Y og 60 285 1811 [(3, .int (Int32.ofNat N)), (2, .ref 55), (1, .ref 0), (0, .retAddr 0)] [] h Q := by
  refine zy_n 5 (mr := zm_m285) rfl (show _ = some (1816, [(3, .int (Int32.ofNat N)), (2, .ref 55), (1, .ref 0), (0, .retAddr 0)], [.int (Int32.ofNat N + 1), .retAddr 0, .ref 0]) from rfl) ?_
  refine zy_h (mr := zm_m285) rfl rfl (zl_ld (k := 1) hO rfl (by omega) hL) ?_
  refine zy_c (mr := zm_m285) (mc := zm_m175) rfl rfl (zl_cx (A := [.int (xs (N + 1))]) hH rfl rfl) rfl rfl ?_
  obtain ⟨wd, sz, nm, pl, pr, hcx, hcm, hrl, hpx, hpm⟩ := hR
  obtain ⟨x, wd2, sz2, nm2, pl2, pr2, hrl2, kx, km⟩ := xr_tear (og := og) (pr := pr) ((xs (N + 1))) (fun j hj => xrw hH hcx hj) hrl
  refine ((kx τ h hH hX hcx hpx).deep (Nat.le_of_ble_eq_true rfl)).mono (fun r h1 hq => ?_)
  obtain ⟨rfl, τ1, hH1, hX1, hW1, ⟨hcx1, hpx1⟩, ho1, hop1⟩ := hq
  have hcm1 := ho1 _ _ _ hcm
  have hpm1 := hop1 _ _ hpm
  refine zy_n 6 (mr := zm_m285) rfl (show _ = some (1826, [(3, .int (Int32.ofNat N)), (2, .ref 55), (1, .ref 0), (0, .retAddr 0)], [.int (Int32.ofNat N + 1), .retAddr 0, .ref 55]) from rfl) ?_
  refine zy_h (mr := zm_m285) rfl rfl (zl_ld (k := 1) hO rfl (by omega) hL) ?_
  refine zy_c (mr := zm_m285) (mc := zm_m184) rfl rfl (zl_cm (A := [.int (xs (N + 1))]) hH1 rfl rfl) rfl rfl ?_
  refine ((km τ1 h1 hH1 hX1 hcm1 hpm1).deep (Nat.le_of_ble_eq_true rfl)).mono (fun r h2 hq => ?_)
  obtain ⟨rfl, τ2, hH2, hX2, hW2, ⟨hcm2, hpm2⟩, ho2, hop2⟩ := hq
  have hR2 : xRR τ2 h2 := ⟨wd2, sz2, nm2, pl2, pr2, ho2 _ _ _ hcx1, hcm2, hrl2, hop2 _ _ hpx1, hpm2⟩
  refine zy_n 2 (mr := zm_m285) rfl (show _ = some (1970, [(3, .int (Int32.ofNat N)), (2, .ref 55), (1, .ref 0), (0, .retAddr 0)], []) from rfl) ?_
  exact kk τ2 h2 hH2 hX2 hR2 (by omega)
set_option maxRecDepth 100000 in
theorem zl_44 (hO : og 0 = some (.inl (0, L, .inl xs))) (hL : L ≤ 3584) (hN : N + 6 < L) (hH : xHI xKT xSG τ h) (hX : xX τ h) (hR : xRR τ h) (kk : ∀ (τ1 : List Nat) (h1 : zm_H), xHI xKT xSG τ1 h1 → xX τ1 h1 → xRR τ1 h1 → xW h1 ≤ xW h + 3734 → zm_Y og 60 285 1970 [(3, .int (Int32.ofNat N)), (2, .ref 55), (1, .ref 0), (0, .retAddr 0)] [] h1 Q) : zm_Y og 60 285 1834 [(3, .int (Int32.ofNat N)), (2, .ref 55), (1, .ref 0), (0, .retAddr 0)] [] h Q := by
  refine zy_n 5 (mr := zm_m285) rfl (show _ = some (1839, [(3, .int (Int32.ofNat N)), (2, .ref 55), (1, .ref 0), (0, .retAddr 0)], [.int (Int32.ofNat N + 1), .retAddr 0, .ref 0]) from rfl) ?_
  refine zy_h (mr := zm_m285) rfl rfl (zl_ld (k := 1) hO rfl (by omega) hL) ?_
  refine zy_n 4 (mr := zm_m285) rfl (show _ = some (1844, [(3, .int (Int32.ofNat N)), (2, .ref 55), (1, .ref 0), (0, .retAddr 0)], [.int (Int32.ofNat N + 2), .retAddr 0, .int (xs (N + 1)), .ref 0]) from rfl) ?_
  refine zy_h (mr := zm_m285) rfl rfl (zl_ld (k := 2) hO rfl (by omega) hL) ?_
  refine zy_n 4 (mr := zm_m285) rfl (show _ = some (1849, [(3, .int (Int32.ofNat N)), (2, .ref 55), (1, .ref 0), (0, .retAddr 0)], [.int (Int32.ofNat N + 3), .retAddr 0, .int (xs (N + 2)), .int (xs (N + 1)), .ref 0]) from rfl) ?_
  refine zy_h (mr := zm_m285) rfl rfl (zl_ld (k := 3) hO rfl (by omega) hL) ?_
  refine zy_n 7 (mr := zm_m285) rfl (show _ = some (1858, [(3, .int (Int32.ofNat N)), (2, .ref 55), (1, .ref 0), (0, .retAddr 0)], [.int (Int32.ofNat N + 4), .retAddr 0, .long (((xs (N + 3)).toInt64) <<< ((32 : Int32).toInt64 &&& 63)), .int (xs (N + 2)), .int (xs (N + 1)), .ref 0]) from rfl) ?_
  refine zy_h (mr := zm_m285) rfl rfl (zl_ld (k := 4) hO rfl (by omega) hL) ?_
  refine zy_n 4 (mr := zm_m285) rfl (show _ = some (1865, [(3, .int (Int32.ofNat N)), (2, .ref 55), (1, .ref 0), (0, .retAddr 0)], [.long ((((xs (N + 3)).toInt64) <<< ((32 : Int32).toInt64 &&& 63)) ||| (((xs (N + 4)).toInt64) &&& 4294967295)), .int (xs (N + 2)), .int (xs (N + 1)), .ref 0]) from rfl) ?_
  refine zy_c (mr := zm_m285) (mc := zm_m176) rfl rfl (zl_cx (A := [.int (xs (N + 1)), .int (xs (N + 2)), .long ((((xs (N + 3)).toInt64) <<< ((32 : Int32).toInt64 &&& 63)) ||| (((xs (N + 4)).toInt64) &&& 4294967295))]) hH rfl rfl) rfl rfl ?_
  obtain ⟨wd, sz, nm, pl, pr, hcx, hcm, hrl, hpx, hpm⟩ := hR
  obtain ⟨x, wd2, sz2, nm2, pl2, pr2, hrl2, kx, km⟩ := xr_write (og := og) (pr := pr) ((xs (N + 1))) ((xs (N + 2))) (((((xs (N + 3)).toInt64) <<< ((32 : Int32).toInt64 &&& 63)) ||| (((xs (N + 4)).toInt64) &&& 4294967295))) (fun j hj => xrw hH hcx hj) hrl
  refine ((kx τ h hH hX hcx hpx).deep (Nat.le_of_ble_eq_true rfl)).mono (fun r h1 hq => ?_)
  obtain ⟨rfl, τ1, hH1, hX1, hW1, ⟨hcx1, hpx1⟩, ho1, hop1⟩ := hq
  have hcm1 := ho1 _ _ _ hcm
  have hpm1 := hop1 _ _ hpm
  refine zy_n 6 (mr := zm_m285) rfl (show _ = some (1874, [(3, .int (Int32.ofNat N)), (2, .ref 55), (1, .ref 0), (0, .retAddr 0)], [.int (Int32.ofNat N + 1), .retAddr 0, .ref 55]) from rfl) ?_
  refine zy_h (mr := zm_m285) rfl rfl (zl_ld (k := 1) hO rfl (by omega) hL) ?_
  refine zy_n 4 (mr := zm_m285) rfl (show _ = some (1879, [(3, .int (Int32.ofNat N)), (2, .ref 55), (1, .ref 0), (0, .retAddr 0)], [.int (Int32.ofNat N + 2), .retAddr 0, .int (xs (N + 1)), .ref 55]) from rfl) ?_
  refine zy_h (mr := zm_m285) rfl rfl (zl_ld (k := 2) hO rfl (by omega) hL) ?_
  refine zy_n 4 (mr := zm_m285) rfl (show _ = some (1884, [(3, .int (Int32.ofNat N)), (2, .ref 55), (1, .ref 0), (0, .retAddr 0)], [.int (Int32.ofNat N + 3), .retAddr 0, .int (xs (N + 2)), .int (xs (N + 1)), .ref 55]) from rfl) ?_
  refine zy_h (mr := zm_m285) rfl rfl (zl_ld (k := 3) hO rfl (by omega) hL) ?_
  refine zy_n 7 (mr := zm_m285) rfl (show _ = some (1893, [(3, .int (Int32.ofNat N)), (2, .ref 55), (1, .ref 0), (0, .retAddr 0)], [.int (Int32.ofNat N + 4), .retAddr 0, .long (((xs (N + 3)).toInt64) <<< ((32 : Int32).toInt64 &&& 63)), .int (xs (N + 2)), .int (xs (N + 1)), .ref 55]) from rfl) ?_
  refine zy_h (mr := zm_m285) rfl rfl (zl_ld (k := 4) hO rfl (by omega) hL) ?_
  refine zy_n 4 (mr := zm_m285) rfl (show _ = some (1900, [(3, .int (Int32.ofNat N)), (2, .ref 55), (1, .ref 0), (0, .retAddr 0)], [.long ((((xs (N + 3)).toInt64) <<< ((32 : Int32).toInt64 &&& 63)) ||| (((xs (N + 4)).toInt64) &&& 4294967295)), .int (xs (N + 2)), .int (xs (N + 1)), .ref 55]) from rfl) ?_
  refine zy_c (mr := zm_m285) (mc := zm_m185) rfl rfl (zl_cm (A := [.int (xs (N + 1)), .int (xs (N + 2)), .long ((((xs (N + 3)).toInt64) <<< ((32 : Int32).toInt64 &&& 63)) ||| (((xs (N + 4)).toInt64) &&& 4294967295))]) hH1 rfl rfl) rfl rfl ?_
  refine ((km τ1 h1 hH1 hX1 hcm1 hpm1).deep (Nat.le_of_ble_eq_true rfl)).mono (fun r h2 hq => ?_)
  obtain ⟨rfl, τ2, hH2, hX2, hW2, ⟨hcm2, hpm2⟩, ho2, hop2⟩ := hq
  have hR2 : xRR τ2 h2 := ⟨wd2, sz2, nm2, pl2, pr2, ho2 _ _ _ hcx1, hcm2, hrl2, hop2 _ _ hpx1, hpm2⟩
  refine zy_n 2 (mr := zm_m285) rfl (show _ = some (1970, [(3, .int (Int32.ofNat N)), (2, .ref 55), (1, .ref 0), (0, .retAddr 0)], []) from rfl) ?_
  exact kk τ2 h2 hH2 hX2 hR2 (by omega)
set_option maxRecDepth 100000 in
theorem zl_45 (hO : og 0 = some (.inl (0, L, .inl xs))) (hL : L ≤ 3584) (hN : N + 6 < L) (hH : xHI xKT xSG τ h) (hX : xX τ h) (hR : xRR τ h) (kk : ∀ (τ1 : List Nat) (h1 : zm_H), xHI xKT xSG τ1 h1 → xX τ1 h1 → xRR τ1 h1 → xW h1 ≤ xW h + 3734 → zm_Y og 60 285 1970 [(3, .int (Int32.ofNat N)), (2, .ref 55), (1, .ref 0), (0, .retAddr 0)] [] h1 Q) : zm_Y og 60 285 1907 [(3, .int (Int32.ofNat N)), (2, .ref 55), (1, .ref 0), (0, .retAddr 0)] [] h Q := by
  refine zy_n 5 (mr := zm_m285) rfl (show _ = some (1912, [(3, .int (Int32.ofNat N)), (2, .ref 55), (1, .ref 0), (0, .retAddr 0)], [.int (Int32.ofNat N + 1), .retAddr 0, .ref 0]) from rfl) ?_
  refine zy_h (mr := zm_m285) rfl rfl (zl_ld (k := 1) hO rfl (by omega) hL) ?_
  refine zy_n 4 (mr := zm_m285) rfl (show _ = some (1917, [(3, .int (Int32.ofNat N)), (2, .ref 55), (1, .ref 0), (0, .retAddr 0)], [.int (Int32.ofNat N + 2), .retAddr 0, .int (xs (N + 1)), .ref 0]) from rfl) ?_
  refine zy_h (mr := zm_m285) rfl rfl (zl_ld (k := 2) hO rfl (by omega) hL) ?_
  refine zy_n 4 (mr := zm_m285) rfl (show _ = some (1922, [(3, .int (Int32.ofNat N)), (2, .ref 55), (1, .ref 0), (0, .retAddr 0)], [.int (Int32.ofNat N + 3), .retAddr 0, .int (xs (N + 2)), .int (xs (N + 1)), .ref 0]) from rfl) ?_
  refine zy_h (mr := zm_m285) rfl rfl (zl_ld (k := 3) hO rfl (by omega) hL) ?_
  refine zy_n 4 (mr := zm_m285) rfl (show _ = some (1927, [(3, .int (Int32.ofNat N)), (2, .ref 55), (1, .ref 0), (0, .retAddr 0)], [.int (Int32.ofNat N + 4), .retAddr 0, .int (xs (N + 3)), .int (xs (N + 2)), .int (xs (N + 1)), .ref 0]) from rfl) ?_
  refine zy_h (mr := zm_m285) rfl rfl (zl_ld (k := 4) hO rfl (by omega) hL) ?_
  refine zy_n 4 (mr := zm_m285) rfl (show _ = some (1932, [(3, .int (Int32.ofNat N)), (2, .ref 55), (1, .ref 0), (0, .retAddr 0)], [.int (Int32.ofNat N + 5), .retAddr 0, .int (xs (N + 4)), .int (xs (N + 3)), .int (xs (N + 2)), .int (xs (N + 1)), .ref 0]) from rfl) ?_
  refine zy_h (mr := zm_m285) rfl rfl (zl_ld (k := 5) hO rfl (by omega) hL) ?_
  refine zy_c (mr := zm_m285) (mc := zm_m178) rfl rfl (zl_cx (A := [.int (xs (N + 1)), .int (xs (N + 2)), .int (xs (N + 3)), .int (xs (N + 4)), .int (xs (N + 5))]) hH rfl rfl) rfl rfl ?_
  obtain ⟨wd, sz, nm, pl, pr, hcx, hcm, hrl, hpx, hpm⟩ := hR
  obtain ⟨x, wd2, sz2, nm2, pl2, pr2, hrl2, kx, km⟩ := xr_paste (og := og) (pr := pr) ((xs (N + 1))) ((xs (N + 2))) ((xs (N + 3))) ((xs (N + 4))) ((xs (N + 5))) (fun j hj => xrw hH hcx hj) hrl
  refine ((kx τ h hH hX hcx hpx).deep (Nat.le_of_ble_eq_true rfl)).mono (fun r h1 hq => ?_)
  obtain ⟨rfl, τ1, hH1, hX1, hW1, ⟨hcx1, hpx1⟩, ho1, hop1⟩ := hq
  have hcm1 := ho1 _ _ _ hcm
  have hpm1 := hop1 _ _ hpm
  refine zy_n 6 (mr := zm_m285) rfl (show _ = some (1942, [(3, .int (Int32.ofNat N)), (2, .ref 55), (1, .ref 0), (0, .retAddr 0)], [.int (Int32.ofNat N + 1), .retAddr 0, .ref 55]) from rfl) ?_
  refine zy_h (mr := zm_m285) rfl rfl (zl_ld (k := 1) hO rfl (by omega) hL) ?_
  refine zy_n 4 (mr := zm_m285) rfl (show _ = some (1947, [(3, .int (Int32.ofNat N)), (2, .ref 55), (1, .ref 0), (0, .retAddr 0)], [.int (Int32.ofNat N + 2), .retAddr 0, .int (xs (N + 1)), .ref 55]) from rfl) ?_
  refine zy_h (mr := zm_m285) rfl rfl (zl_ld (k := 2) hO rfl (by omega) hL) ?_
  refine zy_n 4 (mr := zm_m285) rfl (show _ = some (1952, [(3, .int (Int32.ofNat N)), (2, .ref 55), (1, .ref 0), (0, .retAddr 0)], [.int (Int32.ofNat N + 3), .retAddr 0, .int (xs (N + 2)), .int (xs (N + 1)), .ref 55]) from rfl) ?_
  refine zy_h (mr := zm_m285) rfl rfl (zl_ld (k := 3) hO rfl (by omega) hL) ?_
  refine zy_n 4 (mr := zm_m285) rfl (show _ = some (1957, [(3, .int (Int32.ofNat N)), (2, .ref 55), (1, .ref 0), (0, .retAddr 0)], [.int (Int32.ofNat N + 4), .retAddr 0, .int (xs (N + 3)), .int (xs (N + 2)), .int (xs (N + 1)), .ref 55]) from rfl) ?_
  refine zy_h (mr := zm_m285) rfl rfl (zl_ld (k := 4) hO rfl (by omega) hL) ?_
  refine zy_n 4 (mr := zm_m285) rfl (show _ = some (1962, [(3, .int (Int32.ofNat N)), (2, .ref 55), (1, .ref 0), (0, .retAddr 0)], [.int (Int32.ofNat N + 5), .retAddr 0, .int (xs (N + 4)), .int (xs (N + 3)), .int (xs (N + 2)), .int (xs (N + 1)), .ref 55]) from rfl) ?_
  refine zy_h (mr := zm_m285) rfl rfl (zl_ld (k := 5) hO rfl (by omega) hL) ?_
  refine zy_c (mr := zm_m285) (mc := zm_m187) rfl rfl (zl_cm (A := [.int (xs (N + 1)), .int (xs (N + 2)), .int (xs (N + 3)), .int (xs (N + 4)), .int (xs (N + 5))]) hH1 rfl rfl) rfl rfl ?_
  refine ((km τ1 h1 hH1 hX1 hcm1 hpm1).deep (Nat.le_of_ble_eq_true rfl)).mono (fun r h2 hq => ?_)
  obtain ⟨rfl, τ2, hH2, hX2, hW2, ⟨hcm2, hpm2⟩, ho2, hop2⟩ := hq
  have hR2 : xRR τ2 h2 := ⟨wd2, sz2, nm2, pl2, pr2, ho2 _ _ _ hcx1, hcm2, hrl2, hop2 _ _ hpx1, hpm2⟩
  refine zy_n 2 (mr := zm_m285) rfl (show _ = some (1970, [(3, .int (Int32.ofNat N)), (2, .ref 55), (1, .ref 0), (0, .retAddr 0)], []) from rfl) ?_
  exact kk τ2 h2 hH2 hX2 hR2 (by omega)
end ZLW
