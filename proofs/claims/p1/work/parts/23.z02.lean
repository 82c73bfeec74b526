set_option maxHeartbeats 4000000 in
set_option maxRecDepth 20000 in
theorem zz_36 {og : Nat → Option zm_C} {xs : Nat → Int32} {h : zm_H} (hO : og 0 = some (.inl (0, 7, .inl xs))) (F : zp_ck h = true) : zm_Y og 60 285 1595 [(3, .int 0), (2, .ref 55), (1, .ref 0), (0, .retAddr 0)] [] h (fun r h1 => r = some (.int 1) ∧ h1.length ≤ 600000 ∧ zm_szs h1 ≤ 7302249) := by
  refine zy_n 5 (mr := zm_m285) (pc' := 1600) (ls' := [(3, .int 0), (2, .ref 55), (1, .ref 0), (0, .retAddr 0)]) (st' := [.int 1, .retAddr 0, .ref 0]) rfl rfl ?_
  refine zy_h (mr := zm_m285) rfl rfl (zh_ialdO (v := xs 1) hO (by decide) rfl) ?_
  refine zy_n 4 (mr := zm_m285) (pc' := 1605) (ls' := [(3, .int 0), (2, .ref 55), (1, .ref 0), (0, .retAddr 0)]) (st' := [.int 2, .retAddr 0, .int (xs 1), .ref 0]) rfl rfl ?_
  refine zy_h (mr := zm_m285) rfl rfl (zh_ialdO (v := xs 2) hO (by decide) rfl) ?_
  refine zy_c (mc := zm_m160) (mr := zm_m285) rfl rfl (zh_v rfl (zp_o F 0 rfl) rfl) rfl rfl (zm_Y.mono ((zx_36 F (xs 1) (xs 2)).deep (by decide)) ?_)
  rintro r h1 ⟨⟨v, rfl, hv⟩, K, KL, KS⟩
  refine zy_n 5 (mr := zm_m285) (pc' := 1614) (ls' := [(3, .int 0), (2, .ref 55), (1, .ref 0), (0, .retAddr 0)]) (st' := [.int 1, .retAddr 0, .ref 55, .long v]) rfl rfl ?_
  refine zy_h (mr := zm_m285) rfl rfl (zh_ialdO (v := xs 1) hO (by decide) rfl) ?_
  refine zy_n 4 (mr := zm_m285) (pc' := 1619) (ls' := [(3, .int 0), (2, .ref 55), (1, .ref 0), (0, .retAddr 0)]) (st' := [.int 2, .retAddr 0, .int (xs 1), .ref 55, .long v]) rfl rfl ?_
  refine zy_h (mr := zm_m285) rfl rfl (zh_ialdO (v := xs 2) hO (by decide) rfl) ?_
  refine zy_c (mc := zm_m279) (mr := zm_m285) rfl rfl (zh_v rfl ((K 55 (by decide) (by decide)).trans (zp_o F 10 rfl)) rfl) rfl rfl (zm_Y.mono ((zn_36 F K KL KS (xs 1) (xs 2)).deep (by decide)) ?_)
  rintro r h2 ⟨⟨w, rfl, hw⟩, KL2, KS2⟩
  have e : v = w := zg_36 hv hw
  subst e
  refine zy_n 1 (mr := zm_m285) (pc' := 1624) (ls' := [(3, .int 0), (2, .ref 55), (1, .ref 0), (0, .retAddr 0)]) (st' := [.int (lg_cmp v v)]) rfl rfl ?_
  refine zy_b (mr := zm_m285) rfl rfl rfl (zi_eq (fun _ => ?_) (fun hc => absurd ((lg_cmp_eq v v).mpr rfl) hc))
  refine zy_n 4 (mr := zm_m285) (pc' := 20) (ls' := [(3, .int 7), (2, .ref 55), (1, .ref 0), (0, .retAddr 0)]) (st' := [.retAddr 0, .int 7]) rfl rfl ?_
  refine zy_h (q := (.int 7 :: [.int 7], _)) (mr := zm_m285) rfl rfl (zh_alenO hO) ?_
  refine zy_n 2 (mr := zm_m285) (pc' := 24) (ls' := [(3, .int 7), (2, .ref 55), (1, .ref 0), (0, .retAddr 0)]) (st' := [.int 0, .int 7]) rfl rfl ?_
  refine zy_b (q := (1983, [])) (mr := zm_m285) rfl rfl rfl ?_
  refine zy_n 1 (mr := zm_m285) (pc' := 1984) (ls' := [(3, .int 7), (2, .ref 55), (1, .ref 0), (0, .retAddr 0)]) (st' := [.int 1]) rfl rfl ?_
  refine zy_r (mr := zm_m285) rfl rfl rfl ?_
  exact ⟨rfl, Nat.le_trans KL2 (by decide), Nat.le_trans KS2 (by decide)⟩
set_option maxHeartbeats 4000000 in
set_option maxRecDepth 20000 in
theorem zz_37 {og : Nat → Option zm_C} {xs : Nat → Int32} {h : zm_H} (hO : og 0 = some (.inl (0, 7, .inl xs))) (F : zp_ck h = true) : zm_Y og 60 285 1629 [(3, .int 0), (2, .ref 55), (1, .ref 0), (0, .retAddr 0)] [] h (fun r h1 => r = some (.int 1) ∧ h1.length ≤ 600000 ∧ zm_szs h1 ≤ 7302249) := by
  refine zy_n 5 (mr := zm_m285) (pc' := 1634) (ls' := [(3, .int 0), (2, .ref 55), (1, .ref 0), (0, .retAddr 0)]) (st' := [.int 1, .retAddr 0, .ref 0]) rfl rfl ?_
  refine zy_h (mr := zm_m285) rfl rfl (zh_ialdO (v := xs 1) hO (by decide) rfl) ?_
  refine zy_c (mc := zm_m163) (mr := zm_m285) rfl rfl (zh_v rfl (zp_o F 0 rfl) rfl) rfl rfl (zm_Y.mono ((zx_37 F (xs 1)).deep (by decide)) ?_)
  rintro r h1 ⟨⟨v, rfl, hv⟩, K, KL, KS⟩
  refine zy_n 5 (mr := zm_m285) (pc' := 1643) (ls' := [(3, .int 0), (2, .ref 55), (1, .ref 0), (0, .retAddr 0)]) (st' := [.int 1, .retAddr 0, .ref 55, .int v]) rfl rfl ?_
  refine zy_h (mr := zm_m285) rfl rfl (zh_ialdO (v := xs 1) hO (by decide) rfl) ?_
  refine zy_c (mc := zm_m280) (mr := zm_m285) rfl rfl (zh_v rfl ((K 55 (by decide) (by decide)).trans (zp_o F 10 rfl)) rfl) rfl rfl (zm_Y.mono ((zn_37 F K KL KS (xs 1)).deep (by decide)) ?_)
  rintro r h2 ⟨⟨w, rfl, hw⟩, KL2, KS2⟩
  have e : v = w := zg_37 hv hw
  subst e
  refine zy_b (mr := zm_m285) rfl rfl rfl (zc_eq (fun _ => ?_) (fun hc => absurd rfl hc))
  refine zy_n 4 (mr := zm_m285) (pc' := 20) (ls' := [(3, .int 7), (2, .ref 55), (1, .ref 0), (0, .retAddr 0)]) (st' := [.retAddr 0, .int 7]) rfl rfl ?_
  refine zy_h (q := (.int 7 :: [.int 7], _)) (mr := zm_m285) rfl rfl (zh_alenO hO) ?_
  refine zy_n 2 (mr := zm_m285) (pc' := 24) (ls' := [(3, .int 7), (2, .ref 55), (1, .ref 0), (0, .retAddr 0)]) (st' := [.int 0, .int 7]) rfl rfl ?_
  refine zy_b (q := (1983, [])) (mr := zm_m285) rfl rfl rfl ?_
  refine zy_n 1 (mr := zm_m285) (pc' := 1984) (ls' := [(3, .int 7), (2, .ref 55), (1, .ref 0), (0, .retAddr 0)]) (st' := [.int 1]) rfl rfl ?_
  refine zy_r (mr := zm_m285) rfl rfl rfl ?_
  exact ⟨rfl, Nat.le_trans KL2 (by decide), Nat.le_trans KS2 (by decide)⟩
set_option maxHeartbeats 4000000 in
set_option maxRecDepth 20000 in
theorem zz_38 {og : Nat → Option zm_C} {xs : Nat → Int32} {h : zm_H} (hO : og 0 = some (.inl (0, 7, .inl xs))) (F : zp_ck h = true) : zm_Y og 60 285 1652 [(3, .int 0), (2, .ref 55), (1, .ref 0), (0, .retAddr 0)] [] h (fun r h1 => r = some (.int 1) ∧ h1.length ≤ 600000 ∧ zm_szs h1 ≤ 7302249) := by
  refine zy_n 5 (mr := zm_m285) (pc' := 1657) (ls' := [(3, .int 0), (2, .ref 55), (1, .ref 0), (0, .retAddr 0)]) (st' := [.int 1, .retAddr 0, .ref 0]) rfl rfl ?_
  refine zy_h (mr := zm_m285) rfl rfl (zh_ialdO (v := xs 1) hO (by decide) rfl) ?_
  refine zy_n 4 (mr := zm_m285) (pc' := 1662) (ls' := [(3, .int 0), (2, .ref 55), (1, .ref 0), (0, .retAddr 0)]) (st' := [.int 2, .retAddr 0, .int (xs 1), .ref 0]) rfl rfl ?_
  refine zy_h (mr := zm_m285) rfl rfl (zh_ialdO (v := xs 2) hO (by decide) rfl) ?_
  refine zy_c (mc := zm_m164) (mr := zm_m285) rfl rfl (zh_v rfl (zp_o F 0 rfl) rfl) rfl rfl (zm_Y.mono ((zx_38 F (xs 1) (xs 2)).deep (by decide)) ?_)
  rintro r h1 ⟨⟨v, rfl, hv⟩, K, KL, KS⟩
  refine zy_n 5 (mr := zm_m285) (pc' := 1671) (ls' := [(3, .int 0), (2, .ref 55), (1, .ref 0), (0, .retAddr 0)]) (st' := [.int 1, .retAddr 0, .ref 55, .int v]) rfl rfl ?_
  refine zy_h (mr := zm_m285) rfl rfl (zh_ialdO (v := xs 1) hO (by decide) rfl) ?_
  refine zy_n 4 (mr := zm_m285) (pc' := 1676) (ls' := [(3, .int 0), (2, .ref 55), (1, .ref 0), (0, .retAddr 0)]) (st' := [.int 2, .retAddr 0, .int (xs 1), .ref 55, .int v]) rfl rfl ?_
  refine zy_h (mr := zm_m285) rfl rfl (zh_ialdO (v := xs 2) hO (by decide) rfl) ?_
  refine zy_c (mc := zm_m281) (mr := zm_m285) rfl rfl (zh_v rfl ((K 55 (by decide) (by decide)).trans (zp_o F 10 rfl)) rfl) rfl rfl (zm_Y.mono ((zn_38 F K KL KS (xs 1) (xs 2)).deep (by decide)) ?_)
  rintro r h2 ⟨⟨w, rfl, hw⟩, KL2, KS2⟩
  have e : v = w := zg_38 hv hw
  subst e
  refine zy_b (mr := zm_m285) rfl rfl rfl (zc_eq (fun _ => ?_) (fun hc => absurd rfl hc))
  refine zy_n 4 (mr := zm_m285) (pc' := 20) (ls' := [(3, .int 7), (2, .ref 55), (1, .ref 0), (0, .retAddr 0)]) (st' := [.retAddr 0, .int 7]) rfl rfl ?_
  refine zy_h (q := (.int 7 :: [.int 7], _)) (mr := zm_m285) rfl rfl (zh_alenO hO) ?_
  refine zy_n 2 (mr := zm_m285) (pc' := 24) (ls' := [(3, .int 7), (2, .ref 55), (1, .ref 0), (0, .retAddr 0)]) (st' := [.int 0, .int 7]) rfl rfl ?_
  refine zy_b (q := (1983, [])) (mr := zm_m285) rfl rfl rfl ?_
  refine zy_n 1 (mr := zm_m285) (pc' := 1984) (ls' := [(3, .int 7), (2, .ref 55), (1, .ref 0), (0, .retAddr 0)]) (st' := [.int 1]) rfl rfl ?_
  refine zy_r (mr := zm_m285) rfl rfl rfl ?_
  exact ⟨rfl, Nat.le_trans KL2 (by decide), Nat.le_trans KS2 (by decide)⟩
set_option maxHeartbeats 4000000 in
set_option maxRecDepth 20000 in
theorem zz_39 {og : Nat → Option zm_C} {xs : Nat → Int32} {h : zm_H} (hO : og 0 = some (.inl (0, 7, .inl xs))) (F : zp_ck h = true) : zm_Y og 60 285 1685 [(3, .int 0), (2, .ref 55), (1, .ref 0), (0, .retAddr 0)] [] h (fun r h1 => r = some (.int 1) ∧ h1.length ≤ 600000 ∧ zm_szs h1 ≤ 7302249) := by
  refine zy_n 5 (mr := zm_m285) (pc' := 1690) (ls' := [(3, .int 0), (2, .ref 55), (1, .ref 0), (0, .retAddr 0)]) (st' := [.int 1, .retAddr 0, .ref 0]) rfl rfl ?_
  refine zy_h (mr := zm_m285) rfl rfl (zh_ialdO (v := xs 1) hO (by decide) rfl) ?_
  refine zy_n 4 (mr := zm_m285) (pc' := 1695) (ls' := [(3, .int 0), (2, .ref 55), (1, .ref 0), (0, .retAddr 0)]) (st' := [.int 2, .retAddr 0, .int (xs 1), .ref 0]) rfl rfl ?_
  refine zy_h (mr := zm_m285) rfl rfl (zh_ialdO (v := xs 2) hO (by decide) rfl) ?_
  refine zy_n 4 (mr := zm_m285) (pc' := 1700) (ls' := [(3, .int 0), (2, .ref 55), (1, .ref 0), (0, .retAddr 0)]) (st' := [.int 3, .retAddr 0, .int (xs 2), .int (xs 1), .ref 0]) rfl rfl ?_
  refine zy_h (mr := zm_m285) rfl rfl (zh_ialdO (v := xs 3) hO (by decide) rfl) ?_
  refine zy_c (mc := zm_m166) (mr := zm_m285) rfl rfl (zh_v rfl (zp_o F 0 rfl) rfl) rfl rfl (zm_Y.mono ((zx_39 F (xs 1) (xs 2) (xs 3)).deep (by decide)) ?_)
  rintro r h1 ⟨⟨v, rfl, hv⟩, K, KL, KS⟩
  refine zy_n 5 (mr := zm_m285) (pc' := 1709) (ls' := [(3, .int 0), (2, .ref 55), (1, .ref 0), (0, .retAddr 0)]) (st' := [.int 1, .retAddr 0, .ref 55, .int v]) rfl rfl ?_
  refine zy_h (mr := zm_m285) rfl rfl (zh_ialdO (v := xs 1) hO (by decide) rfl) ?_
  refine zy_n 4 (mr := zm_m285) (pc' := 1714) (ls' := [(3, .int 0), (2, .ref 55), (1, .ref 0), (0, .retAddr 0)]) (st' := [.int 2, .retAddr 0, .int (xs 1), .ref 55, .int v]) rfl rfl ?_
  refine zy_h (mr := zm_m285) rfl rfl (zh_ialdO (v := xs 2) hO (by decide) rfl) ?_
  refine zy_n 4 (mr := zm_m285) (pc' := 1719) (ls' := [(3, .int 0), (2, .ref 55), (1, .ref 0), (0, .retAddr 0)]) (st' := [.int 3, .retAddr 0, .int (xs 2), .int (xs 1), .ref 55, .int v]) rfl rfl ?_
  refine zy_h (mr := zm_m285) rfl rfl (zh_ialdO (v := xs 3) hO (by decide) rfl) ?_
  refine zy_c (mc := zm_m282) (mr := zm_m285) rfl rfl (zh_v rfl ((K 55 (by decide) (by decide)).trans (zp_o F 10 rfl)) rfl) rfl rfl (zm_Y.mono ((zn_39 F K KL KS (xs 1) (xs 2) (xs 3)).deep (by decide)) ?_)
  rintro r h2 ⟨⟨w, rfl, hw⟩, KL2, KS2⟩
  have e : v = w := zg_39 hv hw
  subst e
  refine zy_b (mr := zm_m285) rfl rfl rfl (zc_eq (fun _ => ?_) (fun hc => absurd rfl hc))
  refine zy_n 4 (mr := zm_m285) (pc' := 20) (ls' := [(3, .int 7), (2, .ref 55), (1, .ref 0), (0, .retAddr 0)]) (st' := [.retAddr 0, .int 7]) rfl rfl ?_
  refine zy_h (q := (.int 7 :: [.int 7], _)) (mr := zm_m285) rfl rfl (zh_alenO hO) ?_
  refine zy_n 2 (mr := zm_m285) (pc' := 24) (ls' := [(3, .int 7), (2, .ref 55), (1, .ref 0), (0, .retAddr 0)]) (st' := [.int 0, .int 7]) rfl rfl ?_
  refine zy_b (q := (1983, [])) (mr := zm_m285) rfl rfl rfl ?_
  refine zy_n 1 (mr := zm_m285) (pc' := 1984) (ls' := [(3, .int 7), (2, .ref 55), (1, .ref 0), (0, .retAddr 0)]) (st' := [.int 1]) rfl rfl ?_
  refine zy_r (mr := zm_m285) rfl rfl rfl ?_
  exact ⟨rfl, Nat.le_trans KL2 (by decide), Nat.le_trans KS2 (by decide)⟩
set_option maxHeartbeats 4000000 in
set_option maxRecDepth 20000 in
theorem zz_40 {og : Nat → Option zm_C} {xs : Nat → Int32} {h : zm_H} (hO : og 0 = some (.inl (0, 7, .inl xs))) (F : zp_ck h = true) : zm_Y og 60 285 1728 [(3, .int 0), (2, .ref 55), (1, .ref 0), (0, .retAddr 0)] [] h (fun r h1 => r = some (.int 1) ∧ h1.length ≤ 600000 ∧ zm_szs h1 ≤ 7302249) := by
  refine zy_n 5 (mr := zm_m285) (pc' := 1733) (ls' := [(3, .int 0), (2, .ref 55), (1, .ref 0), (0, .retAddr 0)]) (st' := [.int 1, .retAddr 0, .ref 0]) rfl rfl ?_
  refine zy_h (mr := zm_m285) rfl rfl (zh_ialdO (v := xs 1) hO (by decide) rfl) ?_
  refine zy_c (mc := zm_m168) (mr := zm_m285) rfl rfl (zh_v rfl (zp_o F 0 rfl) rfl) rfl rfl (zm_Y.mono ((zx_40 F (xs 1)).deep (by decide)) ?_)
  rintro r h1 ⟨⟨v, rfl, hv⟩, K, KL, KS⟩
  refine zy_n 5 (mr := zm_m285) (pc' := 1742) (ls' := [(3, .int 0), (2, .ref 55), (1, .ref 0), (0, .retAddr 0)]) (st' := [.int 1, .retAddr 0, .ref 55, .long v]) rfl rfl ?_
  refine zy_h (mr := zm_m285) rfl rfl (zh_ialdO (v := xs 1) hO (by decide) rfl) ?_
  refine zy_c (mc := zm_m283) (mr := zm_m285) rfl rfl (zh_v rfl ((K 55 (by decide) (by decide)).trans (zp_o F 10 rfl)) rfl) rfl rfl (zm_Y.mono ((zn_40 F K KL KS (xs 1)).deep (by decide)) ?_)
  rintro r h2 ⟨⟨w, rfl, hw⟩, KL2, KS2⟩
  have e : v = w := zg_40 hv hw
  subst e
  refine zy_n 1 (mr := zm_m285) (pc' := 1747) (ls' := [(3, .int 0), (2, .ref 55), (1, .ref 0), (0, .retAddr 0)]) (st' := [.int (lg_cmp v v)]) rfl rfl ?_
  refine zy_b (mr := zm_m285) rfl rfl rfl (zi_eq (fun _ => ?_) (fun hc => absurd ((lg_cmp_eq v v).mpr rfl) hc))
  refine zy_n 4 (mr := zm_m285) (pc' := 20) (ls' := [(3, .int 7), (2, .ref 55), (1, .ref 0), (0, .retAddr 0)]) (st' := [.retAddr 0, .int 7]) rfl rfl ?_
  refine zy_h (q := (.int 7 :: [.int 7], _)) (mr := zm_m285) rfl rfl (zh_alenO hO) ?_
  refine zy_n 2 (mr := zm_m285) (pc' := 24) (ls' := [(3, .int 7), (2, .ref 55), (1, .ref 0), (0, .retAddr 0)]) (st' := [.int 0, .int 7]) rfl rfl ?_
  refine zy_b (q := (1983, [])) (mr := zm_m285) rfl rfl rfl ?_
  refine zy_n 1 (mr := zm_m285) (pc' := 1984) (ls' := [(3, .int 7), (2, .ref 55), (1, .ref 0), (0, .retAddr 0)]) (st' := [.int 1]) rfl rfl ?_
  refine zy_r (mr := zm_m285) rfl rfl rfl ?_
  exact ⟨rfl, Nat.le_trans KL2 (by decide), Nat.le_trans KS2 (by decide)⟩
set_option maxHeartbeats 4000000 in
set_option maxRecDepth 20000 in
theorem zz_41 {og : Nat → Option zm_C} {xs : Nat → Int32} {h : zm_H} (hO : og 0 = some (.inl (0, 7, .inl xs))) (F : zp_ck h = true) : zm_Y og 60 285 1752 [(3, .int 0), (2, .ref 55), (1, .ref 0), (0, .retAddr 0)] [] h (fun r h1 => r = some (.int 1) ∧ h1.length ≤ 600000 ∧ zm_szs h1 ≤ 7302249) := by
  refine zy_n 5 (mr := zm_m285) (pc' := 1757) (ls' := [(3, .int 0), (2, .ref 55), (1, .ref 0), (0, .retAddr 0)]) (st' := [.int 1, .retAddr 0, .ref 0]) rfl rfl ?_
  refine zy_h (mr := zm_m285) rfl rfl (zh_ialdO (v := xs 1) hO (by decide) rfl) ?_
  refine zy_c (mc := zm_m169) (mr := zm_m285) rfl rfl (zh_v rfl (zp_o F 0 rfl) rfl) rfl rfl (zm_Y.mono ((zx_41 F (xs 1)).deep (by decide)) ?_)
  rintro r h1 ⟨⟨v, rfl, hv⟩, K, KL, KS⟩
  refine zy_n 5 (mr := zm_m285) (pc' := 1766) (ls' := [(3, .int 0), (2, .ref 55), (1, .ref 0), (0, .retAddr 0)]) (st' := [.int 1, .retAddr 0, .ref 55, .int v]) rfl rfl ?_
  refine zy_h (mr := zm_m285) rfl rfl (zh_ialdO (v := xs 1) hO (by decide) rfl) ?_
  refine zy_c (mc := zm_m284) (mr := zm_m285) rfl rfl (zh_v rfl ((K 55 (by decide) (by decide)).trans (zp_o F 10 rfl)) rfl) rfl rfl (zm_Y.mono ((zn_41 F K KL KS (xs 1)).deep (by decide)) ?_)
  rintro r h2 ⟨⟨w, rfl, hw⟩, KL2, KS2⟩
  have e : v = w := zg_41 hv hw
  subst e
  refine zy_b (mr := zm_m285) rfl rfl rfl (zc_eq (fun _ => ?_) (fun hc => absurd rfl hc))
  refine zy_n 4 (mr := zm_m285) (pc' := 20) (ls' := [(3, .int 7), (2, .ref 55), (1, .ref 0), (0, .retAddr 0)]) (st' := [.retAddr 0, .int 7]) rfl rfl ?_
  refine zy_h (q := (.int 7 :: [.int 7], _)) (mr := zm_m285) rfl rfl (zh_alenO hO) ?_
  refine zy_n 2 (mr := zm_m285) (pc' := 24) (ls' := [(3, .int 7), (2, .ref 55), (1, .ref 0), (0, .retAddr 0)]) (st' := [.int 0, .int 7]) rfl rfl ?_
  refine zy_b (q := (1983, [])) (mr := zm_m285) rfl rfl rfl ?_
  refine zy_n 1 (mr := zm_m285) (pc' := 1984) (ls' := [(3, .int 7), (2, .ref 55), (1, .ref 0), (0, .retAddr 0)]) (st' := [.int 1]) rfl rfl ?_
  refine zy_r (mr := zm_m285) rfl rfl rfl ?_
  exact ⟨rfl, Nat.le_trans KL2 (by decide), Nat.le_trans KS2 (by decide)⟩
set_option maxHeartbeats 4000000 in
set_option maxRecDepth 20000 in
theorem zz_42 {og : Nat → Option zm_C} {xs : Nat → Int32} {h : zm_H} (hO : og 0 = some (.inl (0, 7, .inl xs))) (F : zp_ck h = true) : zm_Y og 60 285 1775 [(3, .int 0), (2, .ref 55), (1, .ref 0), (0, .retAddr 0)] [] h (fun r h1 => r = some (.int 1) ∧ h1.length ≤ 600000 ∧ zm_szs h1 ≤ 7302249) := by
  refine zy_n 5 (mr := zm_m285) (pc' := 1780) (ls' := [(3, .int 0), (2, .ref 55), (1, .ref 0), (0, .retAddr 0)]) (st' := [.int 1, .retAddr 0, .ref 0]) rfl rfl ?_
  refine zy_h (mr := zm_m285) rfl rfl (zh_ialdO (v := xs 1) hO (by decide) rfl) ?_
  refine zy_n 4 (mr := zm_m285) (pc' := 1785) (ls' := [(3, .int 0), (2, .ref 55), (1, .ref 0), (0, .retAddr 0)]) (st' := [.int 2, .retAddr 0, .int (xs 1), .ref 0]) rfl rfl ?_
  refine zy_h (mr := zm_m285) rfl rfl (zh_ialdO (v := xs 2) hO (by decide) rfl) ?_
  refine zy_n 4 (mr := zm_m285) (pc' := 1790) (ls' := [(3, .int 0), (2, .ref 55), (1, .ref 0), (0, .retAddr 0)]) (st' := [.int 3, .retAddr 0, .int (xs 2), .int (xs 1), .ref 0]) rfl rfl ?_
  refine zy_h (mr := zm_m285) rfl rfl (zh_ialdO (v := xs 3) hO (by decide) rfl) ?_
  refine zy_c (mc := zm_m173) (mr := zm_m285) rfl rfl (zh_v rfl (zp_o F 0 rfl) rfl) rfl rfl (zm_Y.mono ((zx_42 F (xs 1) (xs 2) (xs 3)).deep (by decide)) ?_)
  rintro r h1 ⟨⟨v, rfl, hv⟩, K, KL, KS⟩
  refine zy_n 5 (mr := zm_m285) (pc' := 1799) (ls' := [(3, .int 0), (2, .ref 55), (1, .ref 0), (0, .retAddr 0)]) (st' := [.int 1, .retAddr 0, .ref 55, .int v]) rfl rfl ?_
  refine zy_h (mr := zm_m285) rfl rfl (zh_ialdO (v := xs 1) hO (by decide) rfl) ?_
  refine zy_n 4 (mr := zm_m285) (pc' := 1804) (ls' := [(3, .int 0), (2, .ref 55), (1, .ref 0), (0, .retAddr 0)]) (st' := [.int 2, .retAddr 0, .int (xs 1), .ref 55, .int v]) rfl rfl ?_
  refine zy_h (mr := zm_m285) rfl rfl (zh_ialdO (v := xs 2) hO (by decide) rfl) ?_
  refine zy_n 4 (mr := zm_m285) (pc' := 1809) (ls' := [(3, .int 0), (2, .ref 55), (1, .ref 0), (0, .retAddr 0)]) (st' := [.int 3, .retAddr 0, .int (xs 2), .int (xs 1), .ref 55, .int v]) rfl rfl ?_
  refine zy_h (mr := zm_m285) rfl rfl (zh_ialdO (v := xs 3) hO (by decide) rfl) ?_
  refine zy_c (mc := zm_m181) (mr := zm_m285) rfl rfl (zh_v rfl ((K 55 (by decide) (by decide)).trans (zp_o F 10 rfl)) rfl) rfl rfl (zm_Y.mono ((zn_42 F K KL KS (xs 1) (xs 2) (xs 3)).deep (by decide)) ?_)
  rintro r h2 ⟨⟨w, rfl, hw⟩, KL2, KS2⟩
  have e : v = w := zg_42 hv hw
  subst e
  refine zy_b (mr := zm_m285) rfl rfl rfl (zc_eq (fun _ => ?_) (fun hc => absurd rfl hc))
  refine zy_n 4 (mr := zm_m285) (pc' := 20) (ls' := [(3, .int 7), (2, .ref 55), (1, .ref 0), (0, .retAddr 0)]) (st' := [.retAddr 0, .int 7]) rfl rfl ?_
  refine zy_h (q := (.int 7 :: [.int 7], _)) (mr := zm_m285) rfl rfl (zh_alenO hO) ?_
  refine zy_n 2 (mr := zm_m285) (pc' := 24) (ls' := [(3, .int 7), (2, .ref 55), (1, .ref 0), (0, .retAddr 0)]) (st' := [.int 0, .int 7]) rfl rfl ?_
  refine zy_b (q := (1983, [])) (mr := zm_m285) rfl rfl rfl ?_
  refine zy_n 1 (mr := zm_m285) (pc' := 1984) (ls' := [(3, .int 7), (2, .ref 55), (1, .ref 0), (0, .retAddr 0)]) (st' := [.int 1]) rfl rfl ?_
  refine zy_r (mr := zm_m285) rfl rfl rfl ?_
  exact ⟨rfl, Nat.le_trans KL2 (by decide), Nat.le_trans KS2 (by decide)⟩
set_option maxHeartbeats 4000000 in
set_option maxRecDepth 20000 in
theorem zz_43 {og : Nat → Option zm_C} {xs : Nat → Int32} {h : zm_H} (hO : og 0 = some (.inl (0, 7, .inl xs))) (F : zp_ck h = true) : zm_Y og 60 285 1818 [(3, .int 0), (2, .ref 55), (1, .ref 0), (0, .retAddr 0)] [] h (fun r h1 => r = some (.int 1) ∧ h1.length ≤ 600000 ∧ zm_szs h1 ≤ 7302249) := by
  refine zy_n 5 (mr := zm_m285) (pc' := 1823) (ls' := [(3, .int 0), (2, .ref 55), (1, .ref 0), (0, .retAddr 0)]) (st' := [.int 1, .retAddr 0, .ref 0]) rfl rfl ?_
  refine zy_h (mr := zm_m285) rfl rfl (zh_ialdO (v := xs 1) hO (by decide) rfl) ?_
  refine zy_c (mc := zm_m175) (mr := zm_m285) rfl rfl (zh_v rfl (zp_o F 0 rfl) rfl) rfl rfl (zm_Y.mono ((zx_43 F (xs 1)).deep (by decide)) ?_)
  rintro r h1 ⟨⟨v, rfl, hv⟩, K, KL, KS⟩
  refine zy_n 5 (mr := zm_m285) (pc' := 1832) (ls' := [(3, .int 0), (2, .ref 55), (1, .ref 0), (0, .retAddr 0)]) (st' := [.int 1, .retAddr 0, .ref 55, .int v]) rfl rfl ?_
  refine zy_h (mr := zm_m285) rfl rfl (zh_ialdO (v := xs 1) hO (by decide) rfl) ?_
  refine zy_c (mc := zm_m184) (mr := zm_m285) rfl rfl (zh_v rfl ((K 55 (by decide) (by decide)).trans (zp_o F 10 rfl)) rfl) rfl rfl (zm_Y.mono ((zn_43 F K KL KS (xs 1)).deep (by decide)) ?_)
  rintro r h2 ⟨⟨w, rfl, hw⟩, KL2, KS2⟩
  have e : v = w := zg_43 hv hw
  subst e
  refine zy_b (mr := zm_m285) rfl rfl rfl (zc_eq (fun _ => ?_) (fun hc => absurd rfl hc))
  refine zy_n 4 (mr := zm_m285) (pc' := 20) (ls' := [(3, .int 7), (2, .ref 55), (1, .ref 0), (0, .retAddr 0)]) (st' := [.retAddr 0, .int 7]) rfl rfl ?_
  refine zy_h (q := (.int 7 :: [.int 7], _)) (mr := zm_m285) rfl rfl (zh_alenO hO) ?_
  refine zy_n 2 (mr := zm_m285) (pc' := 24) (ls' := [(3, .int 7), (2, .ref 55), (1, .ref 0), (0, .retAddr 0)]) (st' := [.int 0, .int 7]) rfl rfl ?_
  refine zy_b (q := (1983, [])) (mr := zm_m285) rfl rfl rfl ?_
  refine zy_n 1 (mr := zm_m285) (pc' := 1984) (ls' := [(3, .int 7), (2, .ref 55), (1, .ref 0), (0, .retAddr 0)]) (st' := [.int 1]) rfl rfl ?_
  refine zy_r (mr := zm_m285) rfl rfl rfl ?_
  exact ⟨rfl, Nat.le_trans KL2 (by decide), Nat.le_trans KS2 (by decide)⟩
set_option maxHeartbeats 4000000 in
set_option maxRecDepth 20000 in
theorem zz_44 {og : Nat → Option zm_C} {xs : Nat → Int32} {h : zm_H} (hO : og 0 = some (.inl (0, 7, .inl xs))) (F : zp_ck h = true) : zm_Y og 60 285 1841 [(3, .int 0), (2, .ref 55), (1, .ref 0), (0, .retAddr 0)] [] h (fun r h1 => r = some (.int 1) ∧ h1.length ≤ 600000 ∧ zm_szs h1 ≤ 7302249) := by
  refine zy_n 5 (mr := zm_m285) (pc' := 1846) (ls' := [(3, .int 0), (2, .ref 55), (1, .ref 0), (0, .retAddr 0)]) (st' := [.int 1, .retAddr 0, .ref 0]) rfl rfl ?_
  refine zy_h (mr := zm_m285) rfl rfl (zh_ialdO (v := xs 1) hO (by decide) rfl) ?_
  refine zy_n 4 (mr := zm_m285) (pc' := 1851) (ls' := [(3, .int 0), (2, .ref 55), (1, .ref 0), (0, .retAddr 0)]) (st' := [.int 2, .retAddr 0, .int (xs 1), .ref 0]) rfl rfl ?_
  refine zy_h (mr := zm_m285) rfl rfl (zh_ialdO (v := xs 2) hO (by decide) rfl) ?_
  refine zy_n 4 (mr := zm_m285) (pc' := 1856) (ls' := [(3, .int 0), (2, .ref 55), (1, .ref 0), (0, .retAddr 0)]) (st' := [.int 3, .retAddr 0, .int (xs 2), .int (xs 1), .ref 0]) rfl rfl ?_
  refine zy_h (mr := zm_m285) rfl rfl (zh_ialdO (v := xs 3) hO (by decide) rfl) ?_
  refine zy_n 7 (mr := zm_m285) (pc' := 1865) (ls' := [(3, .int 0), (2, .ref 55), (1, .ref 0), (0, .retAddr 0)]) (st' := [.int 4, .retAddr 0, .long (((xs 3).toInt64) <<< ((32 : Int32).toInt64 &&& 63)), .int (xs 2), .int (xs 1), .ref 0]) rfl rfl ?_
  refine zy_h (mr := zm_m285) rfl rfl (zh_ialdO (v := xs 4) hO (by decide) rfl) ?_
  refine zy_n 4 (mr := zm_m285) (pc' := 1872) (ls' := [(3, .int 0), (2, .ref 55), (1, .ref 0), (0, .retAddr 0)]) (st' := [.long ((((xs 3).toInt64) <<< ((32 : Int32).toInt64 &&& 63)) ||| (((xs 4).toInt64) &&& 4294967295)), .int (xs 2), .int (xs 1), .ref 0]) rfl rfl ?_
  refine zy_c (mc := zm_m176) (mr := zm_m285) rfl rfl (zh_v rfl (zp_o F 0 rfl) rfl) rfl rfl (zm_Y.mono ((zx_44 F (xs 1) (xs 2) ((((xs 3).toInt64) <<< ((32 : Int32).toInt64 &&& 63)) ||| (((xs 4).toInt64) &&& 4294967295))).deep (by decide)) ?_)
  rintro r h1 ⟨⟨v, rfl, hv⟩, K, KL, KS⟩
  refine zy_n 5 (mr := zm_m285) (pc' := 1880) (ls' := [(3, .int 0), (2, .ref 55), (1, .ref 0), (0, .retAddr 0)]) (st' := [.int 1, .retAddr 0, .ref 55, .int v]) rfl rfl ?_
  refine zy_h (mr := zm_m285) rfl rfl (zh_ialdO (v := xs 1) hO (by decide) rfl) ?_
  refine zy_n 4 (mr := zm_m285) (pc' := 1885) (ls' := [(3, .int 0), (2, .ref 55), (1, .ref 0), (0, .retAddr 0)]) (st' := [.int 2, .retAddr 0, .int (xs 1), .ref 55, .int v]) rfl rfl ?_
  refine zy_h (mr := zm_m285) rfl rfl (zh_ialdO (v := xs 2) hO (by decide) rfl) ?_
  refine zy_n 4 (mr := zm_m285) (pc' := 1890) (ls' := [(3, .int 0), (2, .ref 55), (1, .ref 0), (0, .retAddr 0)]) (st' := [.int 3, .retAddr 0, .int (xs 2), .int (xs 1), .ref 55, .int v]) rfl rfl ?_
  refine zy_h (mr := zm_m285) rfl rfl (zh_ialdO (v := xs 3) hO (by decide) rfl) ?_
  refine zy_n 7 (mr := zm_m285) (pc' := 1899) (ls' := [(3, .int 0), (2, .ref 55), (1, .ref 0), (0, .retAddr 0)]) (st' := [.int 4, .retAddr 0, .long (((xs 3).toInt64) <<< ((32 : Int32).toInt64 &&& 63)), .int (xs 2), .int (xs 1), .ref 55, .int v]) rfl rfl ?_
  refine zy_h (mr := zm_m285) rfl rfl (zh_ialdO (v := xs 4) hO (by decide) rfl) ?_
  refine zy_n 4 (mr := zm_m285) (pc' := 1906) (ls' := [(3, .int 0), (2, .ref 55), (1, .ref 0), (0, .retAddr 0)]) (st' := [.long ((((xs 3).toInt64) <<< ((32 : Int32).toInt64 &&& 63)) ||| (((xs 4).toInt64) &&& 4294967295)), .int (xs 2), .int (xs 1), .ref 55, .int v]) rfl rfl ?_
  refine zy_c (mc := zm_m185) (mr := zm_m285) rfl rfl (zh_v rfl ((K 55 (by decide) (by decide)).trans (zp_o F 10 rfl)) rfl) rfl rfl (zm_Y.mono ((zn_44 F K KL KS (xs 1) (xs 2) ((((xs 3).toInt64) <<< ((32 : Int32).toInt64 &&& 63)) ||| (((xs 4).toInt64) &&& 4294967295))).deep (by decide)) ?_)
  rintro r h2 ⟨⟨w, rfl, hw⟩, KL2, KS2⟩
  have e : v = w := zg_44 hv hw
  subst e
  refine zy_b (mr := zm_m285) rfl rfl rfl (zc_eq (fun _ => ?_) (fun hc => absurd rfl hc))
  refine zy_n 4 (mr := zm_m285) (pc' := 20) (ls' := [(3, .int 7), (2, .ref 55), (1, .ref 0), (0, .retAddr 0)]) (st' := [.retAddr 0, .int 7]) rfl rfl ?_
  refine zy_h (q := (.int 7 :: [.int 7], _)) (mr := zm_m285) rfl rfl (zh_alenO hO) ?_
  refine zy_n 2 (mr := zm_m285) (pc' := 24) (ls' := [(3, .int 7), (2, .ref 55), (1, .ref 0), (0, .retAddr 0)]) (st' := [.int 0, .int 7]) rfl rfl ?_
  refine zy_b (q := (1983, [])) (mr := zm_m285) rfl rfl rfl ?_
  refine zy_n 1 (mr := zm_m285) (pc' := 1984) (ls' := [(3, .int 7), (2, .ref 55), (1, .ref 0), (0, .retAddr 0)]) (st' := [.int 1]) rfl rfl ?_
  refine zy_r (mr := zm_m285) rfl rfl rfl ?_
  exact ⟨rfl, Nat.le_trans KL2 (by decide), Nat.le_trans KS2 (by decide)⟩
set_option maxHeartbeats 4000000 in
set_option maxRecDepth 20000 in
theorem zz_45 {og : Nat → Option zm_C} {xs : Nat → Int32} {h : zm_H} (hO : og 0 = some (.inl (0, 7, .inl xs))) (F : zp_ck h = true) : zm_Y og 60 285 1914 [(3, .int 0), (2, .ref 55), (1, .ref 0), (0, .retAddr 0)] [] h (fun r h1 => r = some (.int 1) ∧ h1.length ≤ 600000 ∧ zm_szs h1 ≤ 7302249) := by
  refine zy_n 5 (mr := zm_m285) (pc' := 1919) (ls' := [(3, .int 0), (2, .ref 55), (1, .ref 0), (0, .retAddr 0)]) (st' := [.int 1, .retAddr 0, .ref 0]) rfl rfl ?_
  refine zy_h (mr := zm_m285) rfl rfl (zh_ialdO (v := xs 1) hO (by decide) rfl) ?_
  refine zy_n 4 (mr := zm_m285) (pc' := 1924) (ls' := [(3, .int 0), (2, .ref 55), (1, .ref 0), (0, .retAddr 0)]) (st' := [.int 2, .retAddr 0, .int (xs 1), .ref 0]) rfl rfl ?_
  refine zy_h (mr := zm_m285) rfl rfl (zh_ialdO (v := xs 2) hO (by decide) rfl) ?_
  refine zy_n 4 (mr := zm_m285) (pc' := 1929) (ls' := [(3, .int 0), (2, .ref 55), (1, .ref 0), (0, .retAddr 0)]) (st' := [.int 3, .retAddr 0, .int (xs 2), .int (xs 1), .ref 0]) rfl rfl ?_
  refine zy_h (mr := zm_m285) rfl rfl (zh_ialdO (v := xs 3) hO (by decide) rfl) ?_
  refine zy_n 4 (mr := zm_m285) (pc' := 1934) (ls' := [(3, .int 0), (2, .ref 55), (1, .ref 0), (0, .retAddr 0)]) (st' := [.int 4, .retAddr 0, .int (xs 3), .int (xs 2), .int (xs 1), .ref 0]) rfl rfl ?_
  refine zy_h (mr := zm_m285) rfl rfl (zh_ialdO (v := xs 4) hO (by decide) rfl) ?_
  refine zy_n 4 (mr := zm_m285) (pc' := 1939) (ls' := [(3, .int 0), (2, .ref 55), (1, .ref 0), (0, .retAddr 0)]) (st' := [.int 5, .retAddr 0, .int (xs 4), .int (xs 3), .int (xs 2), .int (xs 1), .ref 0]) rfl rfl ?_
  refine zy_h (mr := zm_m285) rfl rfl (zh_ialdO (v := xs 5) hO (by decide) rfl) ?_
  refine zy_c (mc := zm_m178) (mr := zm_m285) rfl rfl (zh_v rfl (zp_o F 0 rfl) rfl) rfl rfl (zm_Y.mono ((zx_45 F (xs 1) (xs 2) (xs 3) (xs 4) (xs 5)).deep (by decide)) ?_)
  rintro r h1 ⟨⟨v, rfl, hv⟩, K, KL, KS⟩
  refine zy_n 5 (mr := zm_m285) (pc' := 1948) (ls' := [(3, .int 0), (2, .ref 55), (1, .ref 0), (0, .retAddr 0)]) (st' := [.int 1, .retAddr 0, .ref 55, .int v]) rfl rfl ?_
  refine zy_h (mr := zm_m285) rfl rfl (zh_ialdO (v := xs 1) hO (by decide) rfl) ?_
  refine zy_n 4 (mr := zm_m285) (pc' := 1953) (ls' := [(3, .int 0), (2, .ref 55), (1, .ref 0), (0, .retAddr 0)]) (st' := [.int 2, .retAddr 0, .int (xs 1), .ref 55, .int v]) rfl rfl ?_
  refine zy_h (mr := zm_m285) rfl rfl (zh_ialdO (v := xs 2) hO (by decide) rfl) ?_
  refine zy_n 4 (mr := zm_m285) (pc' := 1958) (ls' := [(3, .int 0), (2, .ref 55), (1, .ref 0), (0, .retAddr 0)]) (st' := [.int 3, .retAddr 0, .int (xs 2), .int (xs 1), .ref 55, .int v]) rfl rfl ?_
  refine zy_h (mr := zm_m285) rfl rfl (zh_ialdO (v := xs 3) hO (by decide) rfl) ?_
  refine zy_n 4 (mr := zm_m285) (pc' := 1963) (ls' := [(3, .int 0), (2, .ref 55), (1, .ref 0), (0, .retAddr 0)]) (st' := [.int 4, .retAddr 0, .int (xs 3), .int (xs 2), .int (xs 1), .ref 55, .int v]) rfl rfl ?_
  refine zy_h (mr := zm_m285) rfl rfl (zh_ialdO (v := xs 4) hO (by decide) rfl) ?_
  refine zy_n 4 (mr := zm_m285) (pc' := 1968) (ls' := [(3, .int 0), (2, .ref 55), (1, .ref 0), (0, .retAddr 0)]) (st' := [.int 5, .retAddr 0, .int (xs 4), .int (xs 3), .int (xs 2), .int (xs 1), .ref 55, .int v]) rfl rfl ?_
  refine zy_h (mr := zm_m285) rfl rfl (zh_ialdO (v := xs 5) hO (by decide) rfl) ?_
  refine zy_c (mc := zm_m187) (mr := zm_m285) rfl rfl (zh_v rfl ((K 55 (by decide) (by decide)).trans (zp_o F 10 rfl)) rfl) rfl rfl (zm_Y.mono ((zn_45 F K KL KS (xs 1) (xs 2) (xs 3) (xs 4) (xs 5)).deep (by decide)) ?_)
  rintro r h2 ⟨⟨w, rfl, hw⟩, KL2, KS2⟩
  have e : v = w := zg_45 hv hw
  subst e
  refine zy_b (mr := zm_m285) rfl rfl rfl (zc_eq (fun _ => ?_) (fun hc => absurd rfl hc))
  refine zy_n 4 (mr := zm_m285) (pc' := 20) (ls' := [(3, .int 7), (2, .ref 55), (1, .ref 0), (0, .retAddr 0)]) (st' := [.retAddr 0, .int 7]) rfl rfl ?_
  refine zy_h (q := (.int 7 :: [.int 7], _)) (mr := zm_m285) rfl rfl (zh_alenO hO) ?_
  refine zy_n 2 (mr := zm_m285) (pc' := 24) (ls' := [(3, .int 7), (2, .ref 55), (1, .ref 0), (0, .retAddr 0)]) (st' := [.int 0, .int 7]) rfl rfl ?_
  refine zy_b (q := (1983, [])) (mr := zm_m285) rfl rfl rfl ?_
  refine zy_n 1 (mr := zm_m285) (pc' := 1984) (ls' := [(3, .int 7), (2, .ref 55), (1, .ref 0), (0, .retAddr 0)]) (st' := [.int 1]) rfl rfl ?_
  refine zy_r (mr := zm_m285) rfl rfl rfl ?_
  exact ⟨rfl, Nat.le_trans KL2 (by decide), Nat.le_trans KS2 (by decide)⟩
