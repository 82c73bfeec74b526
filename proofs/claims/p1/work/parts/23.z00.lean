set_option maxHeartbeats 4000000 in
set_option maxRecDepth 20000 in
theorem zz_0 {og : Nat → Option zm_C} {xs : Nat → Int32} {h : zm_H} (hO : og 0 = some (.inl (0, 7, .inl xs))) (F : zp_ck h = true) : zm_Y og 60 285 232 [(3, .int 0), (2, .ref 55), (1, .ref 0), (0, .retAddr 0)] [] h (fun r h1 => r = some (.int 1) ∧ h1.length ≤ 600000 ∧ zm_szs h1 ≤ 7302249) := by
  refine zy_n 5 (mr := zm_m285) (pc' := 237) (ls' := [(3, .int 0), (2, .ref 55), (1, .ref 0), (0, .retAddr 0)]) (st' := [.int 1, .retAddr 0, .ref 0]) rfl rfl ?_
  refine zy_h (mr := zm_m285) rfl rfl (zh_ialdO (v := xs 1) hO (by decide) rfl) ?_
  refine zy_n 4 (mr := zm_m285) (pc' := 242) (ls' := [(3, .int 0), (2, .ref 55), (1, .ref 0), (0, .retAddr 0)]) (st' := [.int 2, .retAddr 0, .int (xs 1), .ref 0]) rfl rfl ?_
  refine zy_h (mr := zm_m285) rfl rfl (zh_ialdO (v := xs 2) hO (by decide) rfl) ?_
  refine zy_n 4 (mr := zm_m285) (pc' := 247) (ls' := [(3, .int 0), (2, .ref 55), (1, .ref 0), (0, .retAddr 0)]) (st' := [.int 3, .retAddr 0, .int (xs 2), .int (xs 1), .ref 0]) rfl rfl ?_
  refine zy_h (mr := zm_m285) rfl rfl (zh_ialdO (v := xs 3) hO (by decide) rfl) ?_
  refine zy_c (mc := zm_m9) (mr := zm_m285) rfl rfl (zh_v rfl (zp_o F 0 rfl) rfl) rfl rfl (zm_Y.mono ((zx_0 F (xs 1) (xs 2) (xs 3)).deep (by decide)) ?_)
  rintro r h1 ⟨⟨v, rfl, hv⟩, K, KL, KS⟩
  refine zy_n 5 (mr := zm_m285) (pc' := 256) (ls' := [(3, .int 0), (2, .ref 55), (1, .ref 0), (0, .retAddr 0)]) (st' := [.int 1, .retAddr 0, .ref 55, .int v]) rfl rfl ?_
  refine zy_h (mr := zm_m285) rfl rfl (zh_ialdO (v := xs 1) hO (by decide) rfl) ?_
  refine zy_n 4 (mr := zm_m285) (pc' := 261) (ls' := [(3, .int 0), (2, .ref 55), (1, .ref 0), (0, .retAddr 0)]) (st' := [.int 2, .retAddr 0, .int (xs 1), .ref 55, .int v]) rfl rfl ?_
  refine zy_h (mr := zm_m285) rfl rfl (zh_ialdO (v := xs 2) hO (by decide) rfl) ?_
  refine zy_n 4 (mr := zm_m285) (pc' := 266) (ls' := [(3, .int 0), (2, .ref 55), (1, .ref 0), (0, .retAddr 0)]) (st' := [.int 3, .retAddr 0, .int (xs 2), .int (xs 1), .ref 55, .int v]) rfl rfl ?_
  refine zy_h (mr := zm_m285) rfl rfl (zh_ialdO (v := xs 3) hO (by decide) rfl) ?_
  refine zy_c (mc := zm_m188) (mr := zm_m285) rfl rfl (zh_v rfl ((K 55 (by decide) (by decide)).trans (zp_o F 10 rfl)) rfl) rfl rfl (zm_Y.mono ((zn_0 F K KL KS (xs 1) (xs 2) (xs 3)).deep (by decide)) ?_)
  rintro r h2 ⟨⟨w, rfl, hw⟩, KL2, KS2⟩
  have e : v = w := zg_0 hv hw
  subst e
  refine zy_b (mr := zm_m285) rfl rfl rfl (zc_eq (fun _ => ?_) (fun hc => absurd rfl hc))
  refine zy_n 4 (mr := zm_m285) (pc' := 20) (ls' := [(3, .int 7), (2, .ref 55), (1, .ref 0), (0, .retAddr 0)]) (st' := [.retAddr 0, .int 7]) rfl rfl ?_
  refine zy_h (q := (.int 7 :: [.int 7], _)) (mr := zm_m285) rfl rfl (zh_alenO hO) ?_
  refine zy_n 2 (mr := zm_m285) (pc' := 24) (ls' := [(3, .int 7), (2, .ref 55), (1, .ref 0), (0, .retAddr 0)]) (st' := [.int 0, .int 7]) rfl rfl ?_
  refine zy_b (q := (1983, [])) (mr := zm_m285) rfl rfl rfl ?_
  refine zy_n 1 (mr := zm_m285) (pc' := 1984) (ls' := [(3, .int 7), (2, .ref 55), (1, .ref 0), (0, .retAddr 0)]) (st' := [.int 1]) rfl rfl ?_
  refine zy_r (mr := zm_m285) rfl rfl rfl ?_
  exact ⟨rfl, Nat.le_trans KL2 (by decide), Nat.le_trans KS2 (by decide)⟩
set_option maxHeartbeats 4000000 in
set_option maxRecDepth 20000 in
theorem zz_1 {og : Nat → Option zm_C} {xs : Nat → Int32} {h : zm_H} (hO : og 0 = some (.inl (0, 7, .inl xs))) (F : zp_ck h = true) : zm_Y og 60 285 275 [(3, .int 0), (2, .ref 55), (1, .ref 0), (0, .retAddr 0)] [] h (fun r h1 => r = some (.int 1) ∧ h1.length ≤ 600000 ∧ zm_szs h1 ≤ 7302249) := by
  refine zy_n 5 (mr := zm_m285) (pc' := 280) (ls' := [(3, .int 0), (2, .ref 55), (1, .ref 0), (0, .retAddr 0)]) (st' := [.int 1, .retAddr 0, .ref 0]) rfl rfl ?_
  refine zy_h (mr := zm_m285) rfl rfl (zh_ialdO (v := xs 1) hO (by decide) rfl) ?_
  refine zy_n 4 (mr := zm_m285) (pc' := 285) (ls' := [(3, .int 0), (2, .ref 55), (1, .ref 0), (0, .retAddr 0)]) (st' := [.int 2, .retAddr 0, .int (xs 1), .ref 0]) rfl rfl ?_
  refine zy_h (mr := zm_m285) rfl rfl (zh_ialdO (v := xs 2) hO (by decide) rfl) ?_
  refine zy_n 4 (mr := zm_m285) (pc' := 290) (ls' := [(3, .int 0), (2, .ref 55), (1, .ref 0), (0, .retAddr 0)]) (st' := [.int 3, .retAddr 0, .int (xs 2), .int (xs 1), .ref 0]) rfl rfl ?_
  refine zy_h (mr := zm_m285) rfl rfl (zh_ialdO (v := xs 3) hO (by decide) rfl) ?_
  refine zy_n 4 (mr := zm_m285) (pc' := 295) (ls' := [(3, .int 0), (2, .ref 55), (1, .ref 0), (0, .retAddr 0)]) (st' := [.int 4, .retAddr 0, .int (xs 3), .int (xs 2), .int (xs 1), .ref 0]) rfl rfl ?_
  refine zy_h (mr := zm_m285) rfl rfl (zh_ialdO (v := xs 4) hO (by decide) rfl) ?_
  refine zy_c (mc := zm_m11) (mr := zm_m285) rfl rfl (zh_v rfl (zp_o F 0 rfl) rfl) rfl rfl (zm_Y.mono ((zx_1 F (xs 1) (xs 2) (xs 3) (xs 4)).deep (by decide)) ?_)
  rintro r h1 ⟨⟨v, rfl, hv⟩, K, KL, KS⟩
  refine zy_n 5 (mr := zm_m285) (pc' := 304) (ls' := [(3, .int 0), (2, .ref 55), (1, .ref 0), (0, .retAddr 0)]) (st' := [.int 1, .retAddr 0, .ref 55, .int v]) rfl rfl ?_
  refine zy_h (mr := zm_m285) rfl rfl (zh_ialdO (v := xs 1) hO (by decide) rfl) ?_
  refine zy_n 4 (mr := zm_m285) (pc' := 309) (ls' := [(3, .int 0), (2, .ref 55), (1, .ref 0), (0, .retAddr 0)]) (st' := [.int 2, .retAddr 0, .int (xs 1), .ref 55, .int v]) rfl rfl ?_
  refine zy_h (mr := zm_m285) rfl rfl (zh_ialdO (v := xs 2) hO (by decide) rfl) ?_
  refine zy_n 4 (mr := zm_m285) (pc' := 314) (ls' := [(3, .int 0), (2, .ref 55), (1, .ref 0), (0, .retAddr 0)]) (st' := [.int 3, .retAddr 0, .int (xs 2), .int (xs 1), .ref 55, .int v]) rfl rfl ?_
  refine zy_h (mr := zm_m285) rfl rfl (zh_ialdO (v := xs 3) hO (by decide) rfl) ?_
  refine zy_n 4 (mr := zm_m285) (pc' := 319) (ls' := [(3, .int 0), (2, .ref 55), (1, .ref 0), (0, .retAddr 0)]) (st' := [.int 4, .retAddr 0, .int (xs 3), .int (xs 2), .int (xs 1), .ref 55, .int v]) rfl rfl ?_
  refine zy_h (mr := zm_m285) rfl rfl (zh_ialdO (v := xs 4) hO (by decide) rfl) ?_
  refine zy_c (mc := zm_m189) (mr := zm_m285) rfl rfl (zh_v rfl ((K 55 (by decide) (by decide)).trans (zp_o F 10 rfl)) rfl) rfl rfl (zm_Y.mono ((zn_1 F K KL KS (xs 1) (xs 2) (xs 3) (xs 4)).deep (by decide)) ?_)
  rintro r h2 ⟨⟨w, rfl, hw⟩, KL2, KS2⟩
  have e : v = w := zg_1 hv hw
  subst e
  refine zy_b (mr := zm_m285) rfl rfl rfl (zc_eq (fun _ => ?_) (fun hc => absurd rfl hc))
  refine zy_n 4 (mr := zm_m285) (pc' := 20) (ls' := [(3, .int 7), (2, .ref 55), (1, .ref 0), (0, .retAddr 0)]) (st' := [.retAddr 0, .int 7]) rfl rfl ?_
  refine zy_h (q := (.int 7 :: [.int 7], _)) (mr := zm_m285) rfl rfl (zh_alenO hO) ?_
  refine zy_n 2 (mr := zm_m285) (pc' := 24) (ls' := [(3, .int 7), (2, .ref 55), (1, .ref 0), (0, .retAddr 0)]) (st' := [.int 0, .int 7]) rfl rfl ?_
  refine zy_b (q := (1983, [])) (mr := zm_m285) rfl rfl rfl ?_
  refine zy_n 1 (mr := zm_m285) (pc' := 1984) (ls' := [(3, .int 7), (2, .ref 55), (1, .ref 0), (0, .retAddr 0)]) (st' := [.int 1]) rfl rfl ?_
  refine zy_r (mr := zm_m285) rfl rfl rfl ?_
  exact ⟨rfl, Nat.le_trans KL2 (by decide), Nat.le_trans KS2 (by decide)⟩
set_option maxHeartbeats 4000000 in
set_option maxRecDepth 20000 in
theorem zz_2 {og : Nat → Option zm_C} {xs : Nat → Int32} {h : zm_H} (hO : og 0 = some (.inl (0, 7, .inl xs))) (F : zp_ck h = true) : zm_Y og 60 285 328 [(3, .int 0), (2, .ref 55), (1, .ref 0), (0, .retAddr 0)] [] h (fun r h1 => r = some (.int 1) ∧ h1.length ≤ 600000 ∧ zm_szs h1 ≤ 7302249) := by
  refine zy_n 5 (mr := zm_m285) (pc' := 333) (ls' := [(3, .int 0), (2, .ref 55), (1, .ref 0), (0, .retAddr 0)]) (st' := [.int 1, .retAddr 0, .ref 0]) rfl rfl ?_
  refine zy_h (mr := zm_m285) rfl rfl (zh_ialdO (v := xs 1) hO (by decide) rfl) ?_
  refine zy_n 4 (mr := zm_m285) (pc' := 338) (ls' := [(3, .int 0), (2, .ref 55), (1, .ref 0), (0, .retAddr 0)]) (st' := [.int 2, .retAddr 0, .int (xs 1), .ref 0]) rfl rfl ?_
  refine zy_h (mr := zm_m285) rfl rfl (zh_ialdO (v := xs 2) hO (by decide) rfl) ?_
  refine zy_n 4 (mr := zm_m285) (pc' := 343) (ls' := [(3, .int 0), (2, .ref 55), (1, .ref 0), (0, .retAddr 0)]) (st' := [.int 3, .retAddr 0, .int (xs 2), .int (xs 1), .ref 0]) rfl rfl ?_
  refine zy_h (mr := zm_m285) rfl rfl (zh_ialdO (v := xs 3) hO (by decide) rfl) ?_
  refine zy_n 4 (mr := zm_m285) (pc' := 348) (ls' := [(3, .int 0), (2, .ref 55), (1, .ref 0), (0, .retAddr 0)]) (st' := [.int 4, .retAddr 0, .int (xs 3), .int (xs 2), .int (xs 1), .ref 0]) rfl rfl ?_
  refine zy_h (mr := zm_m285) rfl rfl (zh_ialdO (v := xs 4) hO (by decide) rfl) ?_
  refine zy_c (mc := zm_m12) (mr := zm_m285) rfl rfl (zh_v rfl (zp_o F 0 rfl) rfl) rfl rfl (zm_Y.mono ((zx_2 F (xs 1) (xs 2) (xs 3) (xs 4)).deep (by decide)) ?_)
  rintro r h1 ⟨⟨v, rfl, hv⟩, K, KL, KS⟩
  refine zy_n 5 (mr := zm_m285) (pc' := 357) (ls' := [(3, .int 0), (2, .ref 55), (1, .ref 0), (0, .retAddr 0)]) (st' := [.int 1, .retAddr 0, .ref 55, .int v]) rfl rfl ?_
  refine zy_h (mr := zm_m285) rfl rfl (zh_ialdO (v := xs 1) hO (by decide) rfl) ?_
  refine zy_n 4 (mr := zm_m285) (pc' := 362) (ls' := [(3, .int 0), (2, .ref 55), (1, .ref 0), (0, .retAddr 0)]) (st' := [.int 2, .retAddr 0, .int (xs 1), .ref 55, .int v]) rfl rfl ?_
  refine zy_h (mr := zm_m285) rfl rfl (zh_ialdO (v := xs 2) hO (by decide) rfl) ?_
  refine zy_n 4 (mr := zm_m285) (pc' := 367) (ls' := [(3, .int 0), (2, .ref 55), (1, .ref 0), (0, .retAddr 0)]) (st' := [.int 3, .retAddr 0, .int (xs 2), .int (xs 1), .ref 55, .int v]) rfl rfl ?_
  refine zy_h (mr := zm_m285) rfl rfl (zh_ialdO (v := xs 3) hO (by decide) rfl) ?_
  refine zy_n 4 (mr := zm_m285) (pc' := 372) (ls' := [(3, .int 0), (2, .ref 55), (1, .ref 0), (0, .retAddr 0)]) (st' := [.int 4, .retAddr 0, .int (xs 3), .int (xs 2), .int (xs 1), .ref 55, .int v]) rfl rfl ?_
  refine zy_h (mr := zm_m285) rfl rfl (zh_ialdO (v := xs 4) hO (by decide) rfl) ?_
  refine zy_c (mc := zm_m190) (mr := zm_m285) rfl rfl (zh_v rfl ((K 55 (by decide) (by decide)).trans (zp_o F 10 rfl)) rfl) rfl rfl (zm_Y.mono ((zn_2 F K KL KS (xs 1) (xs 2) (xs 3) (xs 4)).deep (by decide)) ?_)
  rintro r h2 ⟨⟨w, rfl, hw⟩, KL2, KS2⟩
  have e : v = w := zg_2 hv hw
  subst e
  refine zy_b (mr := zm_m285) rfl rfl rfl (zc_eq (fun _ => ?_) (fun hc => absurd rfl hc))
  refine zy_n 4 (mr := zm_m285) (pc' := 20) (ls' := [(3, .int 7), (2, .ref 55), (1, .ref 0), (0, .retAddr 0)]) (st' := [.retAddr 0, .int 7]) rfl rfl ?_
  refine zy_h (q := (.int 7 :: [.int 7], _)) (mr := zm_m285) rfl rfl (zh_alenO hO) ?_
  refine zy_n 2 (mr := zm_m285) (pc' := 24) (ls' := [(3, .int 7), (2, .ref 55), (1, .ref 0), (0, .retAddr 0)]) (st' := [.int 0, .int 7]) rfl rfl ?_
  refine zy_b (q := (1983, [])) (mr := zm_m285) rfl rfl rfl ?_
  refine zy_n 1 (mr := zm_m285) (pc' := 1984) (ls' := [(3, .int 7), (2, .ref 55), (1, .ref 0), (0, .retAddr 0)]) (st' := [.int 1]) rfl rfl ?_
  refine zy_r (mr := zm_m285) rfl rfl rfl ?_
  exact ⟨rfl, Nat.le_trans KL2 (by decide), Nat.le_trans KS2 (by decide)⟩
set_option maxHeartbeats 4000000 in
set_option maxRecDepth 20000 in
theorem zz_3 {og : Nat → Option zm_C} {xs : Nat → Int32} {h : zm_H} (hO : og 0 = some (.inl (0, 7, .inl xs))) (F : zp_ck h = true) : zm_Y og 60 285 381 [(3, .int 0), (2, .ref 55), (1, .ref 0), (0, .retAddr 0)] [] h (fun r h1 => r = some (.int 1) ∧ h1.length ≤ 600000 ∧ zm_szs h1 ≤ 7302249) := by
  refine zy_n 5 (mr := zm_m285) (pc' := 386) (ls' := [(3, .int 0), (2, .ref 55), (1, .ref 0), (0, .retAddr 0)]) (st' := [.int 1, .retAddr 0, .ref 0]) rfl rfl ?_
  refine zy_h (mr := zm_m285) rfl rfl (zh_ialdO (v := xs 1) hO (by decide) rfl) ?_
  refine zy_n 4 (mr := zm_m285) (pc' := 391) (ls' := [(3, .int 0), (2, .ref 55), (1, .ref 0), (0, .retAddr 0)]) (st' := [.int 2, .retAddr 0, .int (xs 1), .ref 0]) rfl rfl ?_
  refine zy_h (mr := zm_m285) rfl rfl (zh_ialdO (v := xs 2) hO (by decide) rfl) ?_
  refine zy_n 4 (mr := zm_m285) (pc' := 396) (ls' := [(3, .int 0), (2, .ref 55), (1, .ref 0), (0, .retAddr 0)]) (st' := [.int 3, .retAddr 0, .int (xs 2), .int (xs 1), .ref 0]) rfl rfl ?_
  refine zy_h (mr := zm_m285) rfl rfl (zh_ialdO (v := xs 3) hO (by decide) rfl) ?_
  refine zy_n 4 (mr := zm_m285) (pc' := 401) (ls' := [(3, .int 0), (2, .ref 55), (1, .ref 0), (0, .retAddr 0)]) (st' := [.int 4, .retAddr 0, .int (xs 3), .int (xs 2), .int (xs 1), .ref 0]) rfl rfl ?_
  refine zy_h (mr := zm_m285) rfl rfl (zh_ialdO (v := xs 4) hO (by decide) rfl) ?_
  refine zy_c (mc := zm_m16) (mr := zm_m285) rfl rfl (zh_v rfl (zp_o F 0 rfl) rfl) rfl rfl (zm_Y.mono ((zx_3 F (xs 1) (xs 2) (xs 3) (xs 4)).deep (by decide)) ?_)
  rintro r h1 ⟨⟨v, rfl, hv⟩, K, KL, KS⟩
  refine zy_n 5 (mr := zm_m285) (pc' := 410) (ls' := [(3, .int 0), (2, .ref 55), (1, .ref 0), (0, .retAddr 0)]) (st' := [.int 1, .retAddr 0, .ref 55, .int v]) rfl rfl ?_
  refine zy_h (mr := zm_m285) rfl rfl (zh_ialdO (v := xs 1) hO (by decide) rfl) ?_
  refine zy_n 4 (mr := zm_m285) (pc' := 415) (ls' := [(3, .int 0), (2, .ref 55), (1, .ref 0), (0, .retAddr 0)]) (st' := [.int 2, .retAddr 0, .int (xs 1), .ref 55, .int v]) rfl rfl ?_
  refine zy_h (mr := zm_m285) rfl rfl (zh_ialdO (v := xs 2) hO (by decide) rfl) ?_
  refine zy_n 4 (mr := zm_m285) (pc' := 420) (ls' := [(3, .int 0), (2, .ref 55), (1, .ref 0), (0, .retAddr 0)]) (st' := [.int 3, .retAddr 0, .int (xs 2), .int (xs 1), .ref 55, .int v]) rfl rfl ?_
  refine zy_h (mr := zm_m285) rfl rfl (zh_ialdO (v := xs 3) hO (by decide) rfl) ?_
  refine zy_n 4 (mr := zm_m285) (pc' := 425) (ls' := [(3, .int 0), (2, .ref 55), (1, .ref 0), (0, .retAddr 0)]) (st' := [.int 4, .retAddr 0, .int (xs 3), .int (xs 2), .int (xs 1), .ref 55, .int v]) rfl rfl ?_
  refine zy_h (mr := zm_m285) rfl rfl (zh_ialdO (v := xs 4) hO (by decide) rfl) ?_
  refine zy_c (mc := zm_m191) (mr := zm_m285) rfl rfl (zh_v rfl ((K 55 (by decide) (by decide)).trans (zp_o F 10 rfl)) rfl) rfl rfl (zm_Y.mono ((zn_3 F K KL KS (xs 1) (xs 2) (xs 3) (xs 4)).deep (by decide)) ?_)
  rintro r h2 ⟨⟨w, rfl, hw⟩, KL2, KS2⟩
  have e : v = w := zg_3 hv hw
  subst e
  refine zy_b (mr := zm_m285) rfl rfl rfl (zc_eq (fun _ => ?_) (fun hc => absurd rfl hc))
  refine zy_n 4 (mr := zm_m285) (pc' := 20) (ls' := [(3, .int 7), (2, .ref 55), (1, .ref 0), (0, .retAddr 0)]) (st' := [.retAddr 0, .int 7]) rfl rfl ?_
  refine zy_h (q := (.int 7 :: [.int 7], _)) (mr := zm_m285) rfl rfl (zh_alenO hO) ?_
  refine zy_n 2 (mr := zm_m285) (pc' := 24) (ls' := [(3, .int 7), (2, .ref 55), (1, .ref 0), (0, .retAddr 0)]) (st' := [.int 0, .int 7]) rfl rfl ?_
  refine zy_b (q := (1983, [])) (mr := zm_m285) rfl rfl rfl ?_
  refine zy_n 1 (mr := zm_m285) (pc' := 1984) (ls' := [(3, .int 7), (2, .ref 55), (1, .ref 0), (0, .retAddr 0)]) (st' := [.int 1]) rfl rfl ?_
  refine zy_r (mr := zm_m285) rfl rfl rfl ?_
  exact ⟨rfl, Nat.le_trans KL2 (by decide), Nat.le_trans KS2 (by decide)⟩
set_option maxHeartbeats 4000000 in
set_option maxRecDepth 20000 in
theorem zz_4 {og : Nat → Option zm_C} {xs : Nat → Int32} {h : zm_H} (hO : og 0 = some (.inl (0, 7, .inl xs))) (F : zp_ck h = true) : zm_Y og 60 285 434 [(3, .int 0), (2, .ref 55), (1, .ref 0), (0, .retAddr 0)] [] h (fun r h1 => r = some (.int 1) ∧ h1.length ≤ 600000 ∧ zm_szs h1 ≤ 7302249) := by
  refine zy_n 5 (mr := zm_m285) (pc' := 439) (ls' := [(3, .int 0), (2, .ref 55), (1, .ref 0), (0, .retAddr 0)]) (st' := [.int 1, .retAddr 0, .ref 0]) rfl rfl ?_
  refine zy_h (mr := zm_m285) rfl rfl (zh_ialdO (v := xs 1) hO (by decide) rfl) ?_
  refine zy_n 4 (mr := zm_m285) (pc' := 444) (ls' := [(3, .int 0), (2, .ref 55), (1, .ref 0), (0, .retAddr 0)]) (st' := [.int 2, .retAddr 0, .int (xs 1), .ref 0]) rfl rfl ?_
  refine zy_h (mr := zm_m285) rfl rfl (zh_ialdO (v := xs 2) hO (by decide) rfl) ?_
  refine zy_n 4 (mr := zm_m285) (pc' := 449) (ls' := [(3, .int 0), (2, .ref 55), (1, .ref 0), (0, .retAddr 0)]) (st' := [.int 3, .retAddr 0, .int (xs 2), .int (xs 1), .ref 0]) rfl rfl ?_
  refine zy_h (mr := zm_m285) rfl rfl (zh_ialdO (v := xs 3) hO (by decide) rfl) ?_
  refine zy_c (mc := zm_m26) (mr := zm_m285) rfl rfl (zh_v rfl (zp_o F 0 rfl) rfl) rfl rfl (zm_Y.mono ((zx_4 F (xs 1) (xs 2) (xs 3)).deep (by decide)) ?_)
  rintro r h1 ⟨⟨v, rfl, hv⟩, K, KL, KS⟩
  refine zy_n 5 (mr := zm_m285) (pc' := 458) (ls' := [(3, .int 0), (2, .ref 55), (1, .ref 0), (0, .retAddr 0)]) (st' := [.int 1, .retAddr 0, .ref 55, .int v]) rfl rfl ?_
  refine zy_h (mr := zm_m285) rfl rfl (zh_ialdO (v := xs 1) hO (by decide) rfl) ?_
  refine zy_n 4 (mr := zm_m285) (pc' := 463) (ls' := [(3, .int 0), (2, .ref 55), (1, .ref 0), (0, .retAddr 0)]) (st' := [.int 2, .retAddr 0, .int (xs 1), .ref 55, .int v]) rfl rfl ?_
  refine zy_h (mr := zm_m285) rfl rfl (zh_ialdO (v := xs 2) hO (by decide) rfl) ?_
  refine zy_n 4 (mr := zm_m285) (pc' := 468) (ls' := [(3, .int 0), (2, .ref 55), (1, .ref 0), (0, .retAddr 0)]) (st' := [.int 3, .retAddr 0, .int (xs 2), .int (xs 1), .ref 55, .int v]) rfl rfl ?_
  refine zy_h (mr := zm_m285) rfl rfl (zh_ialdO (v := xs 3) hO (by decide) rfl) ?_
  refine zy_c (mc := zm_m194) (mr := zm_m285) rfl rfl (zh_v rfl ((K 55 (by decide) (by decide)).trans (zp_o F 10 rfl)) rfl) rfl rfl (zm_Y.mono ((zn_4 F K KL KS (xs 1) (xs 2) (xs 3)).deep (by decide)) ?_)
  rintro r h2 ⟨⟨w, rfl, hw⟩, KL2, KS2⟩
  have e : v = w := zg_4 hv hw
  subst e
  refine zy_b (mr := zm_m285) rfl rfl rfl (zc_eq (fun _ => ?_) (fun hc => absurd rfl hc))
  refine zy_n 4 (mr := zm_m285) (pc' := 20) (ls' := [(3, .int 7), (2, .ref 55), (1, .ref 0), (0, .retAddr 0)]) (st' := [.retAddr 0, .int 7]) rfl rfl ?_
  refine zy_h (q := (.int 7 :: [.int 7], _)) (mr := zm_m285) rfl rfl (zh_alenO hO) ?_
  refine zy_n 2 (mr := zm_m285) (pc' := 24) (ls' := [(3, .int 7), (2, .ref 55), (1, .ref 0), (0, .retAddr 0)]) (st' := [.int 0, .int 7]) rfl rfl ?_
  refine zy_b (q := (1983, [])) (mr := zm_m285) rfl rfl rfl ?_
  refine zy_n 1 (mr := zm_m285) (pc' := 1984) (ls' := [(3, .int 7), (2, .ref 55), (1, .ref 0), (0, .retAddr 0)]) (st' := [.int 1]) rfl rfl ?_
  refine zy_r (mr := zm_m285) rfl rfl rfl ?_
  exact ⟨rfl, Nat.le_trans KL2 (by decide), Nat.le_trans KS2 (by decide)⟩
set_option maxHeartbeats 4000000 in
set_option maxRecDepth 20000 in
theorem zz_5 {og : Nat → Option zm_C} {xs : Nat → Int32} {h : zm_H} (hO : og 0 = some (.inl (0, 7, .inl xs))) (F : zp_ck h = true) : zm_Y og 60 285 477 [(3, .int 0), (2, .ref 55), (1, .ref 0), (0, .retAddr 0)] [] h (fun r h1 => r = some (.int 1) ∧ h1.length ≤ 600000 ∧ zm_szs h1 ≤ 7302249) := by
  refine zy_n 5 (mr := zm_m285) (pc' := 482) (ls' := [(3, .int 0), (2, .ref 55), (1, .ref 0), (0, .retAddr 0)]) (st' := [.int 1, .retAddr 0, .ref 0]) rfl rfl ?_
  refine zy_h (mr := zm_m285) rfl rfl (zh_ialdO (v := xs 1) hO (by decide) rfl) ?_
  refine zy_n 4 (mr := zm_m285) (pc' := 487) (ls' := [(3, .int 0), (2, .ref 55), (1, .ref 0), (0, .retAddr 0)]) (st' := [.int 2, .retAddr 0, .int (xs 1), .ref 0]) rfl rfl ?_
  refine zy_h (mr := zm_m285) rfl rfl (zh_ialdO (v := xs 2) hO (by decide) rfl) ?_
  refine zy_n 4 (mr := zm_m285) (pc' := 492) (ls' := [(3, .int 0), (2, .ref 55), (1, .ref 0), (0, .retAddr 0)]) (st' := [.int 3, .retAddr 0, .int (xs 2), .int (xs 1), .ref 0]) rfl rfl ?_
  refine zy_h (mr := zm_m285) rfl rfl (zh_ialdO (v := xs 3) hO (by decide) rfl) ?_
  refine zy_c (mc := zm_m28) (mr := zm_m285) rfl rfl (zh_v rfl (zp_o F 0 rfl) rfl) rfl rfl (zm_Y.mono ((zx_5 F (xs 1) (xs 2) (xs 3)).deep (by decide)) ?_)
  rintro r h1 ⟨⟨v, rfl, hv⟩, K, KL, KS⟩
  refine zy_n 5 (mr := zm_m285) (pc' := 501) (ls' := [(3, .int 0), (2, .ref 55), (1, .ref 0), (0, .retAddr 0)]) (st' := [.int 1, .retAddr 0, .ref 55, .int v]) rfl rfl ?_
  refine zy_h (mr := zm_m285) rfl rfl (zh_ialdO (v := xs 1) hO (by decide) rfl) ?_
  refine zy_n 4 (mr := zm_m285) (pc' := 506) (ls' := [(3, .int 0), (2, .ref 55), (1, .ref 0), (0, .retAddr 0)]) (st' := [.int 2, .retAddr 0, .int (xs 1), .ref 55, .int v]) rfl rfl ?_
  refine zy_h (mr := zm_m285) rfl rfl (zh_ialdO (v := xs 2) hO (by decide) rfl) ?_
  refine zy_n 4 (mr := zm_m285) (pc' := 511) (ls' := [(3, .int 0), (2, .ref 55), (1, .ref 0), (0, .retAddr 0)]) (st' := [.int 3, .retAddr 0, .int (xs 2), .int (xs 1), .ref 55, .int v]) rfl rfl ?_
  refine zy_h (mr := zm_m285) rfl rfl (zh_ialdO (v := xs 3) hO (by decide) rfl) ?_
  refine zy_c (mc := zm_m196) (mr := zm_m285) rfl rfl (zh_v rfl ((K 55 (by decide) (by decide)).trans (zp_o F 10 rfl)) rfl) rfl rfl (zm_Y.mono ((zn_5 F K KL KS (xs 1) (xs 2) (xs 3)).deep (by decide)) ?_)
  rintro r h2 ⟨⟨w, rfl, hw⟩, KL2, KS2⟩
  have e : v = w := zg_5 hv hw
  subst e
  refine zy_b (mr := zm_m285) rfl rfl rfl (zc_eq (fun _ => ?_) (fun hc => absurd rfl hc))
  refine zy_n 4 (mr := zm_m285) (pc' := 20) (ls' := [(3, .int 7), (2, .ref 55), (1, .ref 0), (0, .retAddr 0)]) (st' := [.retAddr 0, .int 7]) rfl rfl ?_
  refine zy_h (q := (.int 7 :: [.int 7], _)) (mr := zm_m285) rfl rfl (zh_alenO hO) ?_
  refine zy_n 2 (mr := zm_m285) (pc' := 24) (ls' := [(3, .int 7), (2, .ref 55), (1, .ref 0), (0, .retAddr 0)]) (st' := [.int 0, .int 7]) rfl rfl ?_
  refine zy_b (q := (1983, [])) (mr := zm_m285) rfl rfl rfl ?_
  refine zy_n 1 (mr := zm_m285) (pc' := 1984) (ls' := [(3, .int 7), (2, .ref 55), (1, .ref 0), (0, .retAddr 0)]) (st' := [.int 1]) rfl rfl ?_
  refine zy_r (mr := zm_m285) rfl rfl rfl ?_
  exact ⟨rfl, Nat.le_trans KL2 (by decide), Nat.le_trans KS2 (by decide)⟩
set_option maxHeartbeats 4000000 in
set_option maxRecDepth 20000 in
theorem zz_6 {og : Nat → Option zm_C} {xs : Nat → Int32} {h : zm_H} (hO : og 0 = some (.inl (0, 7, .inl xs))) (F : zp_ck h = true) : zm_Y og 60 285 520 [(3, .int 0), (2, .ref 55), (1, .ref 0), (0, .retAddr 0)] [] h (fun r h1 => r = some (.int 1) ∧ h1.length ≤ 600000 ∧ zm_szs h1 ≤ 7302249) := by
  refine zy_n 5 (mr := zm_m285) (pc' := 525) (ls' := [(3, .int 0), (2, .ref 55), (1, .ref 0), (0, .retAddr 0)]) (st' := [.int 1, .retAddr 0, .ref 0]) rfl rfl ?_
  refine zy_h (mr := zm_m285) rfl rfl (zh_ialdO (v := xs 1) hO (by decide) rfl) ?_
  refine zy_n 4 (mr := zm_m285) (pc' := 530) (ls' := [(3, .int 0), (2, .ref 55), (1, .ref 0), (0, .retAddr 0)]) (st' := [.int 2, .retAddr 0, .int (xs 1), .ref 0]) rfl rfl ?_
  refine zy_h (mr := zm_m285) rfl rfl (zh_ialdO (v := xs 2) hO (by decide) rfl) ?_
  refine zy_c (mc := zm_m29) (mr := zm_m285) rfl rfl (zh_v rfl (zp_o F 0 rfl) rfl) rfl rfl (zm_Y.mono ((zx_6 F (xs 1) (xs 2)).deep (by decide)) ?_)
  rintro r h1 ⟨⟨v, rfl, hv⟩, K, KL, KS⟩
  refine zy_n 5 (mr := zm_m285) (pc' := 539) (ls' := [(3, .int 0), (2, .ref 55), (1, .ref 0), (0, .retAddr 0)]) (st' := [.int 1, .retAddr 0, .ref 55, .int v]) rfl rfl ?_
  refine zy_h (mr := zm_m285) rfl rfl (zh_ialdO (v := xs 1) hO (by decide) rfl) ?_
  refine zy_n 4 (mr := zm_m285) (pc' := 544) (ls' := [(3, .int 0), (2, .ref 55), (1, .ref 0), (0, .retAddr 0)]) (st' := [.int 2, .retAddr 0, .int (xs 1), .ref 55, .int v]) rfl rfl ?_
  refine zy_h (mr := zm_m285) rfl rfl (zh_ialdO (v := xs 2) hO (by decide) rfl) ?_
  refine zy_c (mc := zm_m197) (mr := zm_m285) rfl rfl (zh_v rfl ((K 55 (by decide) (by decide)).trans (zp_o F 10 rfl)) rfl) rfl rfl (zm_Y.mono ((zn_6 F K KL KS (xs 1) (xs 2)).deep (by decide)) ?_)
  rintro r h2 ⟨⟨w, rfl, hw⟩, KL2, KS2⟩
  have e : v = w := zg_6 hv hw
  subst e
  refine zy_b (mr := zm_m285) rfl rfl rfl (zc_eq (fun _ => ?_) (fun hc => absurd rfl hc))
  refine zy_n 4 (mr := zm_m285) (pc' := 20) (ls' := [(3, .int 7), (2, .ref 55), (1, .ref 0), (0, .retAddr 0)]) (st' := [.retAddr 0, .int 7]) rfl rfl ?_
  refine zy_h (q := (.int 7 :: [.int 7], _)) (mr := zm_m285) rfl rfl (zh_alenO hO) ?_
  refine zy_n 2 (mr := zm_m285) (pc' := 24) (ls' := [(3, .int 7), (2, .ref 55), (1, .ref 0), (0, .retAddr 0)]) (st' := [.int 0, .int 7]) rfl rfl ?_
  refine zy_b (q := (1983, [])) (mr := zm_m285) rfl rfl rfl ?_
  refine zy_n 1 (mr := zm_m285) (pc' := 1984) (ls' := [(3, .int 7), (2, .ref 55), (1, .ref 0), (0, .retAddr 0)]) (st' := [.int 1]) rfl rfl ?_
  refine zy_r (mr := zm_m285) rfl rfl rfl ?_
  exact ⟨rfl, Nat.le_trans KL2 (by decide), Nat.le_trans KS2 (by decide)⟩
set_option maxHeartbeats 4000000 in
set_option maxRecDepth 20000 in
theorem zz_7 {og : Nat → Option zm_C} {xs : Nat → Int32} {h : zm_H} (hO : og 0 = some (.inl (0, 7, .inl xs))) (F : zp_ck h = true) : zm_Y og 60 285 553 [(3, .int 0), (2, .ref 55), (1, .ref 0), (0, .retAddr 0)] [] h (fun r h1 => r = some (.int 1) ∧ h1.length ≤ 600000 ∧ zm_szs h1 ≤ 7302249) := by
  refine zy_n 5 (mr := zm_m285) (pc' := 558) (ls' := [(3, .int 0), (2, .ref 55), (1, .ref 0), (0, .retAddr 0)]) (st' := [.int 1, .retAddr 0, .ref 0]) rfl rfl ?_
  refine zy_h (mr := zm_m285) rfl rfl (zh_ialdO (v := xs 1) hO (by decide) rfl) ?_
  refine zy_c (mc := zm_m30) (mr := zm_m285) rfl rfl (zh_v rfl (zp_o F 0 rfl) rfl) rfl rfl (zm_Y.mono ((zx_7 F (xs 1)).deep (by decide)) ?_)
  rintro r h1 ⟨⟨v, rfl, hv⟩, K, KL, KS⟩
  refine zy_n 5 (mr := zm_m285) (pc' := 567) (ls' := [(3, .int 0), (2, .ref 55), (1, .ref 0), (0, .retAddr 0)]) (st' := [.int 1, .retAddr 0, .ref 55, .int v]) rfl rfl ?_
  refine zy_h (mr := zm_m285) rfl rfl (zh_ialdO (v := xs 1) hO (by decide) rfl) ?_
  refine zy_c (mc := zm_m198) (mr := zm_m285) rfl rfl (zh_v rfl ((K 55 (by decide) (by decide)).trans (zp_o F 10 rfl)) rfl) rfl rfl (zm_Y.mono ((zn_7 F K KL KS (xs 1)).deep (by decide)) ?_)
  rintro r h2 ⟨⟨w, rfl, hw⟩, KL2, KS2⟩
  have e : v = w := zg_7 hv hw
  subst e
  refine zy_b (mr := zm_m285) rfl rfl rfl (zc_eq (fun _ => ?_) (fun hc => absurd rfl hc))
  refine zy_n 4 (mr := zm_m285) (pc' := 20) (ls' := [(3, .int 7), (2, .ref 55), (1, .ref 0), (0, .retAddr 0)]) (st' := [.retAddr 0, .int 7]) rfl rfl ?_
  refine zy_h (q := (.int 7 :: [.int 7], _)) (mr := zm_m285) rfl rfl (zh_alenO hO) ?_
  refine zy_n 2 (mr := zm_m285) (pc' := 24) (ls' := [(3, .int 7), (2, .ref 55), (1, .ref 0), (0, .retAddr 0)]) (st' := [.int 0, .int 7]) rfl rfl ?_
  refine zy_b (q := (1983, [])) (mr := zm_m285) rfl rfl rfl ?_
  refine zy_n 1 (mr := zm_m285) (pc' := 1984) (ls' := [(3, .int 7), (2, .ref 55), (1, .ref 0), (0, .retAddr 0)]) (st' := [.int 1]) rfl rfl ?_
  refine zy_r (mr := zm_m285) rfl rfl rfl ?_
  exact ⟨rfl, Nat.le_trans KL2 (by decide), Nat.le_trans KS2 (by decide)⟩
set_option maxHeartbeats 4000000 in
set_option maxRecDepth 20000 in
theorem zz_8 {og : Nat → Option zm_C} {xs : Nat → Int32} {h : zm_H} (hO : og 0 = some (.inl (0, 7, .inl xs))) (F : zp_ck h = true) : zm_Y og 60 285 576 [(3, .int 0), (2, .ref 55), (1, .ref 0), (0, .retAddr 0)] [] h (fun r h1 => r = some (.int 1) ∧ h1.length ≤ 600000 ∧ zm_szs h1 ≤ 7302249) := by
  refine zy_n 5 (mr := zm_m285) (pc' := 581) (ls' := [(3, .int 0), (2, .ref 55), (1, .ref 0), (0, .retAddr 0)]) (st' := [.int 1, .retAddr 0, .ref 0]) rfl rfl ?_
  refine zy_h (mr := zm_m285) rfl rfl (zh_ialdO (v := xs 1) hO (by decide) rfl) ?_
  refine zy_n 4 (mr := zm_m285) (pc' := 586) (ls' := [(3, .int 0), (2, .ref 55), (1, .ref 0), (0, .retAddr 0)]) (st' := [.int 2, .retAddr 0, .int (xs 1), .ref 0]) rfl rfl ?_
  refine zy_h (mr := zm_m285) rfl rfl (zh_ialdO (v := xs 2) hO (by decide) rfl) ?_
  refine zy_n 4 (mr := zm_m285) (pc' := 591) (ls' := [(3, .int 0), (2, .ref 55), (1, .ref 0), (0, .retAddr 0)]) (st' := [.int 3, .retAddr 0, .int (xs 2), .int (xs 1), .ref 0]) rfl rfl ?_
  refine zy_h (mr := zm_m285) rfl rfl (zh_ialdO (v := xs 3) hO (by decide) rfl) ?_
  refine zy_n 4 (mr := zm_m285) (pc' := 596) (ls' := [(3, .int 0), (2, .ref 55), (1, .ref 0), (0, .retAddr 0)]) (st' := [.int 4, .retAddr 0, .int (xs 3), .int (xs 2), .int (xs 1), .ref 0]) rfl rfl ?_
  refine zy_h (mr := zm_m285) rfl rfl (zh_ialdO (v := xs 4) hO (by decide) rfl) ?_
  refine zy_n 4 (mr := zm_m285) (pc' := 601) (ls' := [(3, .int 0), (2, .ref 55), (1, .ref 0), (0, .retAddr 0)]) (st' := [.int 5, .retAddr 0, .int (xs 4), .int (xs 3), .int (xs 2), .int (xs 1), .ref 0]) rfl rfl ?_
  refine zy_h (mr := zm_m285) rfl rfl (zh_ialdO (v := xs 5) hO (by decide) rfl) ?_
  refine zy_c (mc := zm_m31) (mr := zm_m285) rfl rfl (zh_v rfl (zp_o F 0 rfl) rfl) rfl rfl (zm_Y.mono ((zx_8 F (xs 1) (xs 2) (xs 3) (xs 4) (xs 5)).deep (by decide)) ?_)
  rintro r h1 ⟨⟨v, rfl, hv⟩, K, KL, KS⟩
  refine zy_n 5 (mr := zm_m285) (pc' := 610) (ls' := [(3, .int 0), (2, .ref 55), (1, .ref 0), (0, .retAddr 0)]) (st' := [.int 1, .retAddr 0, .ref 55, .int v]) rfl rfl ?_
  refine zy_h (mr := zm_m285) rfl rfl (zh_ialdO (v := xs 1) hO (by decide) rfl) ?_
  refine zy_n 4 (mr := zm_m285) (pc' := 615) (ls' := [(3, .int 0), (2, .ref 55), (1, .ref 0), (0, .retAddr 0)]) (st' := [.int 2, .retAddr 0, .int (xs 1), .ref 55, .int v]) rfl rfl ?_
  refine zy_h (mr := zm_m285) rfl rfl (zh_ialdO (v := xs 2) hO (by decide) rfl) ?_
  refine zy_n 4 (mr := zm_m285) (pc' := 620) (ls' := [(3, .int 0), (2, .ref 55), (1, .ref 0), (0, .retAddr 0)]) (st' := [.int 3, .retAddr 0, .int (xs 2), .int (xs 1), .ref 55, .int v]) rfl rfl ?_
  refine zy_h (mr := zm_m285) rfl rfl (zh_ialdO (v := xs 3) hO (by decide) rfl) ?_
  refine zy_n 4 (mr := zm_m285) (pc' := 625) (ls' := [(3, .int 0), (2, .ref 55), (1, .ref 0), (0, .retAddr 0)]) (st' := [.int 4, .retAddr 0, .int (xs 3), .int (xs 2), .int (xs 1), .ref 55, .int v]) rfl rfl ?_
  refine zy_h (mr := zm_m285) rfl rfl (zh_ialdO (v := xs 4) hO (by decide) rfl) ?_
  refine zy_n 4 (mr := zm_m285) (pc' := 630) (ls' := [(3, .int 0), (2, .ref 55), (1, .ref 0), (0, .retAddr 0)]) (st' := [.int 5, .retAddr 0, .int (xs 4), .int (xs 3), .int (xs 2), .int (xs 1), .ref 55, .int v]) rfl rfl ?_
  refine zy_h (mr := zm_m285) rfl rfl (zh_ialdO (v := xs 5) hO (by decide) rfl) ?_
  refine zy_c (mc := zm_m199) (mr := zm_m285) rfl rfl (zh_v rfl ((K 55 (by decide) (by decide)).trans (zp_o F 10 rfl)) rfl) rfl rfl (zm_Y.mono ((zn_8 F K KL KS (xs 1) (xs 2) (xs 3) (xs 4) (xs 5)).deep (by decide)) ?_)
  rintro r h2 ⟨⟨w, rfl, hw⟩, KL2, KS2⟩
  have e : v = w := zg_8 hv hw
  subst e
  refine zy_b (mr := zm_m285) rfl rfl rfl (zc_eq (fun _ => ?_) (fun hc => absurd rfl hc))
  refine zy_n 4 (mr := zm_m285) (pc' := 20) (ls' := [(3, .int 7), (2, .ref 55), (1, .ref 0), (0, .retAddr 0)]) (st' := [.retAddr 0, .int 7]) rfl rfl ?_
  refine zy_h (q := (.int 7 :: [.int 7], _)) (mr := zm_m285) rfl rfl (zh_alenO hO) ?_
  refine zy_n 2 (mr := zm_m285) (pc' := 24) (ls' := [(3, .int 7), (2, .ref 55), (1, .ref 0), (0, .retAddr 0)]) (st' := [.int 0, .int 7]) rfl rfl ?_
  refine zy_b (q := (1983, [])) (mr := zm_m285) rfl rfl rfl ?_
  refine zy_n 1 (mr := zm_m285) (pc' := 1984) (ls' := [(3, .int 7), (2, .ref 55), (1, .ref 0), (0, .retAddr 0)]) (st' := [.int 1]) rfl rfl ?_
  refine zy_r (mr := zm_m285) rfl rfl rfl ?_
  exact ⟨rfl, Nat.le_trans KL2 (by decide), Nat.le_trans KS2 (by decide)⟩
set_option maxHeartbeats 4000000 in
set_option maxRecDepth 20000 in
theorem zz_9 {og : Nat → Option zm_C} {xs : Nat → Int32} {h : zm_H} (hO : og 0 = some (.inl (0, 7, .inl xs))) (F : zp_ck h = true) : zm_Y og 60 285 639 [(3, .int 0), (2, .ref 55), (1, .ref 0), (0, .retAddr 0)] [] h (fun r h1 => r = some (.int 1) ∧ h1.length ≤ 600000 ∧ zm_szs h1 ≤ 7302249) := by
  refine zy_n 5 (mr := zm_m285) (pc' := 644) (ls' := [(3, .int 0), (2, .ref 55), (1, .ref 0), (0, .retAddr 0)]) (st' := [.int 1, .retAddr 0, .ref 0]) rfl rfl ?_
  refine zy_h (mr := zm_m285) rfl rfl (zh_ialdO (v := xs 1) hO (by decide) rfl) ?_
  refine zy_c (mc := zm_m34) (mr := zm_m285) rfl rfl (zh_v rfl (zp_o F 0 rfl) rfl) rfl rfl (zm_Y.mono ((zx_9 F (xs 1)).deep (by decide)) ?_)
  rintro r h1 ⟨⟨v, rfl, hv⟩, K, KL, KS⟩
  refine zy_n 5 (mr := zm_m285) (pc' := 653) (ls' := [(3, .int 0), (2, .ref 55), (1, .ref 0), (0, .retAddr 0)]) (st' := [.int 1, .retAddr 0, .ref 55, .int v]) rfl rfl ?_
  refine zy_h (mr := zm_m285) rfl rfl (zh_ialdO (v := xs 1) hO (by decide) rfl) ?_
  refine zy_c (mc := zm_m200) (mr := zm_m285) rfl rfl (zh_v rfl ((K 55 (by decide) (by decide)).trans (zp_o F 10 rfl)) rfl) rfl rfl (zm_Y.mono ((zn_9 F K KL KS (xs 1)).deep (by decide)) ?_)
  rintro r h2 ⟨⟨w, rfl, hw⟩, KL2, KS2⟩
  have e : v = w := zg_9 hv hw
  subst e
  refine zy_b (mr := zm_m285) rfl rfl rfl (zc_eq (fun _ => ?_) (fun hc => absurd rfl hc))
  refine zy_n 4 (mr := zm_m285) (pc' := 20) (ls' := [(3, .int 7), (2, .ref 55), (1, .ref 0), (0, .retAddr 0)]) (st' := [.retAddr 0, .int 7]) rfl rfl ?_
  refine zy_h (q := (.int 7 :: [.int 7], _)) (mr := zm_m285) rfl rfl (zh_alenO hO) ?_
  refine zy_n 2 (mr := zm_m285) (pc' := 24) (ls' := [(3, .int 7), (2, .ref 55), (1, .ref 0), (0, .retAddr 0)]) (st' := [.int 0, .int 7]) rfl rfl ?_
  refine zy_b (q := (1983, [])) (mr := zm_m285) rfl rfl rfl ?_
  refine zy_n 1 (mr := zm_m285) (pc' := 1984) (ls' := [(3, .int 7), (2, .ref 55), (1, .ref 0), (0, .retAddr 0)]) (st' := [.int 1]) rfl rfl ?_
  refine zy_r (mr := zm_m285) rfl rfl rfl ?_
  exact ⟨rfl, Nat.le_trans KL2 (by decide), Nat.le_trans KS2 (by decide)⟩
set_option maxHeartbeats 4000000 in
set_option maxRecDepth 20000 in
theorem zz_10 {og : Nat → Option zm_C} {xs : Nat → Int32} {h : zm_H} (hO : og 0 = some (.inl (0, 7, .inl xs))) (F : zp_ck h = true) : zm_Y og 60 285 662 [(3, .int 0), (2, .ref 55), (1, .ref 0), (0, .retAddr 0)] [] h (fun r h1 => r = some (.int 1) ∧ h1.length ≤ 600000 ∧ zm_szs h1 ≤ 7302249) := by
  refine zy_n 5 (mr := zm_m285) (pc' := 667) (ls' := [(3, .int 0), (2, .ref 55), (1, .ref 0), (0, .retAddr 0)]) (st' := [.int 1, .retAddr 0, .ref 0]) rfl rfl ?_
  refine zy_h (mr := zm_m285) rfl rfl (zh_ialdO (v := xs 1) hO (by decide) rfl) ?_
  refine zy_c (mc := zm_m35) (mr := zm_m285) rfl rfl (zh_v rfl (zp_o F 0 rfl) rfl) rfl rfl (zm_Y.mono ((zx_10 F (xs 1)).deep (by decide)) ?_)
  rintro r h1 ⟨⟨v, rfl, hv⟩, K, KL, KS⟩
  refine zy_n 5 (mr := zm_m285) (pc' := 676) (ls' := [(3, .int 0), (2, .ref 55), (1, .ref 0), (0, .retAddr 0)]) (st' := [.int 1, .retAddr 0, .ref 55, .int v]) rfl rfl ?_
  refine zy_h (mr := zm_m285) rfl rfl (zh_ialdO (v := xs 1) hO (by decide) rfl) ?_
  refine zy_c (mc := zm_m201) (mr := zm_m285) rfl rfl (zh_v rfl ((K 55 (by decide) (by decide)).trans (zp_o F 10 rfl)) rfl) rfl rfl (zm_Y.mono ((zn_10 F K KL KS (xs 1)).deep (by decide)) ?_)
  rintro r h2 ⟨⟨w, rfl, hw⟩, KL2, KS2⟩
  have e : v = w := zg_10 hv hw
  subst e
  refine zy_b (mr := zm_m285) rfl rfl rfl (zc_eq (fun _ => ?_) (fun hc => absurd rfl hc))
  refine zy_n 4 (mr := zm_m285) (pc' := 20) (ls' := [(3, .int 7), (2, .ref 55), (1, .ref 0), (0, .retAddr 0)]) (st' := [.retAddr 0, .int 7]) rfl rfl ?_
  refine zy_h (q := (.int 7 :: [.int 7], _)) (mr := zm_m285) rfl rfl (zh_alenO hO) ?_
  refine zy_n 2 (mr := zm_m285) (pc' := 24) (ls' := [(3, .int 7), (2, .ref 55), (1, .ref 0), (0, .retAddr 0)]) (st' := [.int 0, .int 7]) rfl rfl ?_
  refine zy_b (q := (1983, [])) (mr := zm_m285) rfl rfl rfl ?_
  refine zy_n 1 (mr := zm_m285) (pc' := 1984) (ls' := [(3, .int 7), (2, .ref 55), (1, .ref 0), (0, .retAddr 0)]) (st' := [.int 1]) rfl rfl ?_
  refine zy_r (mr := zm_m285) rfl rfl rfl ?_
  exact ⟨rfl, Nat.le_trans KL2 (by decide), Nat.le_trans KS2 (by decide)⟩
set_option maxHeartbeats 4000000 in
set_option maxRecDepth 20000 in
theorem zz_11 {og : Nat → Option zm_C} {xs : Nat → Int32} {h : zm_H} (hO : og 0 = some (.inl (0, 7, .inl xs))) (F : zp_ck h = true) : zm_Y og 60 285 685 [(3, .int 0), (2, .ref 55), (1, .ref 0), (0, .retAddr 0)] [] h (fun r h1 => r = some (.int 1) ∧ h1.length ≤ 600000 ∧ zm_szs h1 ≤ 7302249) := by
  refine zy_n 1 (mr := zm_m285) (pc' := 686) (ls' := [(3, .int 0), (2, .ref 55), (1, .ref 0), (0, .retAddr 0)]) (st' := [.ref 0]) rfl rfl ?_
  refine zy_c (mc := zm_m73) (mr := zm_m285) rfl rfl (zh_v rfl (zp_o F 0 rfl) rfl) rfl rfl (zm_Y.mono ((zx_11 F ).deep (by decide)) ?_)
  rintro r h1 ⟨⟨v, rfl, hv⟩, K, KL, KS⟩
  refine zy_n 1 (mr := zm_m285) (pc' := 690) (ls' := [(3, .int 0), (2, .ref 55), (1, .ref 0), (0, .retAddr 0)]) (st' := [.ref 55, .int v]) rfl rfl ?_
  refine zy_c (mc := zm_m231) (mr := zm_m285) rfl rfl (zh_v rfl ((K 55 (by decide) (by decide)).trans (zp_o F 10 rfl)) rfl) rfl rfl (zm_Y.mono ((zn_11 F K KL KS ).deep (by decide)) ?_)
  rintro r h2 ⟨⟨w, rfl, hw⟩, KL2, KS2⟩
  have e : v = w := zg_11 hv hw
  subst e
  refine zy_b (mr := zm_m285) rfl rfl rfl (zc_eq (fun _ => ?_) (fun hc => absurd rfl hc))
  refine zy_n 4 (mr := zm_m285) (pc' := 20) (ls' := [(3, .int 7), (2, .ref 55), (1, .ref 0), (0, .retAddr 0)]) (st' := [.retAddr 0, .int 7]) rfl rfl ?_
  refine zy_h (q := (.int 7 :: [.int 7], _)) (mr := zm_m285) rfl rfl (zh_alenO hO) ?_
  refine zy_n 2 (mr := zm_m285) (pc' := 24) (ls' := [(3, .int 7), (2, .ref 55), (1, .ref 0), (0, .retAddr 0)]) (st' := [.int 0, .int 7]) rfl rfl ?_
  refine zy_b (q := (1983, [])) (mr := zm_m285) rfl rfl rfl ?_
  refine zy_n 1 (mr := zm_m285) (pc' := 1984) (ls' := [(3, .int 7), (2, .ref 55), (1, .ref 0), (0, .retAddr 0)]) (st' := [.int 1]) rfl rfl ?_
  refine zy_r (mr := zm_m285) rfl rfl rfl ?_
  exact ⟨rfl, Nat.le_trans KL2 (by decide), Nat.le_trans KS2 (by decide)⟩
set_option maxHeartbeats 4000000 in
set_option maxRecDepth 20000 in
theorem zz_12 {og : Nat → Option zm_C} {xs : Nat → Int32} {h : zm_H} (hO : og 0 = some (.inl (0, 7, .inl xs))) (F : zp_ck h = true) : zm_Y og 60 285 698 [(3, .int 0), (2, .ref 55), (1, .ref 0), (0, .retAddr 0)] [] h (fun r h1 => r = some (.int 1) ∧ h1.length ≤ 600000 ∧ zm_szs h1 ≤ 7302249) := by
  refine zy_n 5 (mr := zm_m285) (pc' := 703) (ls' := [(3, .int 0), (2, .ref 55), (1, .ref 0), (0, .retAddr 0)]) (st' := [.int 1, .retAddr 0, .ref 0]) rfl rfl ?_
  refine zy_h (mr := zm_m285) rfl rfl (zh_ialdO (v := xs 1) hO (by decide) rfl) ?_
  refine zy_n 4 (mr := zm_m285) (pc' := 708) (ls' := [(3, .int 0), (2, .ref 55), (1, .ref 0), (0, .retAddr 0)]) (st' := [.int 2, .retAddr 0, .int (xs 1), .ref 0]) rfl rfl ?_
  refine zy_h (mr := zm_m285) rfl rfl (zh_ialdO (v := xs 2) hO (by decide) rfl) ?_
  refine zy_n 4 (mr := zm_m285) (pc' := 713) (ls' := [(3, .int 0), (2, .ref 55), (1, .ref 0), (0, .retAddr 0)]) (st' := [.int 3, .retAddr 0, .int (xs 2), .int (xs 1), .ref 0]) rfl rfl ?_
  refine zy_h (mr := zm_m285) rfl rfl (zh_ialdO (v := xs 3) hO (by decide) rfl) ?_
  refine zy_c (mc := zm_m74) (mr := zm_m285) rfl rfl (zh_v rfl (zp_o F 0 rfl) rfl) rfl rfl (zm_Y.mono ((zx_12 F (xs 1) (xs 2) (xs 3)).deep (by decide)) ?_)
  rintro r h1 ⟨⟨v, rfl, hv⟩, K, KL, KS⟩
  refine zy_n 5 (mr := zm_m285) (pc' := 722) (ls' := [(3, .int 0), (2, .ref 55), (1, .ref 0), (0, .retAddr 0)]) (st' := [.int 1, .retAddr 0, .ref 55, .int v]) rfl rfl ?_
  refine zy_h (mr := zm_m285) rfl rfl (zh_ialdO (v := xs 1) hO (by decide) rfl) ?_
  refine zy_n 4 (mr := zm_m285) (pc' := 727) (ls' := [(3, .int 0), (2, .ref 55), (1, .ref 0), (0, .retAddr 0)]) (st' := [.int 2, .retAddr 0, .int (xs 1), .ref 55, .int v]) rfl rfl ?_
  refine zy_h (mr := zm_m285) rfl rfl (zh_ialdO (v := xs 2) hO (by decide) rfl) ?_
  refine zy_n 4 (mr := zm_m285) (pc' := 732) (ls' := [(3, .int 0), (2, .ref 55), (1, .ref 0), (0, .retAddr 0)]) (st' := [.int 3, .retAddr 0, .int (xs 2), .int (xs 1), .ref 55, .int v]) rfl rfl ?_
  refine zy_h (mr := zm_m285) rfl rfl (zh_ialdO (v := xs 3) hO (by decide) rfl) ?_
  refine zy_c (mc := zm_m232) (mr := zm_m285) rfl rfl (zh_v rfl ((K 55 (by decide) (by decide)).trans (zp_o F 10 rfl)) rfl) rfl rfl (zm_Y.mono ((zn_12 F K KL KS (xs 1) (xs 2) (xs 3)).deep (by decide)) ?_)
  rintro r h2 ⟨⟨w, rfl, hw⟩, KL2, KS2⟩
  have e : v = w := zg_12 hv hw
  subst e
  refine zy_b (mr := zm_m285) rfl rfl rfl (zc_eq (fun _ => ?_) (fun hc => absurd rfl hc))
  refine zy_n 4 (mr := zm_m285) (pc' := 20) (ls' := [(3, .int 7), (2, .ref 55), (1, .ref 0), (0, .retAddr 0)]) (st' := [.retAddr 0, .int 7]) rfl rfl ?_
  refine zy_h (q := (.int 7 :: [.int 7], _)) (mr := zm_m285) rfl rfl (zh_alenO hO) ?_
  refine zy_n 2 (mr := zm_m285) (pc' := 24) (ls' := [(3, .int 7), (2, .ref 55), (1, .ref 0), (0, .retAddr 0)]) (st' := [.int 0, .int 7]) rfl rfl ?_
  refine zy_b (q := (1983, [])) (mr := zm_m285) rfl rfl rfl ?_
  refine zy_n 1 (mr := zm_m285) (pc' := 1984) (ls' := [(3, .int 7), (2, .ref 55), (1, .ref 0), (0, .retAddr 0)]) (st' := [.int 1]) rfl rfl ?_
  refine zy_r (mr := zm_m285) rfl rfl rfl ?_
  exact ⟨rfl, Nat.le_trans KL2 (by decide), Nat.le_trans KS2 (by decide)⟩
set_option maxHeartbeats 4000000 in
set_option maxRecDepth 20000 in
theorem zz_13 {og : Nat → Option zm_C} {xs : Nat → Int32} {h : zm_H} (hO : og 0 = some (.inl (0, 7, .inl xs))) (F : zp_ck h = true) : zm_Y og 60 285 741 [(3, .int 0), (2, .ref 55), (1, .ref 0), (0, .retAddr 0)] [] h (fun r h1 => r = some (.int 1) ∧ h1.length ≤ 600000 ∧ zm_szs h1 ≤ 7302249) := by
  refine zy_n 5 (mr := zm_m285) (pc' := 746) (ls' := [(3, .int 0), (2, .ref 55), (1, .ref 0), (0, .retAddr 0)]) (st' := [.int 1, .retAddr 0, .ref 0]) rfl rfl ?_
  refine zy_h (mr := zm_m285) rfl rfl (zh_ialdO (v := xs 1) hO (by decide) rfl) ?_
  refine zy_n 4 (mr := zm_m285) (pc' := 751) (ls' := [(3, .int 0), (2, .ref 55), (1, .ref 0), (0, .retAddr 0)]) (st' := [.int 2, .retAddr 0, .int (xs 1), .ref 0]) rfl rfl ?_
  refine zy_h (mr := zm_m285) rfl rfl (zh_ialdO (v := xs 2) hO (by decide) rfl) ?_
  refine zy_n 4 (mr := zm_m285) (pc' := 756) (ls' := [(3, .int 0), (2, .ref 55), (1, .ref 0), (0, .retAddr 0)]) (st' := [.int 3, .retAddr 0, .int (xs 2), .int (xs 1), .ref 0]) rfl rfl ?_
  refine zy_h (mr := zm_m285) rfl rfl (zh_ialdO (v := xs 3) hO (by decide) rfl) ?_
  refine zy_c (mc := zm_m84) (mr := zm_m285) rfl rfl (zh_v rfl (zp_o F 0 rfl) rfl) rfl rfl (zm_Y.mono ((zx_13 F (xs 1) (xs 2) (xs 3)).deep (by decide)) ?_)
  rintro r h1 ⟨⟨v, rfl, hv⟩, K, KL, KS⟩
  refine zy_n 5 (mr := zm_m285) (pc' := 765) (ls' := [(3, .int 0), (2, .ref 55), (1, .ref 0), (0, .retAddr 0)]) (st' := [.int 1, .retAddr 0, .ref 55, .int v]) rfl rfl ?_
  refine zy_h (mr := zm_m285) rfl rfl (zh_ialdO (v := xs 1) hO (by decide) rfl) ?_
  refine zy_n 4 (mr := zm_m285) (pc' := 770) (ls' := [(3, .int 0), (2, .ref 55), (1, .ref 0), (0, .retAddr 0)]) (st' := [.int 2, .retAddr 0, .int (xs 1), .ref 55, .int v]) rfl rfl ?_
  refine zy_h (mr := zm_m285) rfl rfl (zh_ialdO (v := xs 2) hO (by decide) rfl) ?_
  refine zy_n 4 (mr := zm_m285) (pc' := 775) (ls' := [(3, .int 0), (2, .ref 55), (1, .ref 0), (0, .retAddr 0)]) (st' := [.int 3, .retAddr 0, .int (xs 2), .int (xs 1), .ref 55, .int v]) rfl rfl ?_
  refine zy_h (mr := zm_m285) rfl rfl (zh_ialdO (v := xs 3) hO (by decide) rfl) ?_
  refine zy_c (mc := zm_m235) (mr := zm_m285) rfl rfl (zh_v rfl ((K 55 (by decide) (by decide)).trans (zp_o F 10 rfl)) rfl) rfl rfl (zm_Y.mono ((zn_13 F K KL KS (xs 1) (xs 2) (xs 3)).deep (by decide)) ?_)
  rintro r h2 ⟨⟨w, rfl, hw⟩, KL2, KS2⟩
  have e : v = w := zg_13 hv hw
  subst e
  refine zy_b (mr := zm_m285) rfl rfl rfl (zc_eq (fun _ => ?_) (fun hc => absurd rfl hc))
  refine zy_n 4 (mr := zm_m285) (pc' := 20) (ls' := [(3, .int 7), (2, .ref 55), (1, .ref 0), (0, .retAddr 0)]) (st' := [.retAddr 0, .int 7]) rfl rfl ?_
  refine zy_h (q := (.int 7 :: [.int 7], _)) (mr := zm_m285) rfl rfl (zh_alenO hO) ?_
  refine zy_n 2 (mr := zm_m285) (pc' := 24) (ls' := [(3, .int 7), (2, .ref 55), (1, .ref 0), (0, .retAddr 0)]) (st' := [.int 0, .int 7]) rfl rfl ?_
  refine zy_b (q := (1983, [])) (mr := zm_m285) rfl rfl rfl ?_
  refine zy_n 1 (mr := zm_m285) (pc' := 1984) (ls' := [(3, .int 7), (2, .ref 55), (1, .ref 0), (0, .retAddr 0)]) (st' := [.int 1]) rfl rfl ?_
  refine zy_r (mr := zm_m285) rfl rfl rfl ?_
  exact ⟨rfl, Nat.le_trans KL2 (by decide), Nat.le_trans KS2 (by decide)⟩
set_option maxHeartbeats 4000000 in
set_option maxRecDepth 20000 in
theorem zz_14 {og : Nat → Option zm_C} {xs : Nat → Int32} {h : zm_H} (hO : og 0 = some (.inl (0, 7, .inl xs))) (F : zp_ck h = true) : zm_Y og 60 285 784 [(3, .int 0), (2, .ref 55), (1, .ref 0), (0, .retAddr 0)] [] h (fun r h1 => r = some (.int 1) ∧ h1.length ≤ 600000 ∧ zm_szs h1 ≤ 7302249) := by
  refine zy_n 5 (mr := zm_m285) (pc' := 789) (ls' := [(3, .int 0), (2, .ref 55), (1, .ref 0), (0, .retAddr 0)]) (st' := [.int 1, .retAddr 0, .ref 0]) rfl rfl ?_
  refine zy_h (mr := zm_m285) rfl rfl (zh_ialdO (v := xs 1) hO (by decide) rfl) ?_
  refine zy_n 4 (mr := zm_m285) (pc' := 794) (ls' := [(3, .int 0), (2, .ref 55), (1, .ref 0), (0, .retAddr 0)]) (st' := [.int 2, .retAddr 0, .int (xs 1), .ref 0]) rfl rfl ?_
  refine zy_h (mr := zm_m285) rfl rfl (zh_ialdO (v := xs 2) hO (by decide) rfl) ?_
  refine zy_n 4 (mr := zm_m285) (pc' := 799) (ls' := [(3, .int 0), (2, .ref 55), (1, .ref 0), (0, .retAddr 0)]) (st' := [.int 3, .retAddr 0, .int (xs 2), .int (xs 1), .ref 0]) rfl rfl ?_
  refine zy_h (mr := zm_m285) rfl rfl (zh_ialdO (v := xs 3) hO (by decide) rfl) ?_
  refine zy_c (mc := zm_m89) (mr := zm_m285) rfl rfl (zh_v rfl (zp_o F 0 rfl) rfl) rfl rfl (zm_Y.mono ((zx_14 F (xs 1) (xs 2) (xs 3)).deep (by decide)) ?_)
  rintro r h1 ⟨⟨v, rfl, hv⟩, K, KL, KS⟩
  refine zy_n 5 (mr := zm_m285) (pc' := 808) (ls' := [(3, .int 0), (2, .ref 55), (1, .ref 0), (0, .retAddr 0)]) (st' := [.int 1, .retAddr 0, .ref 55, .long v]) rfl rfl ?_
  refine zy_h (mr := zm_m285) rfl rfl (zh_ialdO (v := xs 1) hO (by decide) rfl) ?_
  refine zy_n 4 (mr := zm_m285) (pc' := 813) (ls' := [(3, .int 0), (2, .ref 55), (1, .ref 0), (0, .retAddr 0)]) (st' := [.int 2, .retAddr 0, .int (xs 1), .ref 55, .long v]) rfl rfl ?_
  refine zy_h (mr := zm_m285) rfl rfl (zh_ialdO (v := xs 2) hO (by decide) rfl) ?_
  refine zy_n 4 (mr := zm_m285) (pc' := 818) (ls' := [(3, .int 0), (2, .ref 55), (1, .ref 0), (0, .retAddr 0)]) (st' := [.int 3, .retAddr 0, .int (xs 2), .int (xs 1), .ref 55, .long v]) rfl rfl ?_
  refine zy_h (mr := zm_m285) rfl rfl (zh_ialdO (v := xs 3) hO (by decide) rfl) ?_
  refine zy_c (mc := zm_m238) (mr := zm_m285) rfl rfl (zh_v rfl ((K 55 (by decide) (by decide)).trans (zp_o F 10 rfl)) rfl) rfl rfl (zm_Y.mono ((zn_14 F K KL KS (xs 1) (xs 2) (xs 3)).deep (by decide)) ?_)
  rintro r h2 ⟨⟨w, rfl, hw⟩, KL2, KS2⟩
  have e : v = w := zg_14 hv hw
  subst e
  refine zy_n 1 (mr := zm_m285) (pc' := 823) (ls' := [(3, .int 0), (2, .ref 55), (1, .ref 0), (0, .retAddr 0)]) (st' := [.int (lg_cmp v v)]) rfl rfl ?_
  refine zy_b (mr := zm_m285) rfl rfl rfl (zi_eq (fun _ => ?_) (fun hc => absurd ((lg_cmp_eq v v).mpr rfl) hc))
  refine zy_n 4 (mr := zm_m285) (pc' := 20) (ls' := [(3, .int 7), (2, .ref 55), (1, .ref 0), (0, .retAddr 0)]) (st' := [.retAddr 0, .int 7]) rfl rfl ?_
  refine zy_h (q := (.int 7 :: [.int 7], _)) (mr := zm_m285) rfl rfl (zh_alenO hO) ?_
  refine zy_n 2 (mr := zm_m285) (pc' := 24) (ls' := [(3, .int 7), (2, .ref 55), (1, .ref 0), (0, .retAddr 0)]) (st' := [.int 0, .int 7]) rfl rfl ?_
  refine zy_b (q := (1983, [])) (mr := zm_m285) rfl rfl rfl ?_
  refine zy_n 1 (mr := zm_m285) (pc' := 1984) (ls' := [(3, .int 7), (2, .ref 55), (1, .ref 0), (0, .retAddr 0)]) (st' := [.int 1]) rfl rfl ?_
  refine zy_r (mr := zm_m285) rfl rfl rfl ?_
  exact ⟨rfl, Nat.le_trans KL2 (by decide), Nat.le_trans KS2 (by decide)⟩
set_option maxHeartbeats 4000000 in
set_option maxRecDepth 20000 in
theorem zz_15 {og : Nat → Option zm_C} {xs : Nat → Int32} {h : zm_H} (hO : og 0 = some (.inl (0, 7, .inl xs))) (F : zp_ck h = true) : zm_Y og 60 285 828 [(3, .int 0), (2, .ref 55), (1, .ref 0), (0, .retAddr 0)] [] h (fun r h1 => r = some (.int 1) ∧ h1.length ≤ 600000 ∧ zm_szs h1 ≤ 7302249) := by
  refine zy_n 5 (mr := zm_m285) (pc' := 833) (ls' := [(3, .int 0), (2, .ref 55), (1, .ref 0), (0, .retAddr 0)]) (st' := [.int 1, .retAddr 0, .ref 0]) rfl rfl ?_
  refine zy_h (mr := zm_m285) rfl rfl (zh_ialdO (v := xs 1) hO (by decide) rfl) ?_
  refine zy_c (mc := zm_m92) (mr := zm_m285) rfl rfl (zh_v rfl (zp_o F 0 rfl) rfl) rfl rfl (zm_Y.mono ((zx_15 F (xs 1)).deep (by decide)) ?_)
  rintro r h1 ⟨⟨v, rfl, hv⟩, K, KL, KS⟩
  refine zy_n 5 (mr := zm_m285) (pc' := 842) (ls' := [(3, .int 0), (2, .ref 55), (1, .ref 0), (0, .retAddr 0)]) (st' := [.int 1, .retAddr 0, .ref 55, .long v]) rfl rfl ?_
  refine zy_h (mr := zm_m285) rfl rfl (zh_ialdO (v := xs 1) hO (by decide) rfl) ?_
  refine zy_c (mc := zm_m240) (mr := zm_m285) rfl rfl (zh_v rfl ((K 55 (by decide) (by decide)).trans (zp_o F 10 rfl)) rfl) rfl rfl (zm_Y.mono ((zn_15 F K KL KS (xs 1)).deep (by decide)) ?_)
  rintro r h2 ⟨⟨w, rfl, hw⟩, KL2, KS2⟩
  have e : v = w := zg_15 hv hw
  subst e
  refine zy_n 1 (mr := zm_m285) (pc' := 847) (ls' := [(3, .int 0), (2, .ref 55), (1, .ref 0), (0, .retAddr 0)]) (st' := [.int (lg_cmp v v)]) rfl rfl ?_
  refine zy_b (mr := zm_m285) rfl rfl rfl (zi_eq (fun _ => ?_) (fun hc => absurd ((lg_cmp_eq v v).mpr rfl) hc))
  refine zy_n 4 (mr := zm_m285) (pc' := 20) (ls' := [(3, .int 7), (2, .ref 55), (1, .ref 0), (0, .retAddr 0)]) (st' := [.retAddr 0, .int 7]) rfl rfl ?_
  refine zy_h (q := (.int 7 :: [.int 7], _)) (mr := zm_m285) rfl rfl (zh_alenO hO) ?_
  refine zy_n 2 (mr := zm_m285) (pc' := 24) (ls' := [(3, .int 7), (2, .ref 55), (1, .ref 0), (0, .retAddr 0)]) (st' := [.int 0, .int 7]) rfl rfl ?_
  refine zy_b (q := (1983, [])) (mr := zm_m285) rfl rfl rfl ?_
  refine zy_n 1 (mr := zm_m285) (pc' := 1984) (ls' := [(3, .int 7), (2, .ref 55), (1, .ref 0), (0, .retAddr 0)]) (st' := [.int 1]) rfl rfl ?_
  refine zy_r (mr := zm_m285) rfl rfl rfl ?_
  exact ⟨rfl, Nat.le_trans KL2 (by decide), Nat.le_trans KS2 (by decide)⟩
set_option maxHeartbeats 4000000 in
set_option maxRecDepth 20000 in
theorem zz_16 {og : Nat → Option zm_C} {xs : Nat → Int32} {h : zm_H} (hO : og 0 = some (.inl (0, 7, .inl xs))) (F : zp_ck h = true) : zm_Y og 60 285 852 [(3, .int 0), (2, .ref 55), (1, .ref 0), (0, .retAddr 0)] [] h (fun r h1 => r = some (.int 1) ∧ h1.length ≤ 600000 ∧ zm_szs h1 ≤ 7302249) := by
  refine zy_n 5 (mr := zm_m285) (pc' := 857) (ls' := [(3, .int 0), (2, .ref 55), (1, .ref 0), (0, .retAddr 0)]) (st' := [.int 1, .retAddr 0, .ref 0]) rfl rfl ?_
  refine zy_h (mr := zm_m285) rfl rfl (zh_ialdO (v := xs 1) hO (by decide) rfl) ?_
  refine zy_n 4 (mr := zm_m285) (pc' := 862) (ls' := [(3, .int 0), (2, .ref 55), (1, .ref 0), (0, .retAddr 0)]) (st' := [.int 2, .retAddr 0, .int (xs 1), .ref 0]) rfl rfl ?_
  refine zy_h (mr := zm_m285) rfl rfl (zh_ialdO (v := xs 2) hO (by decide) rfl) ?_
  refine zy_c (mc := zm_m95) (mr := zm_m285) rfl rfl (zh_v rfl (zp_o F 0 rfl) rfl) rfl rfl (zm_Y.mono ((zx_16 F (xs 1) (xs 2)).deep (by decide)) ?_)
  rintro r h1 ⟨⟨v, rfl, hv⟩, K, KL, KS⟩
  refine zy_n 5 (mr := zm_m285) (pc' := 871) (ls' := [(3, .int 0), (2, .ref 55), (1, .ref 0), (0, .retAddr 0)]) (st' := [.int 1, .retAddr 0, .ref 55, .long v]) rfl rfl ?_
  refine zy_h (mr := zm_m285) rfl rfl (zh_ialdO (v := xs 1) hO (by decide) rfl) ?_
  refine zy_n 4 (mr := zm_m285) (pc' := 876) (ls' := [(3, .int 0), (2, .ref 55), (1, .ref 0), (0, .retAddr 0)]) (st' := [.int 2, .retAddr 0, .int (xs 1), .ref 55, .long v]) rfl rfl ?_
  refine zy_h (mr := zm_m285) rfl rfl (zh_ialdO (v := xs 2) hO (by decide) rfl) ?_
  refine zy_c (mc := zm_m243) (mr := zm_m285) rfl rfl (zh_v rfl ((K 55 (by decide) (by decide)).trans (zp_o F 10 rfl)) rfl) rfl rfl (zm_Y.mono ((zn_16 F K KL KS (xs 1) (xs 2)).deep (by decide)) ?_)
  rintro r h2 ⟨⟨w, rfl, hw⟩, KL2, KS2⟩
  have e : v = w := zg_16 hv hw
  subst e
  refine zy_n 1 (mr := zm_m285) (pc' := 881) (ls' := [(3, .int 0), (2, .ref 55), (1, .ref 0), (0, .retAddr 0)]) (st' := [.int (lg_cmp v v)]) rfl rfl ?_
  refine zy_b (mr := zm_m285) rfl rfl rfl (zi_eq (fun _ => ?_) (fun hc => absurd ((lg_cmp_eq v v).mpr rfl) hc))
  refine zy_n 4 (mr := zm_m285) (pc' := 20) (ls' := [(3, .int 7), (2, .ref 55), (1, .ref 0), (0, .retAddr 0)]) (st' := [.retAddr 0, .int 7]) rfl rfl ?_
  refine zy_h (q := (.int 7 :: [.int 7], _)) (mr := zm_m285) rfl rfl (zh_alenO hO) ?_
  refine zy_n 2 (mr := zm_m285) (pc' := 24) (ls' := [(3, .int 7), (2, .ref 55), (1, .ref 0), (0, .retAddr 0)]) (st' := [.int 0, .int 7]) rfl rfl ?_
  refine zy_b (q := (1983, [])) (mr := zm_m285) rfl rfl rfl ?_
  refine zy_n 1 (mr := zm_m285) (pc' := 1984) (ls' := [(3, .int 7), (2, .ref 55), (1, .ref 0), (0, .retAddr 0)]) (st' := [.int 1]) rfl rfl ?_
  refine zy_r (mr := zm_m285) rfl rfl rfl ?_
  exact ⟨rfl, Nat.le_trans KL2 (by decide), Nat.le_trans KS2 (by decide)⟩
set_option maxHeartbeats 4000000 in
set_option maxRecDepth 20000 in
theorem zz_17 {og : Nat → Option zm_C} {xs : Nat → Int32} {h : zm_H} (hO : og 0 = some (.inl (0, 7, .inl xs))) (F : zp_ck h = true) : zm_Y og 60 285 886 [(3, .int 0), (2, .ref 55), (1, .ref 0), (0, .retAddr 0)] [] h (fun r h1 => r = some (.int 1) ∧ h1.length ≤ 600000 ∧ zm_szs h1 ≤ 7302249) := by
  refine zy_n 5 (mr := zm_m285) (pc' := 891) (ls' := [(3, .int 0), (2, .ref 55), (1, .ref 0), (0, .retAddr 0)]) (st' := [.int 1, .retAddr 0, .ref 0]) rfl rfl ?_
  refine zy_h (mr := zm_m285) rfl rfl (zh_ialdO (v := xs 1) hO (by decide) rfl) ?_
  refine zy_c (mc := zm_m104) (mr := zm_m285) rfl rfl (zh_v rfl (zp_o F 0 rfl) rfl) rfl rfl (zm_Y.mono ((zx_17 F (xs 1)).deep (by decide)) ?_)
  rintro r h1 ⟨⟨v, rfl, hv⟩, K, KL, KS⟩
  refine zy_n 5 (mr := zm_m285) (pc' := 900) (ls' := [(3, .int 0), (2, .ref 55), (1, .ref 0), (0, .retAddr 0)]) (st' := [.int 1, .retAddr 0, .ref 55, .int v]) rfl rfl ?_
  refine zy_h (mr := zm_m285) rfl rfl (zh_ialdO (v := xs 1) hO (by decide) rfl) ?_
  refine zy_c (mc := zm_m251) (mr := zm_m285) rfl rfl (zh_v rfl ((K 55 (by decide) (by decide)).trans (zp_o F 10 rfl)) rfl) rfl rfl (zm_Y.mono ((zn_17 F K KL KS (xs 1)).deep (by decide)) ?_)
  rintro r h2 ⟨⟨w, rfl, hw⟩, KL2, KS2⟩
  have e : v = w := zg_17 hv hw
  subst e
  refine zy_b (mr := zm_m285) rfl rfl rfl (zc_eq (fun _ => ?_) (fun hc => absurd rfl hc))
  refine zy_n 4 (mr := zm_m285) (pc' := 20) (ls' := [(3, .int 7), (2, .ref 55), (1, .ref 0), (0, .retAddr 0)]) (st' := [.retAddr 0, .int 7]) rfl rfl ?_
  refine zy_h (q := (.int 7 :: [.int 7], _)) (mr := zm_m285) rfl rfl (zh_alenO hO) ?_
  refine zy_n 2 (mr := zm_m285) (pc' := 24) (ls' := [(3, .int 7), (2, .ref 55), (1, .ref 0), (0, .retAddr 0)]) (st' := [.int 0, .int 7]) rfl rfl ?_
  refine zy_b (q := (1983, [])) (mr := zm_m285) rfl rfl rfl ?_
  refine zy_n 1 (mr := zm_m285) (pc' := 1984) (ls' := [(3, .int 7), (2, .ref 55), (1, .ref 0), (0, .retAddr 0)]) (st' := [.int 1]) rfl rfl ?_
  refine zy_r (mr := zm_m285) rfl rfl rfl ?_
  exact ⟨rfl, Nat.le_trans KL2 (by decide), Nat.le_trans KS2 (by decide)⟩
set_option maxHeartbeats 4000000 in
set_option maxRecDepth 20000 in
theorem zz_18 {og : Nat → Option zm_C} {xs : Nat → Int32} {h : zm_H} (hO : og 0 = some (.inl (0, 7, .inl xs))) (F : zp_ck h = true) : zm_Y og 60 285 909 [(3, .int 0), (2, .ref 55), (1, .ref 0), (0, .retAddr 0)] [] h (fun r h1 => r = some (.int 1) ∧ h1.length ≤ 600000 ∧ zm_szs h1 ≤ 7302249) := by
  refine zy_n 1 (mr := zm_m285) (pc' := 910) (ls' := [(3, .int 0), (2, .ref 55), (1, .ref 0), (0, .retAddr 0)]) (st' := [.ref 0]) rfl rfl ?_
  refine zy_c (mc := zm_m105) (mr := zm_m285) rfl rfl (zh_v rfl (zp_o F 0 rfl) rfl) rfl rfl (zm_Y.mono ((zx_18 F ).deep (by decide)) ?_)
  rintro r h1 ⟨⟨v, rfl, hv⟩, K, KL, KS⟩
  refine zy_n 1 (mr := zm_m285) (pc' := 914) (ls' := [(3, .int 0), (2, .ref 55), (1, .ref 0), (0, .retAddr 0)]) (st' := [.ref 55, .int v]) rfl rfl ?_
  refine zy_c (mc := zm_m252) (mr := zm_m285) rfl rfl (zh_v rfl ((K 55 (by decide) (by decide)).trans (zp_o F 10 rfl)) rfl) rfl rfl (zm_Y.mono ((zn_18 F K KL KS ).deep (by decide)) ?_)
  rintro r h2 ⟨⟨w, rfl, hw⟩, KL2, KS2⟩
  have e : v = w := zg_18 hv hw
  subst e
  refine zy_b (mr := zm_m285) rfl rfl rfl (zc_eq (fun _ => ?_) (fun hc => absurd rfl hc))
  refine zy_n 4 (mr := zm_m285) (pc' := 20) (ls' := [(3, .int 7), (2, .ref 55), (1, .ref 0), (0, .retAddr 0)]) (st' := [.retAddr 0, .int 7]) rfl rfl ?_
  refine zy_h (q := (.int 7 :: [.int 7], _)) (mr := zm_m285) rfl rfl (zh_alenO hO) ?_
  refine zy_n 2 (mr := zm_m285) (pc' := 24) (ls' := [(3, .int 7), (2, .ref 55), (1, .ref 0), (0, .retAddr 0)]) (st' := [.int 0, .int 7]) rfl rfl ?_
  refine zy_b (q := (1983, [])) (mr := zm_m285) rfl rfl rfl ?_
  refine zy_n 1 (mr := zm_m285) (pc' := 1984) (ls' := [(3, .int 7), (2, .ref 55), (1, .ref 0), (0, .retAddr 0)]) (st' := [.int 1]) rfl rfl ?_
  refine zy_r (mr := zm_m285) rfl rfl rfl ?_
  exact ⟨rfl, Nat.le_trans KL2 (by decide), Nat.le_trans KS2 (by decide)⟩
