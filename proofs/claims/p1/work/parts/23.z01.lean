set_option maxHeartbeats 4000000 in
set_option maxRecDepth 20000 in
theorem zz_19 {og : Nat → Option zm_C} {xs : Nat → Int32} {h : zm_H} (hO : og 0 = some (.inl (0, 7, .inl xs))) (F : zp_ck h = true) : zm_Y og 60 285 922 [(3, .int 0), (2, .ref 55), (1, .ref 0), (0, .retAddr 0)] [] h (fun r h1 => r = some (.int 1) ∧ h1.length ≤ 600000 ∧ zm_szs h1 ≤ 7302249) := by
  refine zy_n 5 (mr := zm_m285) (pc' := 927) (ls' := [(3, .int 0), (2, .ref 55), (1, .ref 0), (0, .retAddr 0)]) (st' := [.int 1, .retAddr 0, .ref 0]) rfl rfl ?_
  refine zy_h (mr := zm_m285) rfl rfl (zh_ialdO (v := xs 1) hO (by decide) rfl) ?_
  refine zy_n 4 (mr := zm_m285) (pc' := 932) (ls' := [(3, .int 0), (2, .ref 55), (1, .ref 0), (0, .retAddr 0)]) (st' := [.int 2, .retAddr 0, .int (xs 1), .ref 0]) rfl rfl ?_
  refine zy_h (mr := zm_m285) rfl rfl (zh_ialdO (v := xs 2) hO (by decide) rfl) ?_
  refine zy_n 4 (mr := zm_m285) (pc' := 937) (ls' := [(3, .int 0), (2, .ref 55), (1, .ref 0), (0, .retAddr 0)]) (st' := [.int 3, .retAddr 0, .int (xs 2), .int (xs 1), .ref 0]) rfl rfl ?_
  refine zy_h (mr := zm_m285) rfl rfl (zh_ialdO (v := xs 3) hO (by decide) rfl) ?_
  refine zy_n 4 (mr := zm_m285) (pc' := 942) (ls' := [(3, .int 0), (2, .ref 55), (1, .ref 0), (0, .retAddr 0)]) (st' := [.int 4, .retAddr 0, .int (xs 3), .int (xs 2), .int (xs 1), .ref 0]) rfl rfl ?_
  refine zy_h (mr := zm_m285) rfl rfl (zh_ialdO (v := xs 4) hO (by decide) rfl) ?_
  refine zy_b (mr := zm_m285) rfl rfl rfl (zi_eq (fun hc1 => ?_) (fun hc1 => ?_))
  · skip
    refine zy_n 5 (mr := zm_m285) (pc' := 955) (ls' := [(3, .int 0), (2, .ref 55), (1, .ref 0), (0, .retAddr 0)]) (st' := [.int 5, .retAddr 0, .int 0, .int (xs 3), .int (xs 2), .int (xs 1), .ref 0]) rfl rfl ?_
    refine zy_h (mr := zm_m285) rfl rfl (zh_ialdO (v := xs 5) hO (by decide) rfl) ?_
    refine zy_b (mr := zm_m285) rfl rfl rfl (zi_eq (fun hc2 => ?_) (fun hc2 => ?_))
    · skip
      refine zy_n 5 (mr := zm_m285) (pc' := 969) (ls' := [(3, .int 0), (2, .ref 55), (1, .ref 0), (0, .retAddr 0)]) (st' := [.int 6, .retAddr 0, .int 0, .int 0, .int (xs 3), .int (xs 2), .int (xs 1), .ref 0]) rfl rfl ?_
      refine zy_h (mr := zm_m285) rfl rfl (zh_ialdO (v := xs 6) hO (by decide) rfl) ?_
      refine zy_b (mr := zm_m285) rfl rfl rfl (zi_eq (fun hc3 => ?_) (fun hc3 => ?_))
      · skip
        refine zy_n 1 (mr := zm_m285) (pc' := 978) (ls' := [(3, .int 0), (2, .ref 55), (1, .ref 0), (0, .retAddr 0)]) (st' := [.int 0, .int 0, .int 0, .int (xs 3), .int (xs 2), .int (xs 1), .ref 0]) rfl rfl ?_
        refine zy_c (mc := zm_m107) (mr := zm_m285) rfl rfl (zh_v rfl (zp_o F 0 rfl) rfl) rfl rfl (zm_Y.mono ((zx_19 F (xs 1) (xs 2) (xs 3) 0 0 0).deep (by decide)) ?_)
        rintro r h1 ⟨⟨v, rfl, hv⟩, K, KL, KS⟩
        refine zy_n 5 (mr := zm_m285) (pc' := 986) (ls' := [(3, .int 0), (2, .ref 55), (1, .ref 0), (0, .retAddr 0)]) (st' := [.int 1, .retAddr 0, .ref 55, .int v]) rfl rfl ?_
        refine zy_h (mr := zm_m285) rfl rfl (zh_ialdO (v := xs 1) hO (by decide) rfl) ?_
        refine zy_n 4 (mr := zm_m285) (pc' := 991) (ls' := [(3, .int 0), (2, .ref 55), (1, .ref 0), (0, .retAddr 0)]) (st' := [.int 2, .retAddr 0, .int (xs 1), .ref 55, .int v]) rfl rfl ?_
        refine zy_h (mr := zm_m285) rfl rfl (zh_ialdO (v := xs 2) hO (by decide) rfl) ?_
        refine zy_n 4 (mr := zm_m285) (pc' := 996) (ls' := [(3, .int 0), (2, .ref 55), (1, .ref 0), (0, .retAddr 0)]) (st' := [.int 3, .retAddr 0, .int (xs 2), .int (xs 1), .ref 55, .int v]) rfl rfl ?_
        refine zy_h (mr := zm_m285) rfl rfl (zh_ialdO (v := xs 3) hO (by decide) rfl) ?_
        refine zy_n 4 (mr := zm_m285) (pc' := 1001) (ls' := [(3, .int 0), (2, .ref 55), (1, .ref 0), (0, .retAddr 0)]) (st' := [.int 4, .retAddr 0, .int (xs 3), .int (xs 2), .int (xs 1), .ref 55, .int v]) rfl rfl ?_
        refine zy_h (mr := zm_m285) rfl rfl (zh_ialdO (v := xs 4) hO (by decide) rfl) ?_
        refine zy_b (mr := zm_m285) rfl rfl rfl (zi_eq (fun _ => ?_) (fun hc => absurd hc1 hc))
        refine zy_n 5 (mr := zm_m285) (pc' := 1014) (ls' := [(3, .int 0), (2, .ref 55), (1, .ref 0), (0, .retAddr 0)]) (st' := [.int 5, .retAddr 0, .int 0, .int (xs 3), .int (xs 2), .int (xs 1), .ref 55, .int v]) rfl rfl ?_
        refine zy_h (mr := zm_m285) rfl rfl (zh_ialdO (v := xs 5) hO (by decide) rfl) ?_
        refine zy_b (mr := zm_m285) rfl rfl rfl (zi_eq (fun _ => ?_) (fun hc => absurd hc2 hc))
        refine zy_n 5 (mr := zm_m285) (pc' := 1028) (ls' := [(3, .int 0), (2, .ref 55), (1, .ref 0), (0, .retAddr 0)]) (st' := [.int 6, .retAddr 0, .int 0, .int 0, .int (xs 3), .int (xs 2), .int (xs 1), .ref 55, .int v]) rfl rfl ?_
        refine zy_h (mr := zm_m285) rfl rfl (zh_ialdO (v := xs 6) hO (by decide) rfl) ?_
        refine zy_b (mr := zm_m285) rfl rfl rfl (zi_eq (fun _ => ?_) (fun hc => absurd hc3 hc))
        refine zy_n 1 (mr := zm_m285) (pc' := 1037) (ls' := [(3, .int 0), (2, .ref 55), (1, .ref 0), (0, .retAddr 0)]) (st' := [.int 0, .int 0, .int 0, .int (xs 3), .int (xs 2), .int (xs 1), .ref 55, .int v]) rfl rfl ?_
        refine zy_c (mc := zm_m253) (mr := zm_m285) rfl rfl (zh_v rfl ((K 55 (by decide) (by decide)).trans (zp_o F 10 rfl)) rfl) rfl rfl (zm_Y.mono ((zn_19 F K KL KS (xs 1) (xs 2) (xs 3) 0 0 0).deep (by decide)) ?_)
        rintro r h2 ⟨⟨w, rfl, hw⟩, KL2, KS2⟩
        have e : v = w := zg_19 hv hw
        subst e
        refine zy_b (mr := zm_m285) rfl rfl rfl (zc_eq (fun _ => ?_) (fun hc => absurd rfl hc))
        refine zy_n 4 (mr := zm_m285) (pc' := 20) (ls' := [(3, .int 7), (2, .ref 55), (1, .ref 0), (0, .retAddr 0)]) (st' := [.retAddr 0, .int 7]) rfl rfl ?_
        refine zy_h (q := (.int 7 :: [.int 7], _)) (mr := zm_m285) rfl rfl (zh_alenO hO) ?_
        refine zy_n 2 (mr := zm_m285) (pc' := 24) (ls' := [(3, .int 7), (2, .ref 55), (1, .ref 0), (0, .retAddr 0)]) (st' := [.int 0, .int 7]) rfl rfl ?_
        refine zy_b (q := (1983, [])) (mr := zm_m285) rfl rfl rfl ?_
        refine zy_n 1 (mr := zm_m285) (pc' := 1984) (ls' := [(3, .int 7), (2, .ref 55), (1, .ref 0), (0, .retAddr 0)]) (st' := [.int 1]) rfl rfl ?_
        refine zy_r (mr := zm_m285) rfl rfl rfl ?_
        exact ⟨rfl, Nat.le_trans KL2 (by decide), Nat.le_trans KS2 (by decide)⟩
      · skip
        refine zy_n 2 (mr := zm_m285) (pc' := 978) (ls' := [(3, .int 0), (2, .ref 55), (1, .ref 0), (0, .retAddr 0)]) (st' := [.int 1, .int 0, .int 0, .int (xs 3), .int (xs 2), .int (xs 1), .ref 0]) rfl rfl ?_
        as_aux_lemma =>
          refine zy_c (mc := zm_m107) (mr := zm_m285) rfl rfl (zh_v rfl (zp_o F 0 rfl) rfl) rfl rfl (zm_Y.mono ((zx_19 F (xs 1) (xs 2) (xs 3) 0 0 1).deep (by decide)) ?_)
          rintro r h1 ⟨⟨v, rfl, hv⟩, K, KL, KS⟩
          refine zy_n 5 (mr := zm_m285) (pc' := 986) (ls' := [(3, .int 0), (2, .ref 55), (1, .ref 0), (0, .retAddr 0)]) (st' := [.int 1, .retAddr 0, .ref 55, .int v]) rfl rfl ?_
          refine zy_h (mr := zm_m285) rfl rfl (zh_ialdO (v := xs 1) hO (by decide) rfl) ?_
          refine zy_n 4 (mr := zm_m285) (pc' := 991) (ls' := [(3, .int 0), (2, .ref 55), (1, .ref 0), (0, .retAddr 0)]) (st' := [.int 2, .retAddr 0, .int (xs 1), .ref 55, .int v]) rfl rfl ?_
          refine zy_h (mr := zm_m285) rfl rfl (zh_ialdO (v := xs 2) hO (by decide) rfl) ?_
          refine zy_n 4 (mr := zm_m285) (pc' := 996) (ls' := [(3, .int 0), (2, .ref 55), (1, .ref 0), (0, .retAddr 0)]) (st' := [.int 3, .retAddr 0, .int (xs 2), .int (xs 1), .ref 55, .int v]) rfl rfl ?_
          refine zy_h (mr := zm_m285) rfl rfl (zh_ialdO (v := xs 3) hO (by decide) rfl) ?_
          refine zy_n 4 (mr := zm_m285) (pc' := 1001) (ls' := [(3, .int 0), (2, .ref 55), (1, .ref 0), (0, .retAddr 0)]) (st' := [.int 4, .retAddr 0, .int (xs 3), .int (xs 2), .int (xs 1), .ref 55, .int v]) rfl rfl ?_
          refine zy_h (mr := zm_m285) rfl rfl (zh_ialdO (v := xs 4) hO (by decide) rfl) ?_
          refine zy_b (mr := zm_m285) rfl rfl rfl (zi_eq (fun _ => ?_) (fun hc => absurd hc1 hc))
          refine zy_n 5 (mr := zm_m285) (pc' := 1014) (ls' := [(3, .int 0), (2, .ref 55), (1, .ref 0), (0, .retAddr 0)]) (st' := [.int 5, .retAddr 0, .int 0, .int (xs 3), .int (xs 2), .int (xs 1), .ref 55, .int v]) rfl rfl ?_
          refine zy_h (mr := zm_m285) rfl rfl (zh_ialdO (v := xs 5) hO (by decide) rfl) ?_
          refine zy_b (mr := zm_m285) rfl rfl rfl (zi_eq (fun _ => ?_) (fun hc => absurd hc2 hc))
          refine zy_n 5 (mr := zm_m285) (pc' := 1028) (ls' := [(3, .int 0), (2, .ref 55), (1, .ref 0), (0, .retAddr 0)]) (st' := [.int 6, .retAddr 0, .int 0, .int 0, .int (xs 3), .int (xs 2), .int (xs 1), .ref 55, .int v]) rfl rfl ?_
          refine zy_h (mr := zm_m285) rfl rfl (zh_ialdO (v := xs 6) hO (by decide) rfl) ?_
          refine zy_b (mr := zm_m285) rfl rfl rfl (zi_eq (fun hc => absurd hc hc3) (fun _ => ?_))
          refine zy_n 2 (mr := zm_m285) (pc' := 1037) (ls' := [(3, .int 0), (2, .ref 55), (1, .ref 0), (0, .retAddr 0)]) (st' := [.int 1, .int 0, .int 0, .int (xs 3), .int (xs 2), .int (xs 1), .ref 55, .int v]) rfl rfl ?_
          refine zy_c (mc := zm_m253) (mr := zm_m285) rfl rfl (zh_v rfl ((K 55 (by decide) (by decide)).trans (zp_o F 10 rfl)) rfl) rfl rfl (zm_Y.mono ((zn_19 F K KL KS (xs 1) (xs 2) (xs 3) 0 0 1).deep (by decide)) ?_)
          rintro r h2 ⟨⟨w, rfl, hw⟩, KL2, KS2⟩
          have e : v = w := zg_19 hv hw
          subst e
          refine zy_b (mr := zm_m285) rfl rfl rfl (zc_eq (fun _ => ?_) (fun hc => absurd rfl hc))
          refine zy_n 4 (mr := zm_m285) (pc' := 20) (ls' := [(3, .int 7), (2, .ref 55), (1, .ref 0), (0, .retAddr 0)]) (st' := [.retAddr 0, .int 7]) rfl rfl ?_
          refine zy_h (q := (.int 7 :: [.int 7], _)) (mr := zm_m285) rfl rfl (zh_alenO hO) ?_
          refine zy_n 2 (mr := zm_m285) (pc' := 24) (ls' := [(3, .int 7), (2, .ref 55), (1, .ref 0), (0, .retAddr 0)]) (st' := [.int 0, .int 7]) rfl rfl ?_
          refine zy_b (q := (1983, [])) (mr := zm_m285) rfl rfl rfl ?_
          refine zy_n 1 (mr := zm_m285) (pc' := 1984) (ls' := [(3, .int 7), (2, .ref 55), (1, .ref 0), (0, .retAddr 0)]) (st' := [.int 1]) rfl rfl ?_
          refine zy_r (mr := zm_m285) rfl rfl rfl ?_
          exact ⟨rfl, Nat.le_trans KL2 (by decide), Nat.le_trans KS2 (by decide)⟩
    · skip
      refine zy_n 6 (mr := zm_m285) (pc' := 969) (ls' := [(3, .int 0), (2, .ref 55), (1, .ref 0), (0, .retAddr 0)]) (st' := [.int 6, .retAddr 0, .int 1, .int 0, .int (xs 3), .int (xs 2), .int (xs 1), .ref 0]) rfl rfl ?_
      refine zy_h (mr := zm_m285) rfl rfl (zh_ialdO (v := xs 6) hO (by decide) rfl) ?_
      refine zy_b (mr := zm_m285) rfl rfl rfl (zi_eq (fun hc4 => ?_) (fun hc4 => ?_))
      · skip
        refine zy_n 1 (mr := zm_m285) (pc' := 978) (ls' := [(3, .int 0), (2, .ref 55), (1, .ref 0), (0, .retAddr 0)]) (st' := [.int 0, .int 1, .int 0, .int (xs 3), .int (xs 2), .int (xs 1), .ref 0]) rfl rfl ?_
        refine zy_c (mc := zm_m107) (mr := zm_m285) rfl rfl (zh_v rfl (zp_o F 0 rfl) rfl) rfl rfl (zm_Y.mono ((zx_19 F (xs 1) (xs 2) (xs 3) 0 1 0).deep (by decide)) ?_)
        rintro r h1 ⟨⟨v, rfl, hv⟩, K, KL, KS⟩
        refine zy_n 5 (mr := zm_m285) (pc' := 986) (ls' := [(3, .int 0), (2, .ref 55), (1, .ref 0), (0, .retAddr 0)]) (st' := [.int 1, .retAddr 0, .ref 55, .int v]) rfl rfl ?_
        refine zy_h (mr := zm_m285) rfl rfl (zh_ialdO (v := xs 1) hO (by decide) rfl) ?_
        refine zy_n 4 (mr := zm_m285) (pc' := 991) (ls' := [(3, .int 0), (2, .ref 55), (1, .ref 0), (0, .retAddr 0)]) (st' := [.int 2, .retAddr 0, .int (xs 1), .ref 55, .int v]) rfl rfl ?_
        refine zy_h (mr := zm_m285) rfl rfl (zh_ialdO (v := xs 2) hO (by decide) rfl) ?_
        refine zy_n 4 (mr := zm_m285) (pc' := 996) (ls' := [(3, .int 0), (2, .ref 55), (1, .ref 0), (0, .retAddr 0)]) (st' := [.int 3, .retAddr 0, .int (xs 2), .int (xs 1), .ref 55, .int v]) rfl rfl ?_
        refine zy_h (mr := zm_m285) rfl rfl (zh_ialdO (v := xs 3) hO (by decide) rfl) ?_
        refine zy_n 4 (mr := zm_m285) (pc' := 1001) (ls' := [(3, .int 0), (2, .ref 55), (1, .ref 0), (0, .retAddr 0)]) (st' := [.int 4, .retAddr 0, .int (xs 3), .int (xs 2), .int (xs 1), .ref 55, .int v]) rfl rfl ?_
        refine zy_h (mr := zm_m285) rfl rfl (zh_ialdO (v := xs 4) hO (by decide) rfl) ?_
        refine zy_b (mr := zm_m285) rfl rfl rfl (zi_eq (fun _ => ?_) (fun hc => absurd hc1 hc))
        refine zy_n 5 (mr := zm_m285) (pc' := 1014) (ls' := [(3, .int 0), (2, .ref 55), (1, .ref 0), (0, .retAddr 0)]) (st' := [.int 5, .retAddr 0, .int 0, .int (xs 3), .int (xs 2), .int (xs 1), .ref 55, .int v]) rfl rfl ?_
        refine zy_h (mr := zm_m285) rfl rfl (zh_ialdO (v := xs 5) hO (by decide) rfl) ?_
        refine zy_b (mr := zm_m285) rfl rfl rfl (zi_eq (fun hc => absurd hc hc2) (fun _ => ?_))
        refine zy_n 6 (mr := zm_m285) (pc' := 1028) (ls' := [(3, .int 0), (2, .ref 55), (1, .ref 0), (0, .retAddr 0)]) (st' := [.int 6, .retAddr 0, .int 1, .int 0, .int (xs 3), .int (xs 2), .int (xs 1), .ref 55, .int v]) rfl rfl ?_
        as_aux_lemma =>
          refine zy_h (mr := zm_m285) rfl rfl (zh_ialdO (v := xs 6) hO (by decide) rfl) ?_
          refine zy_b (mr := zm_m285) rfl rfl rfl (zi_eq (fun _ => ?_) (fun hc => absurd hc4 hc))
          refine zy_n 1 (mr := zm_m285) (pc' := 1037) (ls' := [(3, .int 0), (2, .ref 55), (1, .ref 0), (0, .retAddr 0)]) (st' := [.int 0, .int 1, .int 0, .int (xs 3), .int (xs 2), .int (xs 1), .ref 55, .int v]) rfl rfl ?_
          refine zy_c (mc := zm_m253) (mr := zm_m285) rfl rfl (zh_v rfl ((K 55 (by decide) (by decide)).trans (zp_o F 10 rfl)) rfl) rfl rfl (zm_Y.mono ((zn_19 F K KL KS (xs 1) (xs 2) (xs 3) 0 1 0).deep (by decide)) ?_)
          rintro r h2 ⟨⟨w, rfl, hw⟩, KL2, KS2⟩
          have e : v = w := zg_19 hv hw
          subst e
          refine zy_b (mr := zm_m285) rfl rfl rfl (zc_eq (fun _ => ?_) (fun hc => absurd rfl hc))
          refine zy_n 4 (mr := zm_m285) (pc' := 20) (ls' := [(3, .int 7), (2, .ref 55), (1, .ref 0), (0, .retAddr 0)]) (st' := [.retAddr 0, .int 7]) rfl rfl ?_
          refine zy_h (q := (.int 7 :: [.int 7], _)) (mr := zm_m285) rfl rfl (zh_alenO hO) ?_
          refine zy_n 2 (mr := zm_m285) (pc' := 24) (ls' := [(3, .int 7), (2, .ref 55), (1, .ref 0), (0, .retAddr 0)]) (st' := [.int 0, .int 7]) rfl rfl ?_
          refine zy_b (q := (1983, [])) (mr := zm_m285) rfl rfl rfl ?_
          refine zy_n 1 (mr := zm_m285) (pc' := 1984) (ls' := [(3, .int 7), (2, .ref 55), (1, .ref 0), (0, .retAddr 0)]) (st' := [.int 1]) rfl rfl ?_
          refine zy_r (mr := zm_m285) rfl rfl rfl ?_
          exact ⟨rfl, Nat.le_trans KL2 (by decide), Nat.le_trans KS2 (by decide)⟩
      · skip
        refine zy_n 2 (mr := zm_m285) (pc' := 978) (ls' := [(3, .int 0), (2, .ref 55), (1, .ref 0), (0, .retAddr 0)]) (st' := [.int 1, .int 1, .int 0, .int (xs 3), .int (xs 2), .int (xs 1), .ref 0]) rfl rfl ?_
        refine zy_c (mc := zm_m107) (mr := zm_m285) rfl rfl (zh_v rfl (zp_o F 0 rfl) rfl) rfl rfl (zm_Y.mono ((zx_19 F (xs 1) (xs 2) (xs 3) 0 1 1).deep (by decide)) ?_)
        rintro r h1 ⟨⟨v, rfl, hv⟩, K, KL, KS⟩
        refine zy_n 5 (mr := zm_m285) (pc' := 986) (ls' := [(3, .int 0), (2, .ref 55), (1, .ref 0), (0, .retAddr 0)]) (st' := [.int 1, .retAddr 0, .ref 55, .int v]) rfl rfl ?_
        refine zy_h (mr := zm_m285) rfl rfl (zh_ialdO (v := xs 1) hO (by decide) rfl) ?_
        refine zy_n 4 (mr := zm_m285) (pc' := 991) (ls' := [(3, .int 0), (2, .ref 55), (1, .ref 0), (0, .retAddr 0)]) (st' := [.int 2, .retAddr 0, .int (xs 1), .ref 55, .int v]) rfl rfl ?_
        refine zy_h (mr := zm_m285) rfl rfl (zh_ialdO (v := xs 2) hO (by decide) rfl) ?_
        refine zy_n 4 (mr := zm_m285) (pc' := 996) (ls' := [(3, .int 0), (2, .ref 55), (1, .ref 0), (0, .retAddr 0)]) (st' := [.int 3, .retAddr 0, .int (xs 2), .int (xs 1), .ref 55, .int v]) rfl rfl ?_
        refine zy_h (mr := zm_m285) rfl rfl (zh_ialdO (v := xs 3) hO (by decide) rfl) ?_
        refine zy_n 4 (mr := zm_m285) (pc' := 1001) (ls' := [(3, .int 0), (2, .ref 55), (1, .ref 0), (0, .retAddr 0)]) (st' := [.int 4, .retAddr 0, .int (xs 3), .int (xs 2), .int (xs 1), .ref 55, .int v]) rfl rfl ?_
        refine zy_h (mr := zm_m285) rfl rfl (zh_ialdO (v := xs 4) hO (by decide) rfl) ?_
        refine zy_b (mr := zm_m285) rfl rfl rfl (zi_eq (fun _ => ?_) (fun hc => absurd hc1 hc))
        refine zy_n 5 (mr := zm_m285) (pc' := 1014) (ls' := [(3, .int 0), (2, .ref 55), (1, .ref 0), (0, .retAddr 0)]) (st' := [.int 5, .retAddr 0, .int 0, .int (xs 3), .int (xs 2), .int (xs 1), .ref 55, .int v]) rfl rfl ?_
        refine zy_h (mr := zm_m285) rfl rfl (zh_ialdO (v := xs 5) hO (by decide) rfl) ?_
        refine zy_b (mr := zm_m285) rfl rfl rfl (zi_eq (fun hc => absurd hc hc2) (fun _ => ?_))
        refine zy_n 6 (mr := zm_m285) (pc' := 1028) (ls' := [(3, .int 0), (2, .ref 55), (1, .ref 0), (0, .retAddr 0)]) (st' := [.int 6, .retAddr 0, .int 1, .int 0, .int (xs 3), .int (xs 2), .int (xs 1), .ref 55, .int v]) rfl rfl ?_
        refine zy_h (mr := zm_m285) rfl rfl (zh_ialdO (v := xs 6) hO (by decide) rfl) ?_
        refine zy_b (mr := zm_m285) rfl rfl rfl (zi_eq (fun hc => absurd hc hc4) (fun _ => ?_))
        refine zy_n 2 (mr := zm_m285) (pc' := 1037) (ls' := [(3, .int 0), (2, .ref 55), (1, .ref 0), (0, .retAddr 0)]) (st' := [.int 1, .int 1, .int 0, .int (xs 3), .int (xs 2), .int (xs 1), .ref 55, .int v]) rfl rfl ?_
        refine zy_c (mc := zm_m253) (mr := zm_m285) rfl rfl (zh_v rfl ((K 55 (by decide) (by decide)).trans (zp_o F 10 rfl)) rfl) rfl rfl (zm_Y.mono ((zn_19 F K KL KS (xs 1) (xs 2) (xs 3) 0 1 1).deep (by decide)) ?_)
        rintro r h2 ⟨⟨w, rfl, hw⟩, KL2, KS2⟩
        have e : v = w := zg_19 hv hw
        subst e
        refine zy_b (mr := zm_m285) rfl rfl rfl (zc_eq (fun _ => ?_) (fun hc => absurd rfl hc))
        refine zy_n 4 (mr := zm_m285) (pc' := 20) (ls' := [(3, .int 7), (2, .ref 55), (1, .ref 0), (0, .retAddr 0)]) (st' := [.retAddr 0, .int 7]) rfl rfl ?_
        refine zy_h (q := (.int 7 :: [.int 7], _)) (mr := zm_m285) rfl rfl (zh_alenO hO) ?_
        refine zy_n 2 (mr := zm_m285) (pc' := 24) (ls' := [(3, .int 7), (2, .ref 55), (1, .ref 0), (0, .retAddr 0)]) (st' := [.int 0, .int 7]) rfl rfl ?_
        refine zy_b (q := (1983, [])) (mr := zm_m285) rfl rfl rfl ?_
        refine zy_n 1 (mr := zm_m285) (pc' := 1984) (ls' := [(3, .int 7), (2, .ref 55), (1, .ref 0), (0, .retAddr 0)]) (st' := [.int 1]) rfl rfl ?_
        refine zy_r (mr := zm_m285) rfl rfl rfl ?_
        exact ⟨rfl, Nat.le_trans KL2 (by decide), Nat.le_trans KS2 (by decide)⟩
  · skip
    refine zy_n 6 (mr := zm_m285) (pc' := 955) (ls' := [(3, .int 0), (2, .ref 55), (1, .ref 0), (0, .retAddr 0)]) (st' := [.int 5, .retAddr 0, .int 1, .int (xs 3), .int (xs 2), .int (xs 1), .ref 0]) rfl rfl ?_
    refine zy_h (mr := zm_m285) rfl rfl (zh_ialdO (v := xs 5) hO (by decide) rfl) ?_
    refine zy_b (mr := zm_m285) rfl rfl rfl (zi_eq (fun hc5 => ?_) (fun hc5 => ?_))
    · skip
      refine zy_n 5 (mr := zm_m285) (pc' := 969) (ls' := [(3, .int 0), (2, .ref 55), (1, .ref 0), (0, .retAddr 0)]) (st' := [.int 6, .retAddr 0, .int 0, .int 1, .int (xs 3), .int (xs 2), .int (xs 1), .ref 0]) rfl rfl ?_
      as_aux_lemma =>
        refine zy_h (mr := zm_m285) rfl rfl (zh_ialdO (v := xs 6) hO (by decide) rfl) ?_
        refine zy_b (mr := zm_m285) rfl rfl rfl (zi_eq (fun hc6 => ?_) (fun hc6 => ?_))
        · skip
          refine zy_n 1 (mr := zm_m285) (pc' := 978) (ls' := [(3, .int 0), (2, .ref 55), (1, .ref 0), (0, .retAddr 0)]) (st' := [.int 0, .int 0, .int 1, .int (xs 3), .int (xs 2), .int (xs 1), .ref 0]) rfl rfl ?_
          refine zy_c (mc := zm_m107) (mr := zm_m285) rfl rfl (zh_v rfl (zp_o F 0 rfl) rfl) rfl rfl (zm_Y.mono ((zx_19 F (xs 1) (xs 2) (xs 3) 1 0 0).deep (by decide)) ?_)
          rintro r h1 ⟨⟨v, rfl, hv⟩, K, KL, KS⟩
          refine zy_n 5 (mr := zm_m285) (pc' := 986) (ls' := [(3, .int 0), (2, .ref 55), (1, .ref 0), (0, .retAddr 0)]) (st' := [.int 1, .retAddr 0, .ref 55, .int v]) rfl rfl ?_
          refine zy_h (mr := zm_m285) rfl rfl (zh_ialdO (v := xs 1) hO (by decide) rfl) ?_
          refine zy_n 4 (mr := zm_m285) (pc' := 991) (ls' := [(3, .int 0), (2, .ref 55), (1, .ref 0), (0, .retAddr 0)]) (st' := [.int 2, .retAddr 0, .int (xs 1), .ref 55, .int v]) rfl rfl ?_
          refine zy_h (mr := zm_m285) rfl rfl (zh_ialdO (v := xs 2) hO (by decide) rfl) ?_
          refine zy_n 4 (mr := zm_m285) (pc' := 996) (ls' := [(3, .int 0), (2, .ref 55), (1, .ref 0), (0, .retAddr 0)]) (st' := [.int 3, .retAddr 0, .int (xs 2), .int (xs 1), .ref 55, .int v]) rfl rfl ?_
          refine zy_h (mr := zm_m285) rfl rfl (zh_ialdO (v := xs 3) hO (by decide) rfl) ?_
          refine zy_n 4 (mr := zm_m285) (pc' := 1001) (ls' := [(3, .int 0), (2, .ref 55), (1, .ref 0), (0, .retAddr 0)]) (st' := [.int 4, .retAddr 0, .int (xs 3), .int (xs 2), .int (xs 1), .ref 55, .int v]) rfl rfl ?_
          refine zy_h (mr := zm_m285) rfl rfl (zh_ialdO (v := xs 4) hO (by decide) rfl) ?_
          refine zy_b (mr := zm_m285) rfl rfl rfl (zi_eq (fun hc => absurd hc hc1) (fun _ => ?_))
          refine zy_n 6 (mr := zm_m285) (pc' := 1014) (ls' := [(3, .int 0), (2, .ref 55), (1, .ref 0), (0, .retAddr 0)]) (st' := [.int 5, .retAddr 0, .int 1, .int (xs 3), .int (xs 2), .int (xs 1), .ref 55, .int v]) rfl rfl ?_
          refine zy_h (mr := zm_m285) rfl rfl (zh_ialdO (v := xs 5) hO (by decide) rfl) ?_
          refine zy_b (mr := zm_m285) rfl rfl rfl (zi_eq (fun _ => ?_) (fun hc => absurd hc5 hc))
          refine zy_n 5 (mr := zm_m285) (pc' := 1028) (ls' := [(3, .int 0), (2, .ref 55), (1, .ref 0), (0, .retAddr 0)]) (st' := [.int 6, .retAddr 0, .int 0, .int 1, .int (xs 3), .int (xs 2), .int (xs 1), .ref 55, .int v]) rfl rfl ?_
          refine zy_h (mr := zm_m285) rfl rfl (zh_ialdO (v := xs 6) hO (by decide) rfl) ?_
          refine zy_b (mr := zm_m285) rfl rfl rfl (zi_eq (fun _ => ?_) (fun hc => absurd hc6 hc))
          refine zy_n 1 (mr := zm_m285) (pc' := 1037) (ls' := [(3, .int 0), (2, .ref 55), (1, .ref 0), (0, .retAddr 0)]) (st' := [.int 0, .int 0, .int 1, .int (xs 3), .int (xs 2), .int (xs 1), .ref 55, .int v]) rfl rfl ?_
          refine zy_c (mc := zm_m253) (mr := zm_m285) rfl rfl (zh_v rfl ((K 55 (by decide) (by decide)).trans (zp_o F 10 rfl)) rfl) rfl rfl (zm_Y.mono ((zn_19 F K KL KS (xs 1) (xs 2) (xs 3) 1 0 0).deep (by decide)) ?_)
          rintro r h2 ⟨⟨w, rfl, hw⟩, KL2, KS2⟩
          have e : v = w := zg_19 hv hw
          subst e
          refine zy_b (mr := zm_m285) rfl rfl rfl (zc_eq (fun _ => ?_) (fun hc => absurd rfl hc))
          refine zy_n 4 (mr := zm_m285) (pc' := 20) (ls' := [(3, .int 7), (2, .ref 55), (1, .ref 0), (0, .retAddr 0)]) (st' := [.retAddr 0, .int 7]) rfl rfl ?_
          refine zy_h (q := (.int 7 :: [.int 7], _)) (mr := zm_m285) rfl rfl (zh_alenO hO) ?_
          refine zy_n 2 (mr := zm_m285) (pc' := 24) (ls' := [(3, .int 7), (2, .ref 55), (1, .ref 0), (0, .retAddr 0)]) (st' := [.int 0, .int 7]) rfl rfl ?_
          refine zy_b (q := (1983, [])) (mr := zm_m285) rfl rfl rfl ?_
          refine zy_n 1 (mr := zm_m285) (pc' := 1984) (ls' := [(3, .int 7), (2, .ref 55), (1, .ref 0), (0, .retAddr 0)]) (st' := [.int 1]) rfl rfl ?_
          refine zy_r (mr := zm_m285) rfl rfl rfl ?_
          exact ⟨rfl, Nat.le_trans KL2 (by decide), Nat.le_trans KS2 (by decide)⟩
        · skip
          refine zy_n 2 (mr := zm_m285) (pc' := 978) (ls' := [(3, .int 0), (2, .ref 55), (1, .ref 0), (0, .retAddr 0)]) (st' := [.int 1, .int 0, .int 1, .int (xs 3), .int (xs 2), .int (xs 1), .ref 0]) rfl rfl ?_
          refine zy_c (mc := zm_m107) (mr := zm_m285) rfl rfl (zh_v rfl (zp_o F 0 rfl) rfl) rfl rfl (zm_Y.mono ((zx_19 F (xs 1) (xs 2) (xs 3) 1 0 1).deep (by decide)) ?_)
          rintro r h1 ⟨⟨v, rfl, hv⟩, K, KL, KS⟩
          refine zy_n 5 (mr := zm_m285) (pc' := 986) (ls' := [(3, .int 0), (2, .ref 55), (1, .ref 0), (0, .retAddr 0)]) (st' := [.int 1, .retAddr 0, .ref 55, .int v]) rfl rfl ?_
          refine zy_h (mr := zm_m285) rfl rfl (zh_ialdO (v := xs 1) hO (by decide) rfl) ?_
          refine zy_n 4 (mr := zm_m285) (pc' := 991) (ls' := [(3, .int 0), (2, .ref 55), (1, .ref 0), (0, .retAddr 0)]) (st' := [.int 2, .retAddr 0, .int (xs 1), .ref 55, .int v]) rfl rfl ?_
          refine zy_h (mr := zm_m285) rfl rfl (zh_ialdO (v := xs 2) hO (by decide) rfl) ?_
          refine zy_n 4 (mr := zm_m285) (pc' := 996) (ls' := [(3, .int 0), (2, .ref 55), (1, .ref 0), (0, .retAddr 0)]) (st' := [.int 3, .retAddr 0, .int (xs 2), .int (xs 1), .ref 55, .int v]) rfl rfl ?_
          refine zy_h (mr := zm_m285) rfl rfl (zh_ialdO (v := xs 3) hO (by decide) rfl) ?_
          refine zy_n 4 (mr := zm_m285) (pc' := 1001) (ls' := [(3, .int 0), (2, .ref 55), (1, .ref 0), (0, .retAddr 0)]) (st' := [.int 4, .retAddr 0, .int (xs 3), .int (xs 2), .int (xs 1), .ref 55, .int v]) rfl rfl ?_
          refine zy_h (mr := zm_m285) rfl rfl (zh_ialdO (v := xs 4) hO (by decide) rfl) ?_
          refine zy_b (mr := zm_m285) rfl rfl rfl (zi_eq (fun hc => absurd hc hc1) (fun _ => ?_))
          refine zy_n 6 (mr := zm_m285) (pc' := 1014) (ls' := [(3, .int 0), (2, .ref 55), (1, .ref 0), (0, .retAddr 0)]) (st' := [.int 5, .retAddr 0, .int 1, .int (xs 3), .int (xs 2), .int (xs 1), .ref 55, .int v]) rfl rfl ?_
          refine zy_h (mr := zm_m285) rfl rfl (zh_ialdO (v := xs 5) hO (by decide) rfl) ?_
          refine zy_b (mr := zm_m285) rfl rfl rfl (zi_eq (fun _ => ?_) (fun hc => absurd hc5 hc))
          refine zy_n 5 (mr := zm_m285) (pc' := 1028) (ls' := [(3, .int 0), (2, .ref 55), (1, .ref 0), (0, .retAddr 0)]) (st' := [.int 6, .retAddr 0, .int 0, .int 1, .int (xs 3), .int (xs 2), .int (xs 1), .ref 55, .int v]) rfl rfl ?_
          as_aux_lemma =>
            refine zy_h (mr := zm_m285) rfl rfl (zh_ialdO (v := xs 6) hO (by decide) rfl) ?_
            refine zy_b (mr := zm_m285) rfl rfl rfl (zi_eq (fun hc => absurd hc hc6) (fun _ => ?_))
            refine zy_n 2 (mr := zm_m285) (pc' := 1037) (ls' := [(3, .int 0), (2, .ref 55), (1, .ref 0), (0, .retAddr 0)]) (st' := [.int 1, .int 0, .int 1, .int (xs 3), .int (xs 2), .int (xs 1), .ref 55, .int v]) rfl rfl ?_
            refine zy_c (mc := zm_m253) (mr := zm_m285) rfl rfl (zh_v rfl ((K 55 (by decide) (by decide)).trans (zp_o F 10 rfl)) rfl) rfl rfl (zm_Y.mono ((zn_19 F K KL KS (xs 1) (xs 2) (xs 3) 1 0 1).deep (by decide)) ?_)
            rintro r h2 ⟨⟨w, rfl, hw⟩, KL2, KS2⟩
            have e : v = w := zg_19 hv hw
            subst e
            refine zy_b (mr := zm_m285) rfl rfl rfl (zc_eq (fun _ => ?_) (fun hc => absurd rfl hc))
            refine zy_n 4 (mr := zm_m285) (pc' := 20) (ls' := [(3, .int 7), (2, .ref 55), (1, .ref 0), (0, .retAddr 0)]) (st' := [.retAddr 0, .int 7]) rfl rfl ?_
            refine zy_h (q := (.int 7 :: [.int 7], _)) (mr := zm_m285) rfl rfl (zh_alenO hO) ?_
            refine zy_n 2 (mr := zm_m285) (pc' := 24) (ls' := [(3, .int 7), (2, .ref 55), (1, .ref 0), (0, .retAddr 0)]) (st' := [.int 0, .int 7]) rfl rfl ?_
            refine zy_b (q := (1983, [])) (mr := zm_m285) rfl rfl rfl ?_
            refine zy_n 1 (mr := zm_m285) (pc' := 1984) (ls' := [(3, .int 7), (2, .ref 55), (1, .ref 0), (0, .retAddr 0)]) (st' := [.int 1]) rfl rfl ?_
            refine zy_r (mr := zm_m285) rfl rfl rfl ?_
            exact ⟨rfl, Nat.le_trans KL2 (by decide), Nat.le_trans KS2 (by decide)⟩
    · skip
      refine zy_n 6 (mr := zm_m285) (pc' := 969) (ls' := [(3, .int 0), (2, .ref 55), (1, .ref 0), (0, .retAddr 0)]) (st' := [.int 6, .retAddr 0, .int 1, .int 1, .int (xs 3), .int (xs 2), .int (xs 1), .ref 0]) rfl rfl ?_
      refine zy_h (mr := zm_m285) rfl rfl (zh_ialdO (v := xs 6) hO (by decide) rfl) ?_
      refine zy_b (mr := zm_m285) rfl rfl rfl (zi_eq (fun hc7 => ?_) (fun hc7 => ?_))
      · skip
        refine zy_n 1 (mr := zm_m285) (pc' := 978) (ls' := [(3, .int 0), (2, .ref 55), (1, .ref 0), (0, .retAddr 0)]) (st' := [.int 0, .int 1, .int 1, .int (xs 3), .int (xs 2), .int (xs 1), .ref 0]) rfl rfl ?_
        refine zy_c (mc := zm_m107) (mr := zm_m285) rfl rfl (zh_v rfl (zp_o F 0 rfl) rfl) rfl rfl (zm_Y.mono ((zx_19 F (xs 1) (xs 2) (xs 3) 1 1 0).deep (by decide)) ?_)
        rintro r h1 ⟨⟨v, rfl, hv⟩, K, KL, KS⟩
        refine zy_n 5 (mr := zm_m285) (pc' := 986) (ls' := [(3, .int 0), (2, .ref 55), (1, .ref 0), (0, .retAddr 0)]) (st' := [.int 1, .retAddr 0, .ref 55, .int v]) rfl rfl ?_
        refine zy_h (mr := zm_m285) rfl rfl (zh_ialdO (v := xs 1) hO (by decide) rfl) ?_
        refine zy_n 4 (mr := zm_m285) (pc' := 991) (ls' := [(3, .int 0), (2, .ref 55), (1, .ref 0), (0, .retAddr 0)]) (st' := [.int 2, .retAddr 0, .int (xs 1), .ref 55, .int v]) rfl rfl ?_
        refine zy_h (mr := zm_m285) rfl rfl (zh_ialdO (v := xs 2) hO (by decide) rfl) ?_
        refine zy_n 4 (mr := zm_m285) (pc' := 996) (ls' := [(3, .int 0), (2, .ref 55), (1, .ref 0), (0, .retAddr 0)]) (st' := [.int 3, .retAddr 0, .int (xs 2), .int (xs 1), .ref 55, .int v]) rfl rfl ?_
        refine zy_h (mr := zm_m285) rfl rfl (zh_ialdO (v := xs 3) hO (by decide) rfl) ?_
        refine zy_n 4 (mr := zm_m285) (pc' := 1001) (ls' := [(3, .int 0), (2, .ref 55), (1, .ref 0), (0, .retAddr 0)]) (st' := [.int 4, .retAddr 0, .int (xs 3), .int (xs 2), .int (xs 1), .ref 55, .int v]) rfl rfl ?_
        refine zy_h (mr := zm_m285) rfl rfl (zh_ialdO (v := xs 4) hO (by decide) rfl) ?_
        refine zy_b (mr := zm_m285) rfl rfl rfl (zi_eq (fun hc => absurd hc hc1) (fun _ => ?_))
        refine zy_n 6 (mr := zm_m285) (pc' := 1014) (ls' := [(3, .int 0), (2, .ref 55), (1, .ref 0), (0, .retAddr 0)]) (st' := [.int 5, .retAddr 0, .int 1, .int (xs 3), .int (xs 2), .int (xs 1), .ref 55, .int v]) rfl rfl ?_
        refine zy_h (mr := zm_m285) rfl rfl (zh_ialdO (v := xs 5) hO (by decide) rfl) ?_
        refine zy_b (mr := zm_m285) rfl rfl rfl (zi_eq (fun hc => absurd hc hc5) (fun _ => ?_))
        refine zy_n 6 (mr := zm_m285) (pc' := 1028) (ls' := [(3, .int 0), (2, .ref 55), (1, .ref 0), (0, .retAddr 0)]) (st' := [.int 6, .retAddr 0, .int 1, .int 1, .int (xs 3), .int (xs 2), .int (xs 1), .ref 55, .int v]) rfl rfl ?_
        refine zy_h (mr := zm_m285) rfl rfl (zh_ialdO (v := xs 6) hO (by decide) rfl) ?_
        refine zy_b (mr := zm_m285) rfl rfl rfl (zi_eq (fun _ => ?_) (fun hc => absurd hc7 hc))
        refine zy_n 1 (mr := zm_m285) (pc' := 1037) (ls' := [(3, .int 0), (2, .ref 55), (1, .ref 0), (0, .retAddr 0)]) (st' := [.int 0, .int 1, .int 1, .int (xs 3), .int (xs 2), .int (xs 1), .ref 55, .int v]) rfl rfl ?_
        refine zy_c (mc := zm_m253) (mr := zm_m285) rfl rfl (zh_v rfl ((K 55 (by decide) (by decide)).trans (zp_o F 10 rfl)) rfl) rfl rfl (zm_Y.mono ((zn_19 F K KL KS (xs 1) (xs 2) (xs 3) 1 1 0).deep (by decide)) ?_)
        rintro r h2 ⟨⟨w, rfl, hw⟩, KL2, KS2⟩
        have e : v = w := zg_19 hv hw
        subst e
        refine zy_b (mr := zm_m285) rfl rfl rfl (zc_eq (fun _ => ?_) (fun hc => absurd rfl hc))
        refine zy_n 4 (mr := zm_m285) (pc' := 20) (ls' := [(3, .int 7), (2, .ref 55), (1, .ref 0), (0, .retAddr 0)]) (st' := [.retAddr 0, .int 7]) rfl rfl ?_
        refine zy_h (q := (.int 7 :: [.int 7], _)) (mr := zm_m285) rfl rfl (zh_alenO hO) ?_
        refine zy_n 2 (mr := zm_m285) (pc' := 24) (ls' := [(3, .int 7), (2, .ref 55), (1, .ref 0), (0, .retAddr 0)]) (st' := [.int 0, .int 7]) rfl rfl ?_
        refine zy_b (q := (1983, [])) (mr := zm_m285) rfl rfl rfl ?_
        refine zy_n 1 (mr := zm_m285) (pc' := 1984) (ls' := [(3, .int 7), (2, .ref 55), (1, .ref 0), (0, .retAddr 0)]) (st' := [.int 1]) rfl rfl ?_
        refine zy_r (mr := zm_m285) rfl rfl rfl ?_
        exact ⟨rfl, Nat.le_trans KL2 (by decide), Nat.le_trans KS2 (by decide)⟩
      · skip
        refine zy_n 2 (mr := zm_m285) (pc' := 978) (ls' := [(3, .int 0), (2, .ref 55), (1, .ref 0), (0, .retAddr 0)]) (st' := [.int 1, .int 1, .int 1, .int (xs 3), .int (xs 2), .int (xs 1), .ref 0]) rfl rfl ?_
        as_aux_lemma =>
          refine zy_c (mc := zm_m107) (mr := zm_m285) rfl rfl (zh_v rfl (zp_o F 0 rfl) rfl) rfl rfl (zm_Y.mono ((zx_19 F (xs 1) (xs 2) (xs 3) 1 1 1).deep (by decide)) ?_)
          rintro r h1 ⟨⟨v, rfl, hv⟩, K, KL, KS⟩
          refine zy_n 5 (mr := zm_m285) (pc' := 986) (ls' := [(3, .int 0), (2, .ref 55), (1, .ref 0), (0, .retAddr 0)]) (st' := [.int 1, .retAddr 0, .ref 55, .int v]) rfl rfl ?_
          refine zy_h (mr := zm_m285) rfl rfl (zh_ialdO (v := xs 1) hO (by decide) rfl) ?_
          refine zy_n 4 (mr := zm_m285) (pc' := 991) (ls' := [(3, .int 0), (2, .ref 55), (1, .ref 0), (0, .retAddr 0)]) (st' := [.int 2, .retAddr 0, .int (xs 1), .ref 55, .int v]) rfl rfl ?_
          refine zy_h (mr := zm_m285) rfl rfl (zh_ialdO (v := xs 2) hO (by decide) rfl) ?_
          refine zy_n 4 (mr := zm_m285) (pc' := 996) (ls' := [(3, .int 0), (2, .ref 55), (1, .ref 0), (0, .retAddr 0)]) (st' := [.int 3, .retAddr 0, .int (xs 2), .int (xs 1), .ref 55, .int v]) rfl rfl ?_
          refine zy_h (mr := zm_m285) rfl rfl (zh_ialdO (v := xs 3) hO (by decide) rfl) ?_
          refine zy_n 4 (mr := zm_m285) (pc' := 1001) (ls' := [(3, .int 0), (2, .ref 55), (1, .ref 0), (0, .retAddr 0)]) (st' := [.int 4, .retAddr 0, .int (xs 3), .int (xs 2), .int (xs 1), .ref 55, .int v]) rfl rfl ?_
          refine zy_h (mr := zm_m285) rfl rfl (zh_ialdO (v := xs 4) hO (by decide) rfl) ?_
          refine zy_b (mr := zm_m285) rfl rfl rfl (zi_eq (fun hc => absurd hc hc1) (fun _ => ?_))
          refine zy_n 6 (mr := zm_m285) (pc' := 1014) (ls' := [(3, .int 0), (2, .ref 55), (1, .ref 0), (0, .retAddr 0)]) (st' := [.int 5, .retAddr 0, .int 1, .int (xs 3), .int (xs 2), .int (xs 1), .ref 55, .int v]) rfl rfl ?_
          refine zy_h (mr := zm_m285) rfl rfl (zh_ialdO (v := xs 5) hO (by decide) rfl) ?_
          refine zy_b (mr := zm_m285) rfl rfl rfl (zi_eq (fun hc => absurd hc hc5) (fun _ => ?_))
          refine zy_n 6 (mr := zm_m285) (pc' := 1028) (ls' := [(3, .int 0), (2, .ref 55), (1, .ref 0), (0, .retAddr 0)]) (st' := [.int 6, .retAddr 0, .int 1, .int 1, .int (xs 3), .int (xs 2), .int (xs 1), .ref 55, .int v]) rfl rfl ?_
          refine zy_h (mr := zm_m285) rfl rfl (zh_ialdO (v := xs 6) hO (by decide) rfl) ?_
          refine zy_b (mr := zm_m285) rfl rfl rfl (zi_eq (fun hc => absurd hc hc7) (fun _ => ?_))
          refine zy_n 2 (mr := zm_m285) (pc' := 1037) (ls' := [(3, .int 0), (2, .ref 55), (1, .ref 0), (0, .retAddr 0)]) (st' := [.int 1, .int 1, .int 1, .int (xs 3), .int (xs 2), .int (xs 1), .ref 55, .int v]) rfl rfl ?_
          refine zy_c (mc := zm_m253) (mr := zm_m285) rfl rfl (zh_v rfl ((K 55 (by decide) (by decide)).trans (zp_o F 10 rfl)) rfl) rfl rfl (zm_Y.mono ((zn_19 F K KL KS (xs 1) (xs 2) (xs 3) 1 1 1).deep (by decide)) ?_)
          rintro r h2 ⟨⟨w, rfl, hw⟩, KL2, KS2⟩
          have e : v = w := zg_19 hv hw
          subst e
          refine zy_b (mr := zm_m285) rfl rfl rfl (zc_eq (fun _ => ?_) (fun hc => absurd rfl hc))
          refine zy_n 4 (mr := zm_m285) (pc' := 20) (ls' := [(3, .int 7), (2, .ref 55), (1, .ref 0), (0, .retAddr 0)]) (st' := [.retAddr 0, .int 7]) rfl rfl ?_
          refine zy_h (q := (.int 7 :: [.int 7], _)) (mr := zm_m285) rfl rfl (zh_alenO hO) ?_
          refine zy_n 2 (mr := zm_m285) (pc' := 24) (ls' := [(3, .int 7), (2, .ref 55), (1, .ref 0), (0, .retAddr 0)]) (st' := [.int 0, .int 7]) rfl rfl ?_
          refine zy_b (q := (1983, [])) (mr := zm_m285) rfl rfl rfl ?_
          refine zy_n 1 (mr := zm_m285) (pc' := 1984) (ls' := [(3, .int 7), (2, .ref 55), (1, .ref 0), (0, .retAddr 0)]) (st' := [.int 1]) rfl rfl ?_
          refine zy_r (mr := zm_m285) rfl rfl rfl ?_
          exact ⟨rfl, Nat.le_trans KL2 (by decide), Nat.le_trans KS2 (by decide)⟩
set_option maxHeartbeats 4000000 in
set_option maxRecDepth 20000 in
theorem zz_20 {og : Nat → Option zm_C} {xs : Nat → Int32} {h : zm_H} (hO : og 0 = some (.inl (0, 7, .inl xs))) (F : zp_ck h = true) : zm_Y og 60 285 1045 [(3, .int 0), (2, .ref 55), (1, .ref 0), (0, .retAddr 0)] [] h (fun r h1 => r = some (.int 1) ∧ h1.length ≤ 600000 ∧ zm_szs h1 ≤ 7302249) := by
  refine zy_n 5 (mr := zm_m285) (pc' := 1050) (ls' := [(3, .int 0), (2, .ref 55), (1, .ref 0), (0, .retAddr 0)]) (st' := [.int 1, .retAddr 0, .ref 0]) rfl rfl ?_
  refine zy_h (mr := zm_m285) rfl rfl (zh_ialdO (v := xs 1) hO (by decide) rfl) ?_
  refine zy_n 4 (mr := zm_m285) (pc' := 1055) (ls' := [(3, .int 0), (2, .ref 55), (1, .ref 0), (0, .retAddr 0)]) (st' := [.int 2, .retAddr 0, .int (xs 1), .ref 0]) rfl rfl ?_
  refine zy_h (mr := zm_m285) rfl rfl (zh_ialdO (v := xs 2) hO (by decide) rfl) ?_
  refine zy_c (mc := zm_m110) (mr := zm_m285) rfl rfl (zh_v rfl (zp_o F 0 rfl) rfl) rfl rfl (zm_Y.mono ((zx_20 F (xs 1) (xs 2)).deep (by decide)) ?_)
  rintro r h1 ⟨⟨v, rfl, hv⟩, K, KL, KS⟩
  refine zy_n 5 (mr := zm_m285) (pc' := 1064) (ls' := [(3, .int 0), (2, .ref 55), (1, .ref 0), (0, .retAddr 0)]) (st' := [.int 1, .retAddr 0, .ref 55, .int v]) rfl rfl ?_
  refine zy_h (mr := zm_m285) rfl rfl (zh_ialdO (v := xs 1) hO (by decide) rfl) ?_
  refine zy_n 4 (mr := zm_m285) (pc' := 1069) (ls' := [(3, .int 0), (2, .ref 55), (1, .ref 0), (0, .retAddr 0)]) (st' := [.int 2, .retAddr 0, .int (xs 1), .ref 55, .int v]) rfl rfl ?_
  refine zy_h (mr := zm_m285) rfl rfl (zh_ialdO (v := xs 2) hO (by decide) rfl) ?_
  refine zy_c (mc := zm_m255) (mr := zm_m285) rfl rfl (zh_v rfl ((K 55 (by decide) (by decide)).trans (zp_o F 10 rfl)) rfl) rfl rfl (zm_Y.mono ((zn_20 F K KL KS (xs 1) (xs 2)).deep (by decide)) ?_)
  rintro r h2 ⟨⟨w, rfl, hw⟩, KL2, KS2⟩
  have e : v = w := zg_20 hv hw
  subst e
  refine zy_b (mr := zm_m285) rfl rfl rfl (zc_eq (fun _ => ?_) (fun hc => absurd rfl hc))
  refine zy_n 4 (mr := zm_m285) (pc' := 20) (ls' := [(3, .int 7), (2, .ref 55), (1, .ref 0), (0, .retAddr 0)]) (st' := [.retAddr 0, .int 7]) rfl rfl ?_
  refine zy_h (q := (.int 7 :: [.int 7], _)) (mr := zm_m285) rfl rfl (zh_alenO hO) ?_
  refine zy_n 2 (mr := zm_m285) (pc' := 24) (ls' := [(3, .int 7), (2, .ref 55), (1, .ref 0), (0, .retAddr 0)]) (st' := [.int 0, .int 7]) rfl rfl ?_
  refine zy_b (q := (1983, [])) (mr := zm_m285) rfl rfl rfl ?_
  refine zy_n 1 (mr := zm_m285) (pc' := 1984) (ls' := [(3, .int 7), (2, .ref 55), (1, .ref 0), (0, .retAddr 0)]) (st' := [.int 1]) rfl rfl ?_
  refine zy_r (mr := zm_m285) rfl rfl rfl ?_
  exact ⟨rfl, Nat.le_trans KL2 (by decide), Nat.le_trans KS2 (by decide)⟩
set_option maxHeartbeats 4000000 in
set_option maxRecDepth 20000 in
theorem zz_21 {og : Nat → Option zm_C} {xs : Nat → Int32} {h : zm_H} (hO : og 0 = some (.inl (0, 7, .inl xs))) (F : zp_ck h = true) : zm_Y og 60 285 1078 [(3, .int 0), (2, .ref 55), (1, .ref 0), (0, .retAddr 0)] [] h (fun r h1 => r = some (.int 1) ∧ h1.length ≤ 600000 ∧ zm_szs h1 ≤ 7302249) := by
  refine zy_n 5 (mr := zm_m285) (pc' := 1083) (ls' := [(3, .int 0), (2, .ref 55), (1, .ref 0), (0, .retAddr 0)]) (st' := [.int 1, .retAddr 0, .ref 0]) rfl rfl ?_
  refine zy_h (mr := zm_m285) rfl rfl (zh_ialdO (v := xs 1) hO (by decide) rfl) ?_
  refine zy_n 4 (mr := zm_m285) (pc' := 1088) (ls' := [(3, .int 0), (2, .ref 55), (1, .ref 0), (0, .retAddr 0)]) (st' := [.int 2, .retAddr 0, .int (xs 1), .ref 0]) rfl rfl ?_
  refine zy_h (mr := zm_m285) rfl rfl (zh_ialdO (v := xs 2) hO (by decide) rfl) ?_
  refine zy_c (mc := zm_m114) (mr := zm_m285) rfl rfl (zh_v rfl (zp_o F 0 rfl) rfl) rfl rfl (zm_Y.mono ((zx_21 F (xs 1) (xs 2)).deep (by decide)) ?_)
  rintro r h1 ⟨⟨v, rfl, hv⟩, K, KL, KS⟩
  refine zy_n 5 (mr := zm_m285) (pc' := 1097) (ls' := [(3, .int 0), (2, .ref 55), (1, .ref 0), (0, .retAddr 0)]) (st' := [.int 1, .retAddr 0, .ref 55, .int v]) rfl rfl ?_
  refine zy_h (mr := zm_m285) rfl rfl (zh_ialdO (v := xs 1) hO (by decide) rfl) ?_
  refine zy_n 4 (mr := zm_m285) (pc' := 1102) (ls' := [(3, .int 0), (2, .ref 55), (1, .ref 0), (0, .retAddr 0)]) (st' := [.int 2, .retAddr 0, .int (xs 1), .ref 55, .int v]) rfl rfl ?_
  refine zy_h (mr := zm_m285) rfl rfl (zh_ialdO (v := xs 2) hO (by decide) rfl) ?_
  refine zy_c (mc := zm_m258) (mr := zm_m285) rfl rfl (zh_v rfl ((K 55 (by decide) (by decide)).trans (zp_o F 10 rfl)) rfl) rfl rfl (zm_Y.mono ((zn_21 F K KL KS (xs 1) (xs 2)).deep (by decide)) ?_)
  rintro r h2 ⟨⟨w, rfl, hw⟩, KL2, KS2⟩
  have e : v = w := zg_21 hv hw
  subst e
  refine zy_b (mr := zm_m285) rfl rfl rfl (zc_eq (fun _ => ?_) (fun hc => absurd rfl hc))
  refine zy_n 4 (mr := zm_m285) (pc' := 20) (ls' := [(3, .int 7), (2, .ref 55), (1, .ref 0), (0, .retAddr 0)]) (st' := [.retAddr 0, .int 7]) rfl rfl ?_
  refine zy_h (q := (.int 7 :: [.int 7], _)) (mr := zm_m285) rfl rfl (zh_alenO hO) ?_
  refine zy_n 2 (mr := zm_m285) (pc' := 24) (ls' := [(3, .int 7), (2, .ref 55), (1, .ref 0), (0, .retAddr 0)]) (st' := [.int 0, .int 7]) rfl rfl ?_
  refine zy_b (q := (1983, [])) (mr := zm_m285) rfl rfl rfl ?_
  refine zy_n 1 (mr := zm_m285) (pc' := 1984) (ls' := [(3, .int 7), (2, .ref 55), (1, .ref 0), (0, .retAddr 0)]) (st' := [.int 1]) rfl rfl ?_
  refine zy_r (mr := zm_m285) rfl rfl rfl ?_
  exact ⟨rfl, Nat.le_trans KL2 (by decide), Nat.le_trans KS2 (by decide)⟩
set_option maxHeartbeats 4000000 in
set_option maxRecDepth 20000 in
theorem zz_22 {og : Nat → Option zm_C} {xs : Nat → Int32} {h : zm_H} (hO : og 0 = some (.inl (0, 7, .inl xs))) (F : zp_ck h = true) : zm_Y og 60 285 1111 [(3, .int 0), (2, .ref 55), (1, .ref 0), (0, .retAddr 0)] [] h (fun r h1 => r = some (.int 1) ∧ h1.length ≤ 600000 ∧ zm_szs h1 ≤ 7302249) := by
  refine zy_n 5 (mr := zm_m285) (pc' := 1116) (ls' := [(3, .int 0), (2, .ref 55), (1, .ref 0), (0, .retAddr 0)]) (st' := [.int 1, .retAddr 0, .ref 0]) rfl rfl ?_
  refine zy_h (mr := zm_m285) rfl rfl (zh_ialdO (v := xs 1) hO (by decide) rfl) ?_
  refine zy_c (mc := zm_m116) (mr := zm_m285) rfl rfl (zh_v rfl (zp_o F 0 rfl) rfl) rfl rfl (zm_Y.mono ((zx_22 F (xs 1)).deep (by decide)) ?_)
  rintro r h1 ⟨⟨v, rfl, hv⟩, K, KL, KS⟩
  refine zy_n 5 (mr := zm_m285) (pc' := 1125) (ls' := [(3, .int 0), (2, .ref 55), (1, .ref 0), (0, .retAddr 0)]) (st' := [.int 1, .retAddr 0, .ref 55, .int v]) rfl rfl ?_
  refine zy_h (mr := zm_m285) rfl rfl (zh_ialdO (v := xs 1) hO (by decide) rfl) ?_
  refine zy_c (mc := zm_m259) (mr := zm_m285) rfl rfl (zh_v rfl ((K 55 (by decide) (by decide)).trans (zp_o F 10 rfl)) rfl) rfl rfl (zm_Y.mono ((zn_22 F K KL KS (xs 1)).deep (by decide)) ?_)
  rintro r h2 ⟨⟨w, rfl, hw⟩, KL2, KS2⟩
  have e : v = w := zg_22 hv hw
  subst e
  refine zy_b (mr := zm_m285) rfl rfl rfl (zc_eq (fun _ => ?_) (fun hc => absurd rfl hc))
  refine zy_n 4 (mr := zm_m285) (pc' := 20) (ls' := [(3, .int 7), (2, .ref 55), (1, .ref 0), (0, .retAddr 0)]) (st' := [.retAddr 0, .int 7]) rfl rfl ?_
  refine zy_h (q := (.int 7 :: [.int 7], _)) (mr := zm_m285) rfl rfl (zh_alenO hO) ?_
  refine zy_n 2 (mr := zm_m285) (pc' := 24) (ls' := [(3, .int 7), (2, .ref 55), (1, .ref 0), (0, .retAddr 0)]) (st' := [.int 0, .int 7]) rfl rfl ?_
  refine zy_b (q := (1983, [])) (mr := zm_m285) rfl rfl rfl ?_
  refine zy_n 1 (mr := zm_m285) (pc' := 1984) (ls' := [(3, .int 7), (2, .ref 55), (1, .ref 0), (0, .retAddr 0)]) (st' := [.int 1]) rfl rfl ?_
  refine zy_r (mr := zm_m285) rfl rfl rfl ?_
  exact ⟨rfl, Nat.le_trans KL2 (by decide), Nat.le_trans KS2 (by decide)⟩
set_option maxHeartbeats 4000000 in
set_option maxRecDepth 20000 in
theorem zz_23 {og : Nat → Option zm_C} {xs : Nat → Int32} {h : zm_H} (hO : og 0 = some (.inl (0, 7, .inl xs))) (F : zp_ck h = true) : zm_Y og 60 285 1134 [(3, .int 0), (2, .ref 55), (1, .ref 0), (0, .retAddr 0)] [] h (fun r h1 => r = some (.int 1) ∧ h1.length ≤ 600000 ∧ zm_szs h1 ≤ 7302249) := by
  refine zy_n 5 (mr := zm_m285) (pc' := 1139) (ls' := [(3, .int 0), (2, .ref 55), (1, .ref 0), (0, .retAddr 0)]) (st' := [.int 1, .retAddr 0, .ref 0]) rfl rfl ?_
  refine zy_h (mr := zm_m285) rfl rfl (zh_ialdO (v := xs 1) hO (by decide) rfl) ?_
  refine zy_n 4 (mr := zm_m285) (pc' := 1144) (ls' := [(3, .int 0), (2, .ref 55), (1, .ref 0), (0, .retAddr 0)]) (st' := [.int 2, .retAddr 0, .int (xs 1), .ref 0]) rfl rfl ?_
  refine zy_h (mr := zm_m285) rfl rfl (zh_ialdO (v := xs 2) hO (by decide) rfl) ?_
  refine zy_c (mc := zm_m119) (mr := zm_m285) rfl rfl (zh_v rfl (zp_o F 0 rfl) rfl) rfl rfl (zm_Y.mono ((zx_23 F (xs 1) (xs 2)).deep (by decide)) ?_)
  rintro r h1 ⟨⟨v, rfl, hv⟩, K, KL, KS⟩
  refine zy_n 5 (mr := zm_m285) (pc' := 1153) (ls' := [(3, .int 0), (2, .ref 55), (1, .ref 0), (0, .retAddr 0)]) (st' := [.int 1, .retAddr 0, .ref 55, .int v]) rfl rfl ?_
  refine zy_h (mr := zm_m285) rfl rfl (zh_ialdO (v := xs 1) hO (by decide) rfl) ?_
  refine zy_n 4 (mr := zm_m285) (pc' := 1158) (ls' := [(3, .int 0), (2, .ref 55), (1, .ref 0), (0, .retAddr 0)]) (st' := [.int 2, .retAddr 0, .int (xs 1), .ref 55, .int v]) rfl rfl ?_
  refine zy_h (mr := zm_m285) rfl rfl (zh_ialdO (v := xs 2) hO (by decide) rfl) ?_
  refine zy_c (mc := zm_m260) (mr := zm_m285) rfl rfl (zh_v rfl ((K 55 (by decide) (by decide)).trans (zp_o F 10 rfl)) rfl) rfl rfl (zm_Y.mono ((zn_23 F K KL KS (xs 1) (xs 2)).deep (by decide)) ?_)
  rintro r h2 ⟨⟨w, rfl, hw⟩, KL2, KS2⟩
  have e : v = w := zg_23 hv hw
  subst e
  refine zy_b (mr := zm_m285) rfl rfl rfl (zc_eq (fun _ => ?_) (fun hc => absurd rfl hc))
  refine zy_n 4 (mr := zm_m285) (pc' := 20) (ls' := [(3, .int 7), (2, .ref 55), (1, .ref 0), (0, .retAddr 0)]) (st' := [.retAddr 0, .int 7]) rfl rfl ?_
  refine zy_h (q := (.int 7 :: [.int 7], _)) (mr := zm_m285) rfl rfl (zh_alenO hO) ?_
  refine zy_n 2 (mr := zm_m285) (pc' := 24) (ls' := [(3, .int 7), (2, .ref 55), (1, .ref 0), (0, .retAddr 0)]) (st' := [.int 0, .int 7]) rfl rfl ?_
  refine zy_b (q := (1983, [])) (mr := zm_m285) rfl rfl rfl ?_
  refine zy_n 1 (mr := zm_m285) (pc' := 1984) (ls' := [(3, .int 7), (2, .ref 55), (1, .ref 0), (0, .retAddr 0)]) (st' := [.int 1]) rfl rfl ?_
  refine zy_r (mr := zm_m285) rfl rfl rfl ?_
  exact ⟨rfl, Nat.le_trans KL2 (by decide), Nat.le_trans KS2 (by decide)⟩
set_option maxHeartbeats 4000000 in
set_option maxRecDepth 20000 in
theorem zz_24 {og : Nat → Option zm_C} {xs : Nat → Int32} {h : zm_H} (hO : og 0 = some (.inl (0, 7, .inl xs))) (F : zp_ck h = true) : zm_Y og 60 285 1167 [(3, .int 0), (2, .ref 55), (1, .ref 0), (0, .retAddr 0)] [] h (fun r h1 => r = some (.int 1) ∧ h1.length ≤ 600000 ∧ zm_szs h1 ≤ 7302249) := by
  refine zy_n 5 (mr := zm_m285) (pc' := 1172) (ls' := [(3, .int 0), (2, .ref 55), (1, .ref 0), (0, .retAddr 0)]) (st' := [.int 1, .retAddr 0, .ref 0]) rfl rfl ?_
  refine zy_h (mr := zm_m285) rfl rfl (zh_ialdO (v := xs 1) hO (by decide) rfl) ?_
  refine zy_n 4 (mr := zm_m285) (pc' := 1177) (ls' := [(3, .int 0), (2, .ref 55), (1, .ref 0), (0, .retAddr 0)]) (st' := [.int 2, .retAddr 0, .int (xs 1), .ref 0]) rfl rfl ?_
  refine zy_h (mr := zm_m285) rfl rfl (zh_ialdO (v := xs 2) hO (by decide) rfl) ?_
  refine zy_c (mc := zm_m120) (mr := zm_m285) rfl rfl (zh_v rfl (zp_o F 0 rfl) rfl) rfl rfl (zm_Y.mono ((zx_24 F (xs 1) (xs 2)).deep (by decide)) ?_)
  rintro r h1 ⟨⟨v, rfl, hv⟩, K, KL, KS⟩
  refine zy_n 5 (mr := zm_m285) (pc' := 1186) (ls' := [(3, .int 0), (2, .ref 55), (1, .ref 0), (0, .retAddr 0)]) (st' := [.int 1, .retAddr 0, .ref 55, .int v]) rfl rfl ?_
  refine zy_h (mr := zm_m285) rfl rfl (zh_ialdO (v := xs 1) hO (by decide) rfl) ?_
  refine zy_n 4 (mr := zm_m285) (pc' := 1191) (ls' := [(3, .int 0), (2, .ref 55), (1, .ref 0), (0, .retAddr 0)]) (st' := [.int 2, .retAddr 0, .int (xs 1), .ref 55, .int v]) rfl rfl ?_
  refine zy_h (mr := zm_m285) rfl rfl (zh_ialdO (v := xs 2) hO (by decide) rfl) ?_
  refine zy_c (mc := zm_m261) (mr := zm_m285) rfl rfl (zh_v rfl ((K 55 (by decide) (by decide)).trans (zp_o F 10 rfl)) rfl) rfl rfl (zm_Y.mono ((zn_24 F K KL KS (xs 1) (xs 2)).deep (by decide)) ?_)
  rintro r h2 ⟨⟨w, rfl, hw⟩, KL2, KS2⟩
  have e : v = w := zg_24 hv hw
  subst e
  refine zy_b (mr := zm_m285) rfl rfl rfl (zc_eq (fun _ => ?_) (fun hc => absurd rfl hc))
  refine zy_n 4 (mr := zm_m285) (pc' := 20) (ls' := [(3, .int 7), (2, .ref 55), (1, .ref 0), (0, .retAddr 0)]) (st' := [.retAddr 0, .int 7]) rfl rfl ?_
  refine zy_h (q := (.int 7 :: [.int 7], _)) (mr := zm_m285) rfl rfl (zh_alenO hO) ?_
  refine zy_n 2 (mr := zm_m285) (pc' := 24) (ls' := [(3, .int 7), (2, .ref 55), (1, .ref 0), (0, .retAddr 0)]) (st' := [.int 0, .int 7]) rfl rfl ?_
  refine zy_b (q := (1983, [])) (mr := zm_m285) rfl rfl rfl ?_
  refine zy_n 1 (mr := zm_m285) (pc' := 1984) (ls' := [(3, .int 7), (2, .ref 55), (1, .ref 0), (0, .retAddr 0)]) (st' := [.int 1]) rfl rfl ?_
  refine zy_r (mr := zm_m285) rfl rfl rfl ?_
  exact ⟨rfl, Nat.le_trans KL2 (by decide), Nat.le_trans KS2 (by decide)⟩
set_option maxHeartbeats 4000000 in
set_option maxRecDepth 20000 in
theorem zz_25 {og : Nat → Option zm_C} {xs : Nat → Int32} {h : zm_H} (hO : og 0 = some (.inl (0, 7, .inl xs))) (F : zp_ck h = true) : zm_Y og 60 285 1200 [(3, .int 0), (2, .ref 55), (1, .ref 0), (0, .retAddr 0)] [] h (fun r h1 => r = some (.int 1) ∧ h1.length ≤ 600000 ∧ zm_szs h1 ≤ 7302249) := by
  refine zy_n 5 (mr := zm_m285) (pc' := 1205) (ls' := [(3, .int 0), (2, .ref 55), (1, .ref 0), (0, .retAddr 0)]) (st' := [.int 1, .retAddr 0, .ref 0]) rfl rfl ?_
  refine zy_h (mr := zm_m285) rfl rfl (zh_ialdO (v := xs 1) hO (by decide) rfl) ?_
  refine zy_n 4 (mr := zm_m285) (pc' := 1210) (ls' := [(3, .int 0), (2, .ref 55), (1, .ref 0), (0, .retAddr 0)]) (st' := [.int 2, .retAddr 0, .int (xs 1), .ref 0]) rfl rfl ?_
  refine zy_h (mr := zm_m285) rfl rfl (zh_ialdO (v := xs 2) hO (by decide) rfl) ?_
  refine zy_c (mc := zm_m126) (mr := zm_m285) rfl rfl (zh_v rfl (zp_o F 0 rfl) rfl) rfl rfl (zm_Y.mono ((zx_25 F (xs 1) (xs 2)).deep (by decide)) ?_)
  rintro r h1 ⟨⟨v, rfl, hv⟩, K, KL, KS⟩
  refine zy_n 5 (mr := zm_m285) (pc' := 1219) (ls' := [(3, .int 0), (2, .ref 55), (1, .ref 0), (0, .retAddr 0)]) (st' := [.int 1, .retAddr 0, .ref 55, .int v]) rfl rfl ?_
  refine zy_h (mr := zm_m285) rfl rfl (zh_ialdO (v := xs 1) hO (by decide) rfl) ?_
  refine zy_n 4 (mr := zm_m285) (pc' := 1224) (ls' := [(3, .int 0), (2, .ref 55), (1, .ref 0), (0, .retAddr 0)]) (st' := [.int 2, .retAddr 0, .int (xs 1), .ref 55, .int v]) rfl rfl ?_
  refine zy_h (mr := zm_m285) rfl rfl (zh_ialdO (v := xs 2) hO (by decide) rfl) ?_
  refine zy_c (mc := zm_m263) (mr := zm_m285) rfl rfl (zh_v rfl ((K 55 (by decide) (by decide)).trans (zp_o F 10 rfl)) rfl) rfl rfl (zm_Y.mono ((zn_25 F K KL KS (xs 1) (xs 2)).deep (by decide)) ?_)
  rintro r h2 ⟨⟨w, rfl, hw⟩, KL2, KS2⟩
  have e : v = w := zg_25 hv hw
  subst e
  refine zy_b (mr := zm_m285) rfl rfl rfl (zc_eq (fun _ => ?_) (fun hc => absurd rfl hc))
  refine zy_n 4 (mr := zm_m285) (pc' := 20) (ls' := [(3, .int 7), (2, .ref 55), (1, .ref 0), (0, .retAddr 0)]) (st' := [.retAddr 0, .int 7]) rfl rfl ?_
  refine zy_h (q := (.int 7 :: [.int 7], _)) (mr := zm_m285) rfl rfl (zh_alenO hO) ?_
  refine zy_n 2 (mr := zm_m285) (pc' := 24) (ls' := [(3, .int 7), (2, .ref 55), (1, .ref 0), (0, .retAddr 0)]) (st' := [.int 0, .int 7]) rfl rfl ?_
  refine zy_b (q := (1983, [])) (mr := zm_m285) rfl rfl rfl ?_
  refine zy_n 1 (mr := zm_m285) (pc' := 1984) (ls' := [(3, .int 7), (2, .ref 55), (1, .ref 0), (0, .retAddr 0)]) (st' := [.int 1]) rfl rfl ?_
  refine zy_r (mr := zm_m285) rfl rfl rfl ?_
  exact ⟨rfl, Nat.le_trans KL2 (by decide), Nat.le_trans KS2 (by decide)⟩
set_option maxHeartbeats 4000000 in
set_option maxRecDepth 20000 in
theorem zz_26 {og : Nat → Option zm_C} {xs : Nat → Int32} {h : zm_H} (hO : og 0 = some (.inl (0, 7, .inl xs))) (F : zp_ck h = true) : zm_Y og 60 285 1233 [(3, .int 0), (2, .ref 55), (1, .ref 0), (0, .retAddr 0)] [] h (fun r h1 => r = some (.int 1) ∧ h1.length ≤ 600000 ∧ zm_szs h1 ≤ 7302249) := by
  refine zy_n 5 (mr := zm_m285) (pc' := 1238) (ls' := [(3, .int 0), (2, .ref 55), (1, .ref 0), (0, .retAddr 0)]) (st' := [.int 1, .retAddr 0, .ref 0]) rfl rfl ?_
  refine zy_h (mr := zm_m285) rfl rfl (zh_ialdO (v := xs 1) hO (by decide) rfl) ?_
  refine zy_n 4 (mr := zm_m285) (pc' := 1243) (ls' := [(3, .int 0), (2, .ref 55), (1, .ref 0), (0, .retAddr 0)]) (st' := [.int 2, .retAddr 0, .int (xs 1), .ref 0]) rfl rfl ?_
  refine zy_h (mr := zm_m285) rfl rfl (zh_ialdO (v := xs 2) hO (by decide) rfl) ?_
  refine zy_c (mc := zm_m128) (mr := zm_m285) rfl rfl (zh_v rfl (zp_o F 0 rfl) rfl) rfl rfl (zm_Y.mono ((zx_26 F (xs 1) (xs 2)).deep (by decide)) ?_)
  rintro r h1 ⟨⟨v, rfl, hv⟩, K, KL, KS⟩
  refine zy_n 5 (mr := zm_m285) (pc' := 1252) (ls' := [(3, .int 0), (2, .ref 55), (1, .ref 0), (0, .retAddr 0)]) (st' := [.int 1, .retAddr 0, .ref 55, .int v]) rfl rfl ?_
  refine zy_h (mr := zm_m285) rfl rfl (zh_ialdO (v := xs 1) hO (by decide) rfl) ?_
  refine zy_n 4 (mr := zm_m285) (pc' := 1257) (ls' := [(3, .int 0), (2, .ref 55), (1, .ref 0), (0, .retAddr 0)]) (st' := [.int 2, .retAddr 0, .int (xs 1), .ref 55, .int v]) rfl rfl ?_
  refine zy_h (mr := zm_m285) rfl rfl (zh_ialdO (v := xs 2) hO (by decide) rfl) ?_
  refine zy_c (mc := zm_m265) (mr := zm_m285) rfl rfl (zh_v rfl ((K 55 (by decide) (by decide)).trans (zp_o F 10 rfl)) rfl) rfl rfl (zm_Y.mono ((zn_26 F K KL KS (xs 1) (xs 2)).deep (by decide)) ?_)
  rintro r h2 ⟨⟨w, rfl, hw⟩, KL2, KS2⟩
  have e : v = w := zg_26 hv hw
  subst e
  refine zy_b (mr := zm_m285) rfl rfl rfl (zc_eq (fun _ => ?_) (fun hc => absurd rfl hc))
  refine zy_n 4 (mr := zm_m285) (pc' := 20) (ls' := [(3, .int 7), (2, .ref 55), (1, .ref 0), (0, .retAddr 0)]) (st' := [.retAddr 0, .int 7]) rfl rfl ?_
  refine zy_h (q := (.int 7 :: [.int 7], _)) (mr := zm_m285) rfl rfl (zh_alenO hO) ?_
  refine zy_n 2 (mr := zm_m285) (pc' := 24) (ls' := [(3, .int 7), (2, .ref 55), (1, .ref 0), (0, .retAddr 0)]) (st' := [.int 0, .int 7]) rfl rfl ?_
  refine zy_b (q := (1983, [])) (mr := zm_m285) rfl rfl rfl ?_
  refine zy_n 1 (mr := zm_m285) (pc' := 1984) (ls' := [(3, .int 7), (2, .ref 55), (1, .ref 0), (0, .retAddr 0)]) (st' := [.int 1]) rfl rfl ?_
  refine zy_r (mr := zm_m285) rfl rfl rfl ?_
  exact ⟨rfl, Nat.le_trans KL2 (by decide), Nat.le_trans KS2 (by decide)⟩
set_option maxHeartbeats 4000000 in
set_option maxRecDepth 20000 in
theorem zz_27 {og : Nat → Option zm_C} {xs : Nat → Int32} {h : zm_H} (hO : og 0 = some (.inl (0, 7, .inl xs))) (F : zp_ck h = true) : zm_Y og 60 285 1266 [(3, .int 0), (2, .ref 55), (1, .ref 0), (0, .retAddr 0)] [] h (fun r h1 => r = some (.int 1) ∧ h1.length ≤ 600000 ∧ zm_szs h1 ≤ 7302249) := by
  refine zy_n 5 (mr := zm_m285) (pc' := 1271) (ls' := [(3, .int 0), (2, .ref 55), (1, .ref 0), (0, .retAddr 0)]) (st' := [.int 1, .retAddr 0, .ref 0]) rfl rfl ?_
  refine zy_h (mr := zm_m285) rfl rfl (zh_ialdO (v := xs 1) hO (by decide) rfl) ?_
  refine zy_n 4 (mr := zm_m285) (pc' := 1276) (ls' := [(3, .int 0), (2, .ref 55), (1, .ref 0), (0, .retAddr 0)]) (st' := [.int 2, .retAddr 0, .int (xs 1), .ref 0]) rfl rfl ?_
  refine zy_h (mr := zm_m285) rfl rfl (zh_ialdO (v := xs 2) hO (by decide) rfl) ?_
  refine zy_n 4 (mr := zm_m285) (pc' := 1281) (ls' := [(3, .int 0), (2, .ref 55), (1, .ref 0), (0, .retAddr 0)]) (st' := [.int 3, .retAddr 0, .int (xs 2), .int (xs 1), .ref 0]) rfl rfl ?_
  refine zy_h (mr := zm_m285) rfl rfl (zh_ialdO (v := xs 3) hO (by decide) rfl) ?_
  refine zy_c (mc := zm_m131) (mr := zm_m285) rfl rfl (zh_v rfl (zp_o F 0 rfl) rfl) rfl rfl (zm_Y.mono ((zx_27 F (xs 1) (xs 2) (xs 3)).deep (by decide)) ?_)
  rintro r h1 ⟨⟨v, rfl, hv⟩, K, KL, KS⟩
  refine zy_n 5 (mr := zm_m285) (pc' := 1290) (ls' := [(3, .int 0), (2, .ref 55), (1, .ref 0), (0, .retAddr 0)]) (st' := [.int 1, .retAddr 0, .ref 55, .int v]) rfl rfl ?_
  refine zy_h (mr := zm_m285) rfl rfl (zh_ialdO (v := xs 1) hO (by decide) rfl) ?_
  refine zy_n 4 (mr := zm_m285) (pc' := 1295) (ls' := [(3, .int 0), (2, .ref 55), (1, .ref 0), (0, .retAddr 0)]) (st' := [.int 2, .retAddr 0, .int (xs 1), .ref 55, .int v]) rfl rfl ?_
  refine zy_h (mr := zm_m285) rfl rfl (zh_ialdO (v := xs 2) hO (by decide) rfl) ?_
  refine zy_n 4 (mr := zm_m285) (pc' := 1300) (ls' := [(3, .int 0), (2, .ref 55), (1, .ref 0), (0, .retAddr 0)]) (st' := [.int 3, .retAddr 0, .int (xs 2), .int (xs 1), .ref 55, .int v]) rfl rfl ?_
  refine zy_h (mr := zm_m285) rfl rfl (zh_ialdO (v := xs 3) hO (by decide) rfl) ?_
  refine zy_c (mc := zm_m266) (mr := zm_m285) rfl rfl (zh_v rfl ((K 55 (by decide) (by decide)).trans (zp_o F 10 rfl)) rfl) rfl rfl (zm_Y.mono ((zn_27 F K KL KS (xs 1) (xs 2) (xs 3)).deep (by decide)) ?_)
  rintro r h2 ⟨⟨w, rfl, hw⟩, KL2, KS2⟩
  have e : v = w := zg_27 hv hw
  subst e
  refine zy_b (mr := zm_m285) rfl rfl rfl (zc_eq (fun _ => ?_) (fun hc => absurd rfl hc))
  refine zy_n 4 (mr := zm_m285) (pc' := 20) (ls' := [(3, .int 7), (2, .ref 55), (1, .ref 0), (0, .retAddr 0)]) (st' := [.retAddr 0, .int 7]) rfl rfl ?_
  refine zy_h (q := (.int 7 :: [.int 7], _)) (mr := zm_m285) rfl rfl (zh_alenO hO) ?_
  refine zy_n 2 (mr := zm_m285) (pc' := 24) (ls' := [(3, .int 7), (2, .ref 55), (1, .ref 0), (0, .retAddr 0)]) (st' := [.int 0, .int 7]) rfl rfl ?_
  refine zy_b (q := (1983, [])) (mr := zm_m285) rfl rfl rfl ?_
  refine zy_n 1 (mr := zm_m285) (pc' := 1984) (ls' := [(3, .int 7), (2, .ref 55), (1, .ref 0), (0, .retAddr 0)]) (st' := [.int 1]) rfl rfl ?_
  refine zy_r (mr := zm_m285) rfl rfl rfl ?_
  exact ⟨rfl, Nat.le_trans KL2 (by decide), Nat.le_trans KS2 (by decide)⟩
set_option maxHeartbeats 4000000 in
set_option maxRecDepth 20000 in
theorem zz_28 {og : Nat → Option zm_C} {xs : Nat → Int32} {h : zm_H} (hO : og 0 = some (.inl (0, 7, .inl xs))) (F : zp_ck h = true) : zm_Y og 60 285 1309 [(3, .int 0), (2, .ref 55), (1, .ref 0), (0, .retAddr 0)] [] h (fun r h1 => r = some (.int 1) ∧ h1.length ≤ 600000 ∧ zm_szs h1 ≤ 7302249) := by
  refine zy_n 1 (mr := zm_m285) (pc' := 1310) (ls' := [(3, .int 0), (2, .ref 55), (1, .ref 0), (0, .retAddr 0)]) (st' := [.ref 0]) rfl rfl ?_
  refine zy_c (mc := zm_m132) (mr := zm_m285) rfl rfl (zh_v rfl (zp_o F 0 rfl) rfl) rfl rfl (zm_Y.mono ((zx_28 F ).deep (by decide)) ?_)
  rintro r h1 ⟨⟨v, rfl, hv⟩, K, KL, KS⟩
  refine zy_n 1 (mr := zm_m285) (pc' := 1314) (ls' := [(3, .int 0), (2, .ref 55), (1, .ref 0), (0, .retAddr 0)]) (st' := [.ref 55, .long v]) rfl rfl ?_
  refine zy_c (mc := zm_m267) (mr := zm_m285) rfl rfl (zh_v rfl ((K 55 (by decide) (by decide)).trans (zp_o F 10 rfl)) rfl) rfl rfl (zm_Y.mono ((zn_28 F K KL KS ).deep (by decide)) ?_)
  rintro r h2 ⟨⟨w, rfl, hw⟩, KL2, KS2⟩
  have e : v = w := zg_28 hv hw
  subst e
  refine zy_n 1 (mr := zm_m285) (pc' := 1318) (ls' := [(3, .int 0), (2, .ref 55), (1, .ref 0), (0, .retAddr 0)]) (st' := [.int (lg_cmp v v)]) rfl rfl ?_
  refine zy_b (mr := zm_m285) rfl rfl rfl (zi_eq (fun _ => ?_) (fun hc => absurd ((lg_cmp_eq v v).mpr rfl) hc))
  refine zy_n 4 (mr := zm_m285) (pc' := 20) (ls' := [(3, .int 7), (2, .ref 55), (1, .ref 0), (0, .retAddr 0)]) (st' := [.retAddr 0, .int 7]) rfl rfl ?_
  refine zy_h (q := (.int 7 :: [.int 7], _)) (mr := zm_m285) rfl rfl (zh_alenO hO) ?_
  refine zy_n 2 (mr := zm_m285) (pc' := 24) (ls' := [(3, .int 7), (2, .ref 55), (1, .ref 0), (0, .retAddr 0)]) (st' := [.int 0, .int 7]) rfl rfl ?_
  refine zy_b (q := (1983, [])) (mr := zm_m285) rfl rfl rfl ?_
  refine zy_n 1 (mr := zm_m285) (pc' := 1984) (ls' := [(3, .int 7), (2, .ref 55), (1, .ref 0), (0, .retAddr 0)]) (st' := [.int 1]) rfl rfl ?_
  refine zy_r (mr := zm_m285) rfl rfl rfl ?_
  exact ⟨rfl, Nat.le_trans KL2 (by decide), Nat.le_trans KS2 (by decide)⟩
set_option maxHeartbeats 4000000 in
set_option maxRecDepth 20000 in
theorem zz_29 {og : Nat → Option zm_C} {xs : Nat → Int32} {h : zm_H} (hO : og 0 = some (.inl (0, 7, .inl xs))) (F : zp_ck h = true) : zm_Y og 60 285 1323 [(3, .int 0), (2, .ref 55), (1, .ref 0), (0, .retAddr 0)] [] h (fun r h1 => r = some (.int 1) ∧ h1.length ≤ 600000 ∧ zm_szs h1 ≤ 7302249) := by
  refine zy_n 5 (mr := zm_m285) (pc' := 1328) (ls' := [(3, .int 0), (2, .ref 55), (1, .ref 0), (0, .retAddr 0)]) (st' := [.int 1, .retAddr 0, .ref 0]) rfl rfl ?_
  refine zy_h (mr := zm_m285) rfl rfl (zh_ialdO (v := xs 1) hO (by decide) rfl) ?_
  refine zy_n 4 (mr := zm_m285) (pc' := 1333) (ls' := [(3, .int 0), (2, .ref 55), (1, .ref 0), (0, .retAddr 0)]) (st' := [.int 2, .retAddr 0, .int (xs 1), .ref 0]) rfl rfl ?_
  refine zy_h (mr := zm_m285) rfl rfl (zh_ialdO (v := xs 2) hO (by decide) rfl) ?_
  refine zy_n 4 (mr := zm_m285) (pc' := 1338) (ls' := [(3, .int 0), (2, .ref 55), (1, .ref 0), (0, .retAddr 0)]) (st' := [.int 3, .retAddr 0, .int (xs 2), .int (xs 1), .ref 0]) rfl rfl ?_
  refine zy_h (mr := zm_m285) rfl rfl (zh_ialdO (v := xs 3) hO (by decide) rfl) ?_
  refine zy_n 4 (mr := zm_m285) (pc' := 1343) (ls' := [(3, .int 0), (2, .ref 55), (1, .ref 0), (0, .retAddr 0)]) (st' := [.int 4, .retAddr 0, .int (xs 3), .int (xs 2), .int (xs 1), .ref 0]) rfl rfl ?_
  refine zy_h (mr := zm_m285) rfl rfl (zh_ialdO (v := xs 4) hO (by decide) rfl) ?_
  refine zy_c (mc := zm_m136) (mr := zm_m285) rfl rfl (zh_v rfl (zp_o F 0 rfl) rfl) rfl rfl (zm_Y.mono ((zx_29 F (xs 1) (xs 2) (xs 3) (xs 4)).deep (by decide)) ?_)
  rintro r h1 ⟨⟨v, rfl, hv⟩, K, KL, KS⟩
  refine zy_n 5 (mr := zm_m285) (pc' := 1352) (ls' := [(3, .int 0), (2, .ref 55), (1, .ref 0), (0, .retAddr 0)]) (st' := [.int 1, .retAddr 0, .ref 55, .int v]) rfl rfl ?_
  refine zy_h (mr := zm_m285) rfl rfl (zh_ialdO (v := xs 1) hO (by decide) rfl) ?_
  refine zy_n 4 (mr := zm_m285) (pc' := 1357) (ls' := [(3, .int 0), (2, .ref 55), (1, .ref 0), (0, .retAddr 0)]) (st' := [.int 2, .retAddr 0, .int (xs 1), .ref 55, .int v]) rfl rfl ?_
  refine zy_h (mr := zm_m285) rfl rfl (zh_ialdO (v := xs 2) hO (by decide) rfl) ?_
  refine zy_n 4 (mr := zm_m285) (pc' := 1362) (ls' := [(3, .int 0), (2, .ref 55), (1, .ref 0), (0, .retAddr 0)]) (st' := [.int 3, .retAddr 0, .int (xs 2), .int (xs 1), .ref 55, .int v]) rfl rfl ?_
  refine zy_h (mr := zm_m285) rfl rfl (zh_ialdO (v := xs 3) hO (by decide) rfl) ?_
  refine zy_n 4 (mr := zm_m285) (pc' := 1367) (ls' := [(3, .int 0), (2, .ref 55), (1, .ref 0), (0, .retAddr 0)]) (st' := [.int 4, .retAddr 0, .int (xs 3), .int (xs 2), .int (xs 1), .ref 55, .int v]) rfl rfl ?_
  refine zy_h (mr := zm_m285) rfl rfl (zh_ialdO (v := xs 4) hO (by decide) rfl) ?_
  refine zy_c (mc := zm_m269) (mr := zm_m285) rfl rfl (zh_v rfl ((K 55 (by decide) (by decide)).trans (zp_o F 10 rfl)) rfl) rfl rfl (zm_Y.mono ((zn_29 F K KL KS (xs 1) (xs 2) (xs 3) (xs 4)).deep (by decide)) ?_)
  rintro r h2 ⟨⟨w, rfl, hw⟩, KL2, KS2⟩
  have e : v = w := zg_29 hv hw
  subst e
  refine zy_b (mr := zm_m285) rfl rfl rfl (zc_eq (fun _ => ?_) (fun hc => absurd rfl hc))
  refine zy_n 4 (mr := zm_m285) (pc' := 20) (ls' := [(3, .int 7), (2, .ref 55), (1, .ref 0), (0, .retAddr 0)]) (st' := [.retAddr 0, .int 7]) rfl rfl ?_
  refine zy_h (q := (.int 7 :: [.int 7], _)) (mr := zm_m285) rfl rfl (zh_alenO hO) ?_
  refine zy_n 2 (mr := zm_m285) (pc' := 24) (ls' := [(3, .int 7), (2, .ref 55), (1, .ref 0), (0, .retAddr 0)]) (st' := [.int 0, .int 7]) rfl rfl ?_
  refine zy_b (q := (1983, [])) (mr := zm_m285) rfl rfl rfl ?_
  refine zy_n 1 (mr := zm_m285) (pc' := 1984) (ls' := [(3, .int 7), (2, .ref 55), (1, .ref 0), (0, .retAddr 0)]) (st' := [.int 1]) rfl rfl ?_
  refine zy_r (mr := zm_m285) rfl rfl rfl ?_
  exact ⟨rfl, Nat.le_trans KL2 (by decide), Nat.le_trans KS2 (by decide)⟩
set_option maxHeartbeats 4000000 in
set_option maxRecDepth 20000 in
theorem zz_30 {og : Nat → Option zm_C} {xs : Nat → Int32} {h : zm_H} (hO : og 0 = some (.inl (0, 7, .inl xs))) (F : zp_ck h = true) : zm_Y og 60 285 1376 [(3, .int 0), (2, .ref 55), (1, .ref 0), (0, .retAddr 0)] [] h (fun r h1 => r = some (.int 1) ∧ h1.length ≤ 600000 ∧ zm_szs h1 ≤ 7302249) := by
  refine zy_n 5 (mr := zm_m285) (pc' := 1381) (ls' := [(3, .int 0), (2, .ref 55), (1, .ref 0), (0, .retAddr 0)]) (st' := [.int 1, .retAddr 0, .ref 0]) rfl rfl ?_
  refine zy_h (mr := zm_m285) rfl rfl (zh_ialdO (v := xs 1) hO (by decide) rfl) ?_
  refine zy_n 4 (mr := zm_m285) (pc' := 1386) (ls' := [(3, .int 0), (2, .ref 55), (1, .ref 0), (0, .retAddr 0)]) (st' := [.int 2, .retAddr 0, .int (xs 1), .ref 0]) rfl rfl ?_
  refine zy_h (mr := zm_m285) rfl rfl (zh_ialdO (v := xs 2) hO (by decide) rfl) ?_
  refine zy_n 4 (mr := zm_m285) (pc' := 1391) (ls' := [(3, .int 0), (2, .ref 55), (1, .ref 0), (0, .retAddr 0)]) (st' := [.int 3, .retAddr 0, .int (xs 2), .int (xs 1), .ref 0]) rfl rfl ?_
  refine zy_h (mr := zm_m285) rfl rfl (zh_ialdO (v := xs 3) hO (by decide) rfl) ?_
  refine zy_n 4 (mr := zm_m285) (pc' := 1396) (ls' := [(3, .int 0), (2, .ref 55), (1, .ref 0), (0, .retAddr 0)]) (st' := [.int 4, .retAddr 0, .int (xs 3), .int (xs 2), .int (xs 1), .ref 0]) rfl rfl ?_
  refine zy_h (mr := zm_m285) rfl rfl (zh_ialdO (v := xs 4) hO (by decide) rfl) ?_
  refine zy_c (mc := zm_m139) (mr := zm_m285) rfl rfl (zh_v rfl (zp_o F 0 rfl) rfl) rfl rfl (zm_Y.mono ((zx_30 F (xs 1) (xs 2) (xs 3) (xs 4)).deep (by decide)) ?_)
  rintro r h1 ⟨⟨v, rfl, hv⟩, K, KL, KS⟩
  refine zy_n 5 (mr := zm_m285) (pc' := 1405) (ls' := [(3, .int 0), (2, .ref 55), (1, .ref 0), (0, .retAddr 0)]) (st' := [.int 1, .retAddr 0, .ref 55, .int v]) rfl rfl ?_
  refine zy_h (mr := zm_m285) rfl rfl (zh_ialdO (v := xs 1) hO (by decide) rfl) ?_
  refine zy_n 4 (mr := zm_m285) (pc' := 1410) (ls' := [(3, .int 0), (2, .ref 55), (1, .ref 0), (0, .retAddr 0)]) (st' := [.int 2, .retAddr 0, .int (xs 1), .ref 55, .int v]) rfl rfl ?_
  refine zy_h (mr := zm_m285) rfl rfl (zh_ialdO (v := xs 2) hO (by decide) rfl) ?_
  refine zy_n 4 (mr := zm_m285) (pc' := 1415) (ls' := [(3, .int 0), (2, .ref 55), (1, .ref 0), (0, .retAddr 0)]) (st' := [.int 3, .retAddr 0, .int (xs 2), .int (xs 1), .ref 55, .int v]) rfl rfl ?_
  refine zy_h (mr := zm_m285) rfl rfl (zh_ialdO (v := xs 3) hO (by decide) rfl) ?_
  refine zy_n 4 (mr := zm_m285) (pc' := 1420) (ls' := [(3, .int 0), (2, .ref 55), (1, .ref 0), (0, .retAddr 0)]) (st' := [.int 4, .retAddr 0, .int (xs 3), .int (xs 2), .int (xs 1), .ref 55, .int v]) rfl rfl ?_
  refine zy_h (mr := zm_m285) rfl rfl (zh_ialdO (v := xs 4) hO (by decide) rfl) ?_
  refine zy_c (mc := zm_m270) (mr := zm_m285) rfl rfl (zh_v rfl ((K 55 (by decide) (by decide)).trans (zp_o F 10 rfl)) rfl) rfl rfl (zm_Y.mono ((zn_30 F K KL KS (xs 1) (xs 2) (xs 3) (xs 4)).deep (by decide)) ?_)
  rintro r h2 ⟨⟨w, rfl, hw⟩, KL2, KS2⟩
  have e : v = w := zg_30 hv hw
  subst e
  refine zy_b (mr := zm_m285) rfl rfl rfl (zc_eq (fun _ => ?_) (fun hc => absurd rfl hc))
  refine zy_n 4 (mr := zm_m285) (pc' := 20) (ls' := [(3, .int 7), (2, .ref 55), (1, .ref 0), (0, .retAddr 0)]) (st' := [.retAddr 0, .int 7]) rfl rfl ?_
  refine zy_h (q := (.int 7 :: [.int 7], _)) (mr := zm_m285) rfl rfl (zh_alenO hO) ?_
  refine zy_n 2 (mr := zm_m285) (pc' := 24) (ls' := [(3, .int 7), (2, .ref 55), (1, .ref 0), (0, .retAddr 0)]) (st' := [.int 0, .int 7]) rfl rfl ?_
  refine zy_b (q := (1983, [])) (mr := zm_m285) rfl rfl rfl ?_
  refine zy_n 1 (mr := zm_m285) (pc' := 1984) (ls' := [(3, .int 7), (2, .ref 55), (1, .ref 0), (0, .retAddr 0)]) (st' := [.int 1]) rfl rfl ?_
  refine zy_r (mr := zm_m285) rfl rfl rfl ?_
  exact ⟨rfl, Nat.le_trans KL2 (by decide), Nat.le_trans KS2 (by decide)⟩
set_option maxHeartbeats 4000000 in
set_option maxRecDepth 20000 in
theorem zz_31 {og : Nat → Option zm_C} {xs : Nat → Int32} {h : zm_H} (hO : og 0 = some (.inl (0, 7, .inl xs))) (F : zp_ck h = true) : zm_Y og 60 285 1429 [(3, .int 0), (2, .ref 55), (1, .ref 0), (0, .retAddr 0)] [] h (fun r h1 => r = some (.int 1) ∧ h1.length ≤ 600000 ∧ zm_szs h1 ≤ 7302249) := by
  refine zy_n 5 (mr := zm_m285) (pc' := 1434) (ls' := [(3, .int 0), (2, .ref 55), (1, .ref 0), (0, .retAddr 0)]) (st' := [.int 1, .retAddr 0, .ref 0]) rfl rfl ?_
  refine zy_h (mr := zm_m285) rfl rfl (zh_ialdO (v := xs 1) hO (by decide) rfl) ?_
  refine zy_n 4 (mr := zm_m285) (pc' := 1439) (ls' := [(3, .int 0), (2, .ref 55), (1, .ref 0), (0, .retAddr 0)]) (st' := [.int 2, .retAddr 0, .int (xs 1), .ref 0]) rfl rfl ?_
  refine zy_h (mr := zm_m285) rfl rfl (zh_ialdO (v := xs 2) hO (by decide) rfl) ?_
  refine zy_n 4 (mr := zm_m285) (pc' := 1444) (ls' := [(3, .int 0), (2, .ref 55), (1, .ref 0), (0, .retAddr 0)]) (st' := [.int 3, .retAddr 0, .int (xs 2), .int (xs 1), .ref 0]) rfl rfl ?_
  refine zy_h (mr := zm_m285) rfl rfl (zh_ialdO (v := xs 3) hO (by decide) rfl) ?_
  refine zy_c (mc := zm_m141) (mr := zm_m285) rfl rfl (zh_v rfl (zp_o F 0 rfl) rfl) rfl rfl (zm_Y.mono ((zx_31 F (xs 1) (xs 2) (xs 3)).deep (by decide)) ?_)
  rintro r h1 ⟨⟨v, rfl, hv⟩, K, KL, KS⟩
  refine zy_n 5 (mr := zm_m285) (pc' := 1453) (ls' := [(3, .int 0), (2, .ref 55), (1, .ref 0), (0, .retAddr 0)]) (st' := [.int 1, .retAddr 0, .ref 55, .int v]) rfl rfl ?_
  refine zy_h (mr := zm_m285) rfl rfl (zh_ialdO (v := xs 1) hO (by decide) rfl) ?_
  refine zy_n 4 (mr := zm_m285) (pc' := 1458) (ls' := [(3, .int 0), (2, .ref 55), (1, .ref 0), (0, .retAddr 0)]) (st' := [.int 2, .retAddr 0, .int (xs 1), .ref 55, .int v]) rfl rfl ?_
  refine zy_h (mr := zm_m285) rfl rfl (zh_ialdO (v := xs 2) hO (by decide) rfl) ?_
  refine zy_n 4 (mr := zm_m285) (pc' := 1463) (ls' := [(3, .int 0), (2, .ref 55), (1, .ref 0), (0, .retAddr 0)]) (st' := [.int 3, .retAddr 0, .int (xs 2), .int (xs 1), .ref 55, .int v]) rfl rfl ?_
  refine zy_h (mr := zm_m285) rfl rfl (zh_ialdO (v := xs 3) hO (by decide) rfl) ?_
  refine zy_c (mc := zm_m271) (mr := zm_m285) rfl rfl (zh_v rfl ((K 55 (by decide) (by decide)).trans (zp_o F 10 rfl)) rfl) rfl rfl (zm_Y.mono ((zn_31 F K KL KS (xs 1) (xs 2) (xs 3)).deep (by decide)) ?_)
  rintro r h2 ⟨⟨w, rfl, hw⟩, KL2, KS2⟩
  have e : v = w := zg_31 hv hw
  subst e
  refine zy_b (mr := zm_m285) rfl rfl rfl (zc_eq (fun _ => ?_) (fun hc => absurd rfl hc))
  refine zy_n 4 (mr := zm_m285) (pc' := 20) (ls' := [(3, .int 7), (2, .ref 55), (1, .ref 0), (0, .retAddr 0)]) (st' := [.retAddr 0, .int 7]) rfl rfl ?_
  refine zy_h (q := (.int 7 :: [.int 7], _)) (mr := zm_m285) rfl rfl (zh_alenO hO) ?_
  refine zy_n 2 (mr := zm_m285) (pc' := 24) (ls' := [(3, .int 7), (2, .ref 55), (1, .ref 0), (0, .retAddr 0)]) (st' := [.int 0, .int 7]) rfl rfl ?_
  refine zy_b (q := (1983, [])) (mr := zm_m285) rfl rfl rfl ?_
  refine zy_n 1 (mr := zm_m285) (pc' := 1984) (ls' := [(3, .int 7), (2, .ref 55), (1, .ref 0), (0, .retAddr 0)]) (st' := [.int 1]) rfl rfl ?_
  refine zy_r (mr := zm_m285) rfl rfl rfl ?_
  exact ⟨rfl, Nat.le_trans KL2 (by decide), Nat.le_trans KS2 (by decide)⟩
set_option maxHeartbeats 4000000 in
set_option maxRecDepth 20000 in
theorem zz_32 {og : Nat → Option zm_C} {xs : Nat → Int32} {h : zm_H} (hO : og 0 = some (.inl (0, 7, .inl xs))) (F : zp_ck h = true) : zm_Y og 60 285 1472 [(3, .int 0), (2, .ref 55), (1, .ref 0), (0, .retAddr 0)] [] h (fun r h1 => r = some (.int 1) ∧ h1.length ≤ 600000 ∧ zm_szs h1 ≤ 7302249) := by
  refine zy_n 5 (mr := zm_m285) (pc' := 1477) (ls' := [(3, .int 0), (2, .ref 55), (1, .ref 0), (0, .retAddr 0)]) (st' := [.int 1, .retAddr 0, .ref 0]) rfl rfl ?_
  refine zy_h (mr := zm_m285) rfl rfl (zh_ialdO (v := xs 1) hO (by decide) rfl) ?_
  refine zy_c (mc := zm_m143) (mr := zm_m285) rfl rfl (zh_v rfl (zp_o F 0 rfl) rfl) rfl rfl (zm_Y.mono ((zx_32 F (xs 1)).deep (by decide)) ?_)
  rintro r h1 ⟨⟨v, rfl, hv⟩, K, KL, KS⟩
  refine zy_n 5 (mr := zm_m285) (pc' := 1486) (ls' := [(3, .int 0), (2, .ref 55), (1, .ref 0), (0, .retAddr 0)]) (st' := [.int 1, .retAddr 0, .ref 55, .int v]) rfl rfl ?_
  refine zy_h (mr := zm_m285) rfl rfl (zh_ialdO (v := xs 1) hO (by decide) rfl) ?_
  refine zy_c (mc := zm_m272) (mr := zm_m285) rfl rfl (zh_v rfl ((K 55 (by decide) (by decide)).trans (zp_o F 10 rfl)) rfl) rfl rfl (zm_Y.mono ((zn_32 F K KL KS (xs 1)).deep (by decide)) ?_)
  rintro r h2 ⟨⟨w, rfl, hw⟩, KL2, KS2⟩
  have e : v = w := zg_32 hv hw
  subst e
  refine zy_b (mr := zm_m285) rfl rfl rfl (zc_eq (fun _ => ?_) (fun hc => absurd rfl hc))
  refine zy_n 4 (mr := zm_m285) (pc' := 20) (ls' := [(3, .int 7), (2, .ref 55), (1, .ref 0), (0, .retAddr 0)]) (st' := [.retAddr 0, .int 7]) rfl rfl ?_
  refine zy_h (q := (.int 7 :: [.int 7], _)) (mr := zm_m285) rfl rfl (zh_alenO hO) ?_
  refine zy_n 2 (mr := zm_m285) (pc' := 24) (ls' := [(3, .int 7), (2, .ref 55), (1, .ref 0), (0, .retAddr 0)]) (st' := [.int 0, .int 7]) rfl rfl ?_
  refine zy_b (q := (1983, [])) (mr := zm_m285) rfl rfl rfl ?_
  refine zy_n 1 (mr := zm_m285) (pc' := 1984) (ls' := [(3, .int 7), (2, .ref 55), (1, .ref 0), (0, .retAddr 0)]) (st' := [.int 1]) rfl rfl ?_
  refine zy_r (mr := zm_m285) rfl rfl rfl ?_
  exact ⟨rfl, Nat.le_trans KL2 (by decide), Nat.le_trans KS2 (by decide)⟩
set_option maxHeartbeats 4000000 in
set_option maxRecDepth 20000 in
theorem zz_33 {og : Nat → Option zm_C} {xs : Nat → Int32} {h : zm_H} (hO : og 0 = some (.inl (0, 7, .inl xs))) (F : zp_ck h = true) : zm_Y og 60 285 1495 [(3, .int 0), (2, .ref 55), (1, .ref 0), (0, .retAddr 0)] [] h (fun r h1 => r = some (.int 1) ∧ h1.length ≤ 600000 ∧ zm_szs h1 ≤ 7302249) := by
  refine zy_n 5 (mr := zm_m285) (pc' := 1500) (ls' := [(3, .int 0), (2, .ref 55), (1, .ref 0), (0, .retAddr 0)]) (st' := [.int 1, .retAddr 0, .ref 0]) rfl rfl ?_
  refine zy_h (mr := zm_m285) rfl rfl (zh_ialdO (v := xs 1) hO (by decide) rfl) ?_
  refine zy_n 4 (mr := zm_m285) (pc' := 1505) (ls' := [(3, .int 0), (2, .ref 55), (1, .ref 0), (0, .retAddr 0)]) (st' := [.int 2, .retAddr 0, .int (xs 1), .ref 0]) rfl rfl ?_
  refine zy_h (mr := zm_m285) rfl rfl (zh_ialdO (v := xs 2) hO (by decide) rfl) ?_
  refine zy_c (mc := zm_m153) (mr := zm_m285) rfl rfl (zh_v rfl (zp_o F 0 rfl) rfl) rfl rfl (zm_Y.mono ((zx_33 F (xs 1) (xs 2)).deep (by decide)) ?_)
  rintro r h1 ⟨⟨v, rfl, hv⟩, K, KL, KS⟩
  refine zy_n 5 (mr := zm_m285) (pc' := 1514) (ls' := [(3, .int 0), (2, .ref 55), (1, .ref 0), (0, .retAddr 0)]) (st' := [.int 1, .retAddr 0, .ref 55, .long v]) rfl rfl ?_
  refine zy_h (mr := zm_m285) rfl rfl (zh_ialdO (v := xs 1) hO (by decide) rfl) ?_
  refine zy_n 4 (mr := zm_m285) (pc' := 1519) (ls' := [(3, .int 0), (2, .ref 55), (1, .ref 0), (0, .retAddr 0)]) (st' := [.int 2, .retAddr 0, .int (xs 1), .ref 55, .long v]) rfl rfl ?_
  refine zy_h (mr := zm_m285) rfl rfl (zh_ialdO (v := xs 2) hO (by decide) rfl) ?_
  refine zy_c (mc := zm_m275) (mr := zm_m285) rfl rfl (zh_v rfl ((K 55 (by decide) (by decide)).trans (zp_o F 10 rfl)) rfl) rfl rfl (zm_Y.mono ((zn_33 F K KL KS (xs 1) (xs 2)).deep (by decide)) ?_)
  rintro r h2 ⟨⟨w, rfl, hw⟩, KL2, KS2⟩
  have e : v = w := zg_33 hv hw
  subst e
  refine zy_n 1 (mr := zm_m285) (pc' := 1524) (ls' := [(3, .int 0), (2, .ref 55), (1, .ref 0), (0, .retAddr 0)]) (st' := [.int (lg_cmp v v)]) rfl rfl ?_
  refine zy_b (mr := zm_m285) rfl rfl rfl (zi_eq (fun _ => ?_) (fun hc => absurd ((lg_cmp_eq v v).mpr rfl) hc))
  refine zy_n 4 (mr := zm_m285) (pc' := 20) (ls' := [(3, .int 7), (2, .ref 55), (1, .ref 0), (0, .retAddr 0)]) (st' := [.retAddr 0, .int 7]) rfl rfl ?_
  refine zy_h (q := (.int 7 :: [.int 7], _)) (mr := zm_m285) rfl rfl (zh_alenO hO) ?_
  refine zy_n 2 (mr := zm_m285) (pc' := 24) (ls' := [(3, .int 7), (2, .ref 55), (1, .ref 0), (0, .retAddr 0)]) (st' := [.int 0, .int 7]) rfl rfl ?_
  refine zy_b (q := (1983, [])) (mr := zm_m285) rfl rfl rfl ?_
  refine zy_n 1 (mr := zm_m285) (pc' := 1984) (ls' := [(3, .int 7), (2, .ref 55), (1, .ref 0), (0, .retAddr 0)]) (st' := [.int 1]) rfl rfl ?_
  refine zy_r (mr := zm_m285) rfl rfl rfl ?_
  exact ⟨rfl, Nat.le_trans KL2 (by decide), Nat.le_trans KS2 (by decide)⟩
set_option maxHeartbeats 4000000 in
set_option maxRecDepth 20000 in
theorem zz_34 {og : Nat → Option zm_C} {xs : Nat → Int32} {h : zm_H} (hO : og 0 = some (.inl (0, 7, .inl xs))) (F : zp_ck h = true) : zm_Y og 60 285 1529 [(3, .int 0), (2, .ref 55), (1, .ref 0), (0, .retAddr 0)] [] h (fun r h1 => r = some (.int 1) ∧ h1.length ≤ 600000 ∧ zm_szs h1 ≤ 7302249) := by
  refine zy_n 5 (mr := zm_m285) (pc' := 1534) (ls' := [(3, .int 0), (2, .ref 55), (1, .ref 0), (0, .retAddr 0)]) (st' := [.int 1, .retAddr 0, .ref 0]) rfl rfl ?_
  refine zy_h (mr := zm_m285) rfl rfl (zh_ialdO (v := xs 1) hO (by decide) rfl) ?_
  refine zy_n 4 (mr := zm_m285) (pc' := 1539) (ls' := [(3, .int 0), (2, .ref 55), (1, .ref 0), (0, .retAddr 0)]) (st' := [.int 2, .retAddr 0, .int (xs 1), .ref 0]) rfl rfl ?_
  refine zy_h (mr := zm_m285) rfl rfl (zh_ialdO (v := xs 2) hO (by decide) rfl) ?_
  refine zy_n 4 (mr := zm_m285) (pc' := 1544) (ls' := [(3, .int 0), (2, .ref 55), (1, .ref 0), (0, .retAddr 0)]) (st' := [.int 3, .retAddr 0, .int (xs 2), .int (xs 1), .ref 0]) rfl rfl ?_
  refine zy_h (mr := zm_m285) rfl rfl (zh_ialdO (v := xs 3) hO (by decide) rfl) ?_
  refine zy_c (mc := zm_m154) (mr := zm_m285) rfl rfl (zh_v rfl (zp_o F 0 rfl) rfl) rfl rfl (zm_Y.mono ((zx_34 F (xs 1) (xs 2) (xs 3)).deep (by decide)) ?_)
  rintro r h1 ⟨⟨v, rfl, hv⟩, K, KL, KS⟩
  refine zy_n 5 (mr := zm_m285) (pc' := 1553) (ls' := [(3, .int 0), (2, .ref 55), (1, .ref 0), (0, .retAddr 0)]) (st' := [.int 1, .retAddr 0, .ref 55, .int v]) rfl rfl ?_
  refine zy_h (mr := zm_m285) rfl rfl (zh_ialdO (v := xs 1) hO (by decide) rfl) ?_
  refine zy_n 4 (mr := zm_m285) (pc' := 1558) (ls' := [(3, .int 0), (2, .ref 55), (1, .ref 0), (0, .retAddr 0)]) (st' := [.int 2, .retAddr 0, .int (xs 1), .ref 55, .int v]) rfl rfl ?_
  refine zy_h (mr := zm_m285) rfl rfl (zh_ialdO (v := xs 2) hO (by decide) rfl) ?_
  refine zy_n 4 (mr := zm_m285) (pc' := 1563) (ls' := [(3, .int 0), (2, .ref 55), (1, .ref 0), (0, .retAddr 0)]) (st' := [.int 3, .retAddr 0, .int (xs 2), .int (xs 1), .ref 55, .int v]) rfl rfl ?_
  refine zy_h (mr := zm_m285) rfl rfl (zh_ialdO (v := xs 3) hO (by decide) rfl) ?_
  refine zy_c (mc := zm_m276) (mr := zm_m285) rfl rfl (zh_v rfl ((K 55 (by decide) (by decide)).trans (zp_o F 10 rfl)) rfl) rfl rfl (zm_Y.mono ((zn_34 F K KL KS (xs 1) (xs 2) (xs 3)).deep (by decide)) ?_)
  rintro r h2 ⟨⟨w, rfl, hw⟩, KL2, KS2⟩
  have e : v = w := zg_34 hv hw
  subst e
  refine zy_b (mr := zm_m285) rfl rfl rfl (zc_eq (fun _ => ?_) (fun hc => absurd rfl hc))
  refine zy_n 4 (mr := zm_m285) (pc' := 20) (ls' := [(3, .int 7), (2, .ref 55), (1, .ref 0), (0, .retAddr 0)]) (st' := [.retAddr 0, .int 7]) rfl rfl ?_
  refine zy_h (q := (.int 7 :: [.int 7], _)) (mr := zm_m285) rfl rfl (zh_alenO hO) ?_
  refine zy_n 2 (mr := zm_m285) (pc' := 24) (ls' := [(3, .int 7), (2, .ref 55), (1, .ref 0), (0, .retAddr 0)]) (st' := [.int 0, .int 7]) rfl rfl ?_
  refine zy_b (q := (1983, [])) (mr := zm_m285) rfl rfl rfl ?_
  refine zy_n 1 (mr := zm_m285) (pc' := 1984) (ls' := [(3, .int 7), (2, .ref 55), (1, .ref 0), (0, .retAddr 0)]) (st' := [.int 1]) rfl rfl ?_
  refine zy_r (mr := zm_m285) rfl rfl rfl ?_
  exact ⟨rfl, Nat.le_trans KL2 (by decide), Nat.le_trans KS2 (by decide)⟩
set_option maxHeartbeats 4000000 in
set_option maxRecDepth 20000 in
theorem zz_35 {og : Nat → Option zm_C} {xs : Nat → Int32} {h : zm_H} (hO : og 0 = some (.inl (0, 7, .inl xs))) (F : zp_ck h = true) : zm_Y og 60 285 1572 [(3, .int 0), (2, .ref 55), (1, .ref 0), (0, .retAddr 0)] [] h (fun r h1 => r = some (.int 1) ∧ h1.length ≤ 600000 ∧ zm_szs h1 ≤ 7302249) := by
  refine zy_n 5 (mr := zm_m285) (pc' := 1577) (ls' := [(3, .int 0), (2, .ref 55), (1, .ref 0), (0, .retAddr 0)]) (st' := [.int 1, .retAddr 0, .ref 0]) rfl rfl ?_
  refine zy_h (mr := zm_m285) rfl rfl (zh_ialdO (v := xs 1) hO (by decide) rfl) ?_
  refine zy_c (mc := zm_m159) (mr := zm_m285) rfl rfl (zh_v rfl (zp_o F 0 rfl) rfl) rfl rfl (zm_Y.mono ((zx_35 F (xs 1)).deep (by decide)) ?_)
  rintro r h1 ⟨⟨v, rfl, hv⟩, K, KL, KS⟩
  refine zy_n 5 (mr := zm_m285) (pc' := 1586) (ls' := [(3, .int 0), (2, .ref 55), (1, .ref 0), (0, .retAddr 0)]) (st' := [.int 1, .retAddr 0, .ref 55, .int v]) rfl rfl ?_
  refine zy_h (mr := zm_m285) rfl rfl (zh_ialdO (v := xs 1) hO (by decide) rfl) ?_
  refine zy_c (mc := zm_m278) (mr := zm_m285) rfl rfl (zh_v rfl ((K 55 (by decide) (by decide)).trans (zp_o F 10 rfl)) rfl) rfl rfl (zm_Y.mono ((zn_35 F K KL KS (xs 1)).deep (by decide)) ?_)
  rintro r h2 ⟨⟨w, rfl, hw⟩, KL2, KS2⟩
  have e : v = w := zg_35 hv hw
  subst e
  refine zy_b (mr := zm_m285) rfl rfl rfl (zc_eq (fun _ => ?_) (fun hc => absurd rfl hc))
  refine zy_n 4 (mr := zm_m285) (pc' := 20) (ls' := [(3, .int 7), (2, .ref 55), (1, .ref 0), (0, .retAddr 0)]) (st' := [.retAddr 0, .int 7]) rfl rfl ?_
  refine zy_h (q := (.int 7 :: [.int 7], _)) (mr := zm_m285) rfl rfl (zh_alenO hO) ?_
  refine zy_n 2 (mr := zm_m285) (pc' := 24) (ls' := [(3, .int 7), (2, .ref 55), (1, .ref 0), (0, .retAddr 0)]) (st' := [.int 0, .int 7]) rfl rfl ?_
  refine zy_b (q := (1983, [])) (mr := zm_m285) rfl rfl rfl ?_
  refine zy_n 1 (mr := zm_m285) (pc' := 1984) (ls' := [(3, .int 7), (2, .ref 55), (1, .ref 0), (0, .retAddr 0)]) (st' := [.int 1]) rfl rfl ?_
  refine zy_r (mr := zm_m285) rfl rfl rfl ?_
  exact ⟨rfl, Nat.le_trans KL2 (by decide), Nat.le_trans KS2 (by decide)⟩
