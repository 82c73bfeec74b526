set_option maxHeartbeats 4000000 in
set_option maxRecDepth 20000 in
theorem zx_34 {og : Nat → Option zm_C} {h : zm_H} (F : zp_ck h = true) (a1 : Int32) (a2 : Int32) (a3 : Int32) : zm_Y og 30 154 0 [(0, .ref 0), (1, .int a1), (2, .int a2), (3, .int a3)] [] h (fun r h1 => (∃ v, r = some (.int v) ∧ zf_34 a1 a2 a3 v) ∧ (∀ k : Nat, 55 ≤ k → k < 117 → h1[k]? = h[k]?) ∧ h1.length ≤ 200 ∧ zm_szs h1 ≤ 90000) := by
  refine zy_n 1 (mr := zm_m154) (pc' := 1) (ls' := [(0, .ref 0), (1, .int a1), (2, .int a2), (3, .int a3)]) (st' := [.int a1]) rfl rfl ?_
  refine zy_c (mc := zm_m19) (mr := zm_m154) rfl rfl rfl rfl rfl ?_
  refine zy_n 3 (mr := zm_m19) (pc' := 3) (ls' := [(0, .int a1)]) (st' := [.int 3, .int 0, .int a1]) rfl rfl ?_
  refine zy_c (mc := zm_m10) (mr := zm_m19) rfl rfl rfl rfl rfl (zm_Y.mono (zk_within a1 0 3) ?_)
  rintro r h1 ⟨rfl, ⟨rfl, hc1⟩ | ⟨rfl, hc1⟩⟩
  · skip
    refine zy_r (mr := zm_m19) rfl rfl rfl ?_
    refine zy_b (q := (7, [])) (mr := zm_m154) rfl rfl rfl ?_
    refine zy_n 1 (mr := zm_m154) (pc' := 8) (ls' := [(0, .ref 0), (1, .int a1), (2, .int a2), (3, .int a3)]) (st' := [.int a2]) rfl rfl ?_
    refine zy_c (mc := zm_m19) (mr := zm_m154) rfl rfl rfl rfl rfl ?_
    refine zy_n 3 (mr := zm_m19) (pc' := 3) (ls' := [(0, .int a2)]) (st' := [.int 3, .int 0, .int a2]) rfl rfl ?_
    refine zy_c (mc := zm_m10) (mr := zm_m19) rfl rfl rfl rfl rfl (zm_Y.mono (zk_within a2 0 3) ?_)
    rintro r h1 ⟨rfl, ⟨rfl, hc2⟩ | ⟨rfl, hc2⟩⟩
    · skip
      refine zy_r (mr := zm_m19) rfl rfl rfl ?_
      refine zy_b (q := (14, [])) (mr := zm_m154) rfl rfl rfl ?_
      refine zy_n 3 (mr := zm_m154) (pc' := 19) (ls' := [(0, .ref 0), (1, .int a1), (2, .int a2), (3, .int a3)]) (st' := [.int 1000, .int 0, .int a3]) rfl rfl ?_
      refine zy_c (mc := zm_m10) (mr := zm_m154) rfl rfl rfl rfl rfl (zm_Y.mono (zk_within a3 0 1000) ?_)
      rintro r h1 ⟨rfl, ⟨rfl, hc3⟩ | ⟨rfl, hc3⟩⟩
      · skip
        refine zy_b (q := (28, [])) (mr := zm_m154) rfl rfl rfl ?_
        refine zy_n 1 (mr := zm_m154) (pc' := 29) (ls' := [(0, .ref 0), (1, .int a1), (2, .int a2), (3, .int a3)]) (st' := [.ref 0]) rfl rfl ?_
        refine zy_h (mr := zm_m154) rfl rfl (zh_get (v := .ref 45) (zp_o F 0 rfl) rfl) ?_
        refine zy_n 1 (mr := zm_m154) (pc' := 33) (ls' := [(0, .ref 0), (1, .int a1), (2, .int a2), (3, .int a3)]) (st' := [.int a1, .ref 45]) rfl rfl ?_
        refine zy_c (mc := zm_m20) (mr := zm_m154) rfl rfl (zh_v rfl (zp_o F 9 rfl) rfl) rfl rfl ?_
        refine zy_n 1 (mr := zm_m20) (pc' := 1) (ls' := [(0, .ref 45), (1, .int a1)]) (st' := [.ref 45]) rfl rfl ?_
        refine zy_h (mr := zm_m20) rfl rfl (zh_get (v := .ref 51) (zp_o F 9 rfl) rfl) ?_
        refine zy_n 1 (mr := zm_m20) (pc' := 5) (ls' := [(0, .ref 45), (1, .int a1)]) (st' := [.int a1, .ref 51]) rfl rfl ?_
        refine zy_h (mr := zm_m20) rfl rfl (zh_iald (v := (-1)) (zp_i F 30 rfl) (zl_in hc1 (by decide) (by decide)) (zp_iall F 30 rfl (v := (-1)) (by decide) (by decide) (zl_lt hc1 (by decide) (by decide)))) ?_
        refine zy_n 1 (mr := zm_m20) (pc' := 7) (ls' := [(0, .ref 45), (1, .int a1)]) (st' := [.int (-1), .int (-1)]) rfl rfl ?_
        refine zy_b (q := (14, [])) (mr := zm_m20) rfl rfl rfl ?_
        refine zy_n 1 (mr := zm_m20) (pc' := 15) (ls' := [(0, .ref 45), (1, .int a1)]) (st' := [.int 0]) rfl rfl ?_
        refine zy_r (mr := zm_m20) rfl rfl rfl ?_
        refine zy_b (q := (50, [])) (mr := zm_m154) rfl rfl rfl ?_
        refine zy_n 1 (mr := zm_m154) (pc' := 52) (ls' := [(0, .ref 0), (1, .int a1), (2, .int a2), (3, .int a3)]) (st' := [.int (-5)]) rfl rfl ?_
        refine zy_r (mr := zm_m154) rfl rfl rfl ?_
        refine ⟨⟨_, rfl, ?_⟩, fun k hk1 hk2 => rfl, Nat.le_trans (Nat.le_of_eq (zp_len F).1) (by decide), Nat.le_trans (Nat.le_of_eq (zp_len F).2) (by decide)⟩
        simp [zf_34, hc1, hc2, hc3]
      · skip
        refine zy_b (q := (25, [])) (mr := zm_m154) rfl rfl rfl ?_
        refine zy_n 1 (mr := zm_m154) (pc' := 27) (ls' := [(0, .ref 0), (1, .int a1), (2, .int a2), (3, .int a3)]) (st' := [.int (-2)]) rfl rfl ?_
        refine zy_r (mr := zm_m154) rfl rfl rfl ?_
        refine ⟨⟨_, rfl, ?_⟩, fun k hk1 hk2 => rfl, Nat.le_trans (Nat.le_of_eq (zp_len F).1) (by decide), Nat.le_trans (Nat.le_of_eq (zp_len F).2) (by decide)⟩
        simp [zf_34, hc1, hc2, hc3]
    · skip
      refine zy_r (mr := zm_m19) rfl rfl rfl ?_
      refine zy_b (q := (25, [])) (mr := zm_m154) rfl rfl rfl ?_
      refine zy_n 1 (mr := zm_m154) (pc' := 27) (ls' := [(0, .ref 0), (1, .int a1), (2, .int a2), (3, .int a3)]) (st' := [.int (-2)]) rfl rfl ?_
      refine zy_r (mr := zm_m154) rfl rfl rfl ?_
      refine ⟨⟨_, rfl, ?_⟩, fun k hk1 hk2 => rfl, Nat.le_trans (Nat.le_of_eq (zp_len F).1) (by decide), Nat.le_trans (Nat.le_of_eq (zp_len F).2) (by decide)⟩
      simp [zf_34, hc1, hc2]
  · skip
    as_aux_lemma =>
      refine zy_r (mr := zm_m19) rfl rfl rfl ?_
      refine zy_b (q := (25, [])) (mr := zm_m154) rfl rfl rfl ?_
      refine zy_n 1 (mr := zm_m154) (pc' := 27) (ls' := [(0, .ref 0), (1, .int a1), (2, .int a2), (3, .int a3)]) (st' := [.int (-2)]) rfl rfl ?_
      refine zy_r (mr := zm_m154) rfl rfl rfl ?_
      refine ⟨⟨_, rfl, ?_⟩, fun k hk1 hk2 => rfl, Nat.le_trans (Nat.le_of_eq (zp_len F).1) (by decide), Nat.le_trans (Nat.le_of_eq (zp_len F).2) (by decide)⟩
      simp [zf_34, hc1]
set_option maxHeartbeats 4000000 in
set_option maxRecDepth 20000 in
theorem zx_35 {og : Nat → Option zm_C} {h : zm_H} (F : zp_ck h = true) (a1 : Int32) : zm_Y og 30 159 0 [(0, .ref 0), (1, .int a1)] [] h (fun r h1 => (∃ v, r = some (.int v) ∧ zf_35 a1 v) ∧ (∀ k : Nat, 55 ≤ k → k < 117 → h1[k]? = h[k]?) ∧ h1.length ≤ 200 ∧ zm_szs h1 ≤ 90000) := by
  refine zy_n 3 (mr := zm_m159) (pc' := 3) (ls' := [(0, .ref 0), (1, .int a1)]) (st' := [.ref 0, .int 0, .int a1]) rfl rfl ?_
  refine zy_h (mr := zm_m159) rfl rfl (zh_get (v := .ref 45) (zp_o F 0 rfl) rfl) ?_
  refine zy_h (mr := zm_m159) rfl rfl (zh_get (v := .int 0) (zp_o F 9 rfl) rfl) ?_
  refine zy_n 2 (mr := zm_m159) (pc' := 11) (ls' := [(0, .ref 0), (1, .int a1)]) (st' := [.int (-1), .int 0, .int a1]) rfl rfl ?_
  refine zy_c (mc := zm_m10) (mr := zm_m159) rfl rfl rfl rfl rfl (zm_Y.mono (zk_within a1 0 (-1)) ?_)
  rintro r h1 ⟨rfl, ⟨rfl, hc1⟩ | ⟨rfl, hc1⟩⟩
  · exact absurd hc1 (zl_emp (by decide))
  refine zy_b (q := (29, [])) (mr := zm_m159) rfl rfl rfl ?_
  refine zy_n 1 (mr := zm_m159) (pc' := 30) (ls' := [(0, .ref 0), (1, .int a1)]) (st' := [.int (-1)]) rfl rfl ?_
  refine zy_r (mr := zm_m159) rfl rfl rfl ?_
  refine ⟨⟨_, rfl, ?_⟩, fun k hk1 hk2 => rfl, Nat.le_trans (Nat.le_of_eq (zp_len F).1) (by decide), Nat.le_trans (Nat.le_of_eq (zp_len F).2) (by decide)⟩
  simp [zf_35]
set_option maxHeartbeats 4000000 in
set_option maxRecDepth 20000 in
theorem zx_36 {og : Nat → Option zm_C} {h : zm_H} (F : zp_ck h = true) (a1 : Int32) (a2 : Int32) : zm_Y og 30 160 0 [(0, .ref 0), (1, .int a1), (2, .int a2)] [] h (fun r h1 => (∃ v, r = some (.long v) ∧ zf_36 a1 a2 v) ∧ (∀ k : Nat, 55 ≤ k → k < 117 → h1[k]? = h[k]?) ∧ h1.length ≤ 200 ∧ zm_szs h1 ≤ 90000) := by
  refine zy_n 3 (mr := zm_m160) (pc' := 4) (ls' := [(0, .ref 0), (1, .int a1), (2, .int a2)]) (st' := [.int 10, .int 1, .int a1]) rfl rfl ?_
  refine zy_c (mc := zm_m10) (mr := zm_m160) rfl rfl rfl rfl rfl (zm_Y.mono (zk_within a1 1 10) ?_)
  rintro r h1 ⟨rfl, ⟨rfl, hc1⟩ | ⟨rfl, hc1⟩⟩
  · skip
    refine zy_b (q := (10, [])) (mr := zm_m160) rfl rfl rfl ?_
    refine zy_n 3 (mr := zm_m160) (pc' := 13) (ls' := [(0, .ref 0), (1, .int a1), (2, .int a2)]) (st' := [.int 4, .int 0, .int a2]) rfl rfl ?_
    refine zy_c (mc := zm_m10) (mr := zm_m160) rfl rfl rfl rfl rfl (zm_Y.mono (zk_within a2 0 4) ?_)
    rintro r h1 ⟨rfl, ⟨rfl, hc2⟩ | ⟨rfl, hc2⟩⟩
    · skip
      refine zy_b (q := (23, [])) (mr := zm_m160) rfl rfl rfl ?_
      refine zy_n 2 (mr := zm_m160) (pc' := 25) (ls' := [(0, .ref 0), (1, .int a1), (2, .int a2)]) (st' := [.ref 0, .ref 0]) rfl rfl ?_
      refine zy_h (mr := zm_m160) rfl rfl (zh_get (v := .ref 2) (zp_o F 0 rfl) rfl) ?_
      refine zy_n 1 (mr := zm_m160) (pc' := 29) (ls' := [(0, .ref 0), (1, .int a1), (2, .int a2)]) (st' := [.ref 0, .ref 2, .ref 0]) rfl rfl ?_
      refine zy_h (mr := zm_m160) rfl rfl (zh_get (v := .ref 7) (zp_o F 0 rfl) rfl) ?_
      refine zy_h (mr := zm_m160) rfl rfl (zh_get (v := .ref 9) (zp_o F 2 rfl) rfl) ?_
      refine zy_c (mc := zm_m38) (mr := zm_m160) rfl rfl (zh_v rfl (zp_o F 1 rfl) rfl) rfl rfl ?_
      refine zy_n 3 (mr := zm_m38) (pc' := 3) (ls' := [(0, .ref 2), (1, .ref 9)]) (st' := [.int 0, .ref 9, .ref 2]) rfl rfl ?_
      refine zy_c (mc := zm_m39) (mr := zm_m38) rfl rfl (zh_v rfl (zp_o F 1 rfl) rfl) rfl rfl ?_
      refine zy_n 2 (mr := zm_m39) (pc' := 2) (ls' := [(0, .ref 2), (1, .ref 9), (2, .int 0)]) (st' := [.ref 9, .ref 2]) rfl rfl ?_
      refine zy_hS (x := .inr (7, [.ref 3, .int 0, .ref 4, .ref 5, .ref 6, .int 0, .int 0, .ref 9, .int 0, .int (-1)])) (mr := zm_m39) rfl rfl (zh_put (zp_o F 1 rfl) rfl rfl) (fun he3 e3 => ?_)
      refine zy_n 1 (mr := zm_m39) (pc' := 6) (ls' := [(0, .ref 2), (1, .ref 9), (2, .int 0)]) (st' := [.ref 2]) rfl rfl ?_
      refine zy_h (mr := zm_m39) rfl rfl (zh_get (v := .ref 9) (zs_eqE e3 (zp_o F 1 rfl)) rfl) ?_
      refine zy_c (mc := zm_m40) (mr := zm_m39) rfl rfl (zh_v rfl (zs_neE e3 (zp_o F 3 rfl) (by decide)) rfl) rfl rfl ?_
      refine zy_n 2 (mr := zm_m40) (pc' := 2) (ls' := [(0, .ref 9)]) (st' := [.int 0, .ref 9]) rfl rfl ?_
      refine zy_hS (x := .inr (9, [.ref 10, .int 0, .ref 11, .ref 12, .ref 13, .ref 14, .ref 15, .int 0, .int 0, .null])) (mr := zm_m40) rfl rfl (zh_put (zs_neE e3 (zp_o F 3 rfl) (by decide)) rfl rfl) (fun he4 e4 => ?_)
      refine zy_n 2 (mr := zm_m40) (pc' := 7) (ls' := [(0, .ref 9)]) (st' := [.int 0, .ref 9]) rfl rfl ?_
      refine zy_hS (x := .inr (9, [.ref 10, .int 0, .ref 11, .ref 12, .ref 13, .ref 14, .ref 15, .int 0, .int 0, .null])) (mr := zm_m40) rfl rfl (zh_put (zs_eqE e4 (zs_neE e3 (zp_o F 3 rfl) (by decide))) rfl rfl) (fun he5 e5 => ?_)
      refine zy_n 2 (mr := zm_m40) (pc' := 12) (ls' := [(0, .ref 9)]) (st' := [.null, .ref 9]) rfl rfl ?_
      refine zy_hS (x := .inr (9, [.ref 10, .int 0, .ref 11, .ref 12, .ref 13, .ref 14, .ref 15, .int 0, .int 0, .null])) (mr := zm_m40) rfl rfl (zh_put (zs_eqE e5 (zs_eqE e4 (zs_neE e3 (zp_o F 3 rfl) (by decide)))) rfl rfl) (fun he6 e6 => ?_)
      refine zy_r (mr := zm_m40) rfl rfl rfl ?_
      refine zy_n 2 (mr := zm_m39) (pc' := 14) (ls' := [(0, .ref 2), (1, .ref 9), (2, .int 0)]) (st' := [.int 0, .ref 2]) rfl rfl ?_
      have k7 := (zs_neE e6 (zs_neE e5 (zs_neE e4 (zs_eqE e3 (zp_o F 1 rfl)) (by decide)) (by decide)) (by decide))
      refine zy_hS (x := .inr (7, [.ref 3, .int 0, .ref 4, .ref 5, .ref 6, .int 0, .int 0, .ref 9, .int 0, .int (-1)])) (mr := zm_m39) rfl rfl (zh_put k7 rfl (by decide)) (fun he8 e8 => ?_)
      refine zy_n 2 (mr := zm_m39) (pc' := 19) (ls' := [(0, .ref 2), (1, .ref 9), (2, .int 0)]) (st' := [.int (-1), .ref 2]) rfl rfl ?_
      have k9 := (zs_eqE e8 (zs_neE e6 (zs_neE e5 (zs_neE e4 (zs_eqE e3 (zp_o F 1 rfl)) (by decide)) (by decide)) (by decide)))
      refine zy_hS (x := .inr (7, [.ref 3, .int 0, .ref 4, .ref 5, .ref 6, .int 0, .int 0, .ref 9, .int 0, .int (-1)])) (mr := zm_m39) rfl rfl (zh_put k9 rfl rfl) (fun he10 e10 => ?_)
      refine zy_n 2 (mr := zm_m39) (pc' := 24) (ls' := [(0, .ref 2), (1, .ref 9), (2, .int 0)]) (st' := [.int 0, .ref 2]) rfl rfl ?_
      have k11 := (zs_eqE e10 (zs_eqE e8 (zs_neE e6 (zs_neE e5 (zs_neE e4 (zs_eqE e3 (zp_o F 1 rfl)) (by decide)) (by decide)) (by decide))))
      refine zy_hS (x := .inr (7, [.ref 3, .int 0, .ref 4, .ref 5, .ref 6, .int 0, .int 0, .ref 9, .int 0, .int (-1)])) (mr := zm_m39) rfl rfl (zh_put k11 rfl rfl) (fun he12 e12 => ?_)
      refine zy_n 2 (mr := zm_m39) (pc' := 29) (ls' := [(0, .ref 2), (1, .ref 9), (2, .int 0)]) (st' := [.int 0, .ref 2]) rfl rfl ?_
      have k13 := (zs_eqE e12 (zs_eqE e10 (zs_eqE e8 (zs_neE e6 (zs_neE e5 (zs_neE e4 (zs_eqE e3 (zp_o F 1 rfl)) (by decide)) (by decide)) (by decide)))))
      refine zy_hS (x := .inr (7, [.ref 3, .int 0, .ref 4, .ref 5, .ref 6, .int 0, .int 0, .ref 9, .int 0, .int (-1)])) (mr := zm_m39) rfl rfl (zh_put k13 rfl rfl) (fun he14 e14 => ?_)
      refine zy_n 6 (mr := zm_m39) (pc' := 42) (ls' := [(4, .int 0), (3, .int 0), (0, .ref 2), (1, .ref 9), (2, .int 0)]) (st' := [.int 300, .int 0]) rfl rfl ?_
      refine zy_b (q := (45, [])) (mr := zm_m39) rfl rfl rfl ?_
      refine zy_n 2 (mr := zm_m39) (pc' := 47) (ls' := [(4, .int 0), (3, .int 0), (0, .ref 2), (1, .ref 9), (2, .int 0)]) (st' := [.ref 2, .int 0]) rfl rfl ?_
      have k15 := (zs_eqE e14 (zs_eqE e12 (zs_eqE e10 (zs_eqE e8 (zs_neE e6 (zs_neE e5 (zs_neE e4 (zs_eqE e3 (zp_o F 1 rfl)) (by decide)) (by decide)) (by decide))))))
      refine zy_h (mr := zm_m39) rfl rfl (zh_get (v := .int 0) k15 rfl) ?_
      refine zy_b (q := (65, [])) (mr := zm_m39) rfl rfl rfl ?_
      refine zy_n 3 (mr := zm_m39) (pc' := 68) (ls' := [(4, .int 0), (3, .int 0), (0, .ref 2), (1, .ref 9), (2, .int 0)]) (st' := [.ref 2, .int 0, .ref 2]) rfl rfl ?_
      refine zy_h (mr := zm_m39) rfl rfl (zh_get (v := .int 0) k15 rfl) ?_
      refine zy_n 1 (mr := zm_m39) (pc' := 72) (ls' := [(4, .int 0), (3, .int 0), (0, .ref 2), (1, .ref 9), (2, .int 0)]) (st' := [.int 0, .int 0, .int 0, .ref 2]) rfl rfl ?_
      as_aux_lemma =>
        refine zy_c (mc := zm_m45) (mr := zm_m39) rfl rfl (zh_v rfl k15 rfl) rfl rfl ?_
        refine zy_n 1 (mr := zm_m45) (pc' := 1) (ls' := [(0, .ref 2), (1, .int 0), (2, .int 0), (3, .int 0)]) (st' := [.ref 2]) rfl rfl ?_
        refine zy_h (mr := zm_m45) rfl rfl (zh_get (v := .int 0) k15 rfl) ?_
        refine zy_n 1 (mr := zm_m45) (pc' := 5) (ls' := [(0, .ref 2), (1, .int 0), (2, .int 0), (3, .int 0)]) (st' := [.ref 2, .int 0]) rfl rfl ?_
        refine zy_h (mr := zm_m45) rfl rfl (zh_get (v := .ref 4) k15 rfl) ?_
        have k16 := (zs_neE e14 (zs_neE e12 (zs_neE e10 (zs_neE e8 (zs_neE e6 (zs_neE e5 (zs_neE e4 (zs_neE e3 (zp_i F 1 rfl) (by decide)) (by decide)) (by decide)) (by decide)) (by decide)) (by decide)) (by decide)) (by decide))
        refine zy_h (q := (.int 301 :: [.int 0], _)) (mr := zm_m45) rfl rfl (zh_alen k16) ?_
        refine zy_b (q := (12, [])) (mr := zm_m45) rfl rfl rfl ?_
        refine zy_n 1 (mr := zm_m45) (pc' := 13) (ls' := [(0, .ref 2), (1, .int 0), (2, .int 0), (3, .int 0)]) (st' := [.ref 2]) rfl rfl ?_
        refine zy_h (mr := zm_m45) rfl rfl (zh_get (v := .ref 4) k15 rfl) ?_
        refine zy_n 1 (mr := zm_m45) (pc' := 17) (ls' := [(0, .ref 2), (1, .int 0), (2, .int 0), (3, .int 0)]) (st' := [.ref 2, .ref 4]) rfl rfl ?_
        refine zy_h (mr := zm_m45) rfl rfl (zh_get (v := .int 0) k15 rfl) ?_
        refine zy_n 1 (mr := zm_m45) (pc' := 21) (ls' := [(0, .ref 2), (1, .int 0), (2, .int 0), (3, .int 0)]) (st' := [.int 0, .int 0, .ref 4]) rfl rfl ?_
        refine zy_hS (x := _) (mr := zm_m45) rfl rfl (zh_iast k16 (by decide)) (fun he17 e17 => ?_)
        refine zy_n 1 (mr := zm_m45) (pc' := 23) (ls' := [(0, .ref 2), (1, .int 0), (2, .int 0), (3, .int 0)]) (st' := [.ref 2]) rfl rfl ?_
        refine zy_h (mr := zm_m45) rfl rfl (zh_get (v := .ref 5) (zs_neE e17 k15 (by decide)) rfl) ?_
        refine zy_n 1 (mr := zm_m45) (pc' := 27) (ls' := [(0, .ref 2), (1, .int 0), (2, .int 0), (3, .int 0)]) (st' := [.ref 2, .ref 5]) rfl rfl ?_
        refine zy_h (mr := zm_m45) rfl rfl (zh_get (v := .int 0) (zs_neE e17 k15 (by decide)) rfl) ?_
        refine zy_n 1 (mr := zm_m45) (pc' := 31) (ls' := [(0, .ref 2), (1, .int 0), (2, .int 0), (3, .int 0)]) (st' := [.int 0, .int 0, .ref 5]) rfl rfl ?_
        have k18 := (zs_neE e17 (zs_neE e14 (zs_neE e12 (zs_neE e10 (zs_neE e8 (zs_neE e6 (zs_neE e5 (zs_neE e4 (zs_neE e3 (zp_i F 2 rfl) (by decide)) (by decide)) (by decide)) (by decide)) (by decide)) (by decide)) (by decide)) (by decide)) (by decide))
        refine zy_hS (x := _) (mr := zm_m45) rfl rfl (zh_iast k18 (by decide)) (fun he19 e19 => ?_)
        refine zy_n 1 (mr := zm_m45) (pc' := 33) (ls' := [(0, .ref 2), (1, .int 0), (2, .int 0), (3, .int 0)]) (st' := [.ref 2]) rfl rfl ?_
        refine zy_h (mr := zm_m45) rfl rfl (zh_get (v := .ref 6) (zs_neE e19 (zs_neE e17 k15 (by decide)) (by decide)) rfl) ?_
        refine zy_n 1 (mr := zm_m45) (pc' := 37) (ls' := [(0, .ref 2), (1, .int 0), (2, .int 0), (3, .int 0)]) (st' := [.ref 2, .ref 6]) rfl rfl ?_
        refine zy_h (mr := zm_m45) rfl rfl (zh_get (v := .int 0) (zs_neE e19 (zs_neE e17 k15 (by decide)) (by decide)) rfl) ?_
        refine zy_n 1 (mr := zm_m45) (pc' := 41) (ls' := [(0, .ref 2), (1, .int 0), (2, .int 0), (3, .int 0)]) (st' := [.int 0, .int 0, .ref 6]) rfl rfl ?_
        have k20 := (zs_neE e19 (zs_neE e17 (zs_neE e14 (zs_neE e12 (zs_neE e10 (zs_neE e8 (zs_neE e6 (zs_neE e5 (zs_neE e4 (zs_neE e3 (zp_i F 3 rfl) (by decide)) (by decide)) (by decide)) (by decide)) (by decide)) (by decide)) (by decide)) (by decide)) (by decide)) (by decide))
        refine zy_hS (x := _) (mr := zm_m45) rfl rfl (zh_iast k20 (by decide)) (fun he21 e21 => ?_)
        refine zy_n 2 (mr := zm_m45) (pc' := 44) (ls' := [(0, .ref 2), (1, .int 0), (2, .int 0), (3, .int 0)]) (st' := [.ref 2, .ref 2]) rfl rfl ?_
        refine zy_h (mr := zm_m45) rfl rfl (zh_get (v := .int 0) (zs_neE e21 (zs_neE e19 (zs_neE e17 k15 (by decide)) (by decide)) (by decide)) rfl) ?_
        refine zy_n 2 (mr := zm_m45) (pc' := 49) (ls' := [(0, .ref 2), (1, .int 0), (2, .int 0), (3, .int 0)]) (st' := [.int 1, .ref 2]) rfl rfl ?_
        refine zy_hS (x := .inr (7, [.ref 3, .int 0, .ref 4, .ref 5, .ref 6, .int 1, .int 0, .ref 9, .int 0, .int (-1)])) (mr := zm_m45) rfl rfl (zh_put (zs_neE e21 (zs_neE e19 (zs_neE e17 k15 (by decide)) (by decide)) (by decide)) rfl rfl) (fun he22 e22 => ?_)
        refine zy_r (mr := zm_m45) rfl rfl rfl ?_
        refine zy_r (mr := zm_m39) rfl rfl rfl ?_
        refine zy_n 2 (mr := zm_m38) (pc' := 8) (ls' := [(0, .ref 2), (1, .ref 9)]) (st' := [.int 0, .ref 2]) rfl rfl ?_
        have k23 := (zs_eqE e22 (zs_neE e21 (zs_neE e19 (zs_neE e17 k15 (by decide)) (by decide)) (by decide)))
        refine zy_c (mc := zm_m49) (mr := zm_m38) rfl rfl (zh_v rfl k23 rfl) rfl rfl ?_
        refine zy_n 1 (mr := zm_m49) (pc' := 1) (ls' := [(0, .ref 2), (1, .int 0)]) (st' := [.ref 2]) rfl rfl ?_
        refine zy_h (mr := zm_m49) rfl rfl (zh_get (v := .int (-1)) k23 rfl) ?_
        refine zy_n 1 (mr := zm_m49) (pc' := 5) (ls' := [(0, .ref 2), (1, .int 0)]) (st' := [.int (-1), .int (-1)]) rfl rfl ?_
        refine zy_b (q := (8, [])) (mr := zm_m49) rfl rfl rfl ?_
        refine zy_n 1 (mr := zm_m49) (pc' := 9) (ls' := [(0, .ref 2), (1, .int 0)]) (st' := [.ref 2]) rfl rfl ?_
        refine zy_h (mr := zm_m49) rfl rfl (zh_get (v := .ref 4) k23 rfl) ?_
        refine zy_n 1 (mr := zm_m49) (pc' := 13) (ls' := [(0, .ref 2), (1, .int 0)]) (st' := [.ref 2, .ref 4]) rfl rfl ?_
        refine zy_h (mr := zm_m49) rfl rfl (zh_get (v := .int 0) k23 rfl) ?_
        have k24 := (zs_neE e22 (zs_neE e21 (zs_neE e19 (zs_eqE e17 k16) (by decide)) (by decide)) (by decide))
        refine zy_h (mr := zm_m49) rfl rfl (zh_iald (v := 0) k24 (by decide) rfl) ?_
        refine zy_n 1 (mr := zm_m49) (pc' := 18) (ls' := [(0, .ref 2), (1, .int 0)]) (st' := [.int 0, .int 0]) rfl rfl ?_
        refine zy_b (q := (21, [])) (mr := zm_m49) rfl rfl rfl ?_
        refine zy_n 2 (mr := zm_m49) (pc' := 26) (ls' := [(0, .ref 2), (1, .int 0)]) (st' := [.int 1]) rfl rfl ?_
        refine zy_r (mr := zm_m49) rfl rfl rfl ?_
        as_aux_lemma =>
          refine zy_b (q := (18, [])) (mr := zm_m38) rfl rfl rfl ?_
          refine zy_n 4 (mr := zm_m38) (pc' := 24) (ls' := [(2, .int 0), (0, .ref 2), (1, .ref 9)]) (st' := [.int 300, .int 0]) rfl rfl ?_
          refine zy_b (q := (27, [])) (mr := zm_m38) rfl rfl rfl ?_
          refine zy_n 2 (mr := zm_m38) (pc' := 30) (ls' := [(2, .int 0), (0, .ref 2), (1, .ref 9)]) (st' := [.int 59, .ref 2]) rfl rfl ?_
          refine zy_c (mc := zm_m61) (mr := zm_m38) rfl rfl (zh_v rfl k23 rfl) rfl rfl ?_
          refine zy_n 1 (mr := zm_m61) (pc' := 1) (ls' := [(0, .ref 2), (1, .int 59)]) (st' := [.int 59]) rfl rfl ?_
          refine zy_b (q := (4, [])) (mr := zm_m61) rfl rfl rfl ?_
          refine zy_n 2 (mr := zm_m61) (pc' := 6) (ls' := [(0, .ref 2), (1, .int 59)]) (st' := [.int 59, .ref 2]) rfl rfl ?_
          refine zy_c (mc := zm_m49) (mr := zm_m61) rfl rfl (zh_v rfl k23 rfl) rfl rfl ?_
          refine zy_n 1 (mr := zm_m49) (pc' := 1) (ls' := [(0, .ref 2), (1, .int 59)]) (st' := [.ref 2]) rfl rfl ?_
          refine zy_h (mr := zm_m49) rfl rfl (zh_get (v := .int (-1)) k23 rfl) ?_
          refine zy_n 1 (mr := zm_m49) (pc' := 5) (ls' := [(0, .ref 2), (1, .int 59)]) (st' := [.int (-1), .int (-1)]) rfl rfl ?_
          refine zy_b (q := (8, [])) (mr := zm_m49) rfl rfl rfl ?_
          refine zy_n 1 (mr := zm_m49) (pc' := 9) (ls' := [(0, .ref 2), (1, .int 59)]) (st' := [.ref 2]) rfl rfl ?_
          refine zy_h (mr := zm_m49) rfl rfl (zh_get (v := .ref 4) k23 rfl) ?_
          refine zy_n 1 (mr := zm_m49) (pc' := 13) (ls' := [(0, .ref 2), (1, .int 59)]) (st' := [.ref 2, .ref 4]) rfl rfl ?_
          refine zy_h (mr := zm_m49) rfl rfl (zh_get (v := .int 0) k23 rfl) ?_
          refine zy_h (mr := zm_m49) rfl rfl (zh_iald (v := 0) k24 (by decide) rfl) ?_
          refine zy_n 1 (mr := zm_m49) (pc' := 18) (ls' := [(0, .ref 2), (1, .int 59)]) (st' := [.int 59, .int 0]) rfl rfl ?_
          refine zy_b (q := (25, [])) (mr := zm_m49) rfl rfl rfl ?_
          refine zy_n 1 (mr := zm_m49) (pc' := 26) (ls' := [(0, .ref 2), (1, .int 59)]) (st' := [.int 0]) rfl rfl ?_
          refine zy_r (mr := zm_m49) rfl rfl rfl ?_
          refine zy_b (q := (12, [])) (mr := zm_m61) rfl rfl rfl ?_
          refine zy_n 1 (mr := zm_m61) (pc' := 13) (ls' := [(0, .ref 2), (1, .int 59)]) (st' := [.int 0]) rfl rfl ?_
          refine zy_r (mr := zm_m61) rfl rfl rfl ?_
          refine zy_b (q := (46, [])) (mr := zm_m38) rfl rfl rfl ?_
          refine zy_n 1 (mr := zm_m38) (pc' := 47) (ls' := [(2, .int 0), (0, .ref 2), (1, .ref 9)]) (st' := [.ref 2]) rfl rfl ?_
          refine zy_c (mc := zm_m71) (mr := zm_m38) rfl rfl (zh_v rfl k23 rfl) rfl rfl ?_
          refine zy_n 2 (mr := zm_m71) (pc' := 2) (ls' := [(0, .ref 2)]) (st' := [.int 0, .ref 2]) rfl rfl ?_
          refine zy_c (mc := zm_m49) (mr := zm_m71) rfl rfl (zh_v rfl k23 rfl) rfl rfl ?_
          refine zy_n 1 (mr := zm_m49) (pc' := 1) (ls' := [(0, .ref 2), (1, .int 0)]) (st' := [.ref 2]) rfl rfl ?_
          refine zy_h (mr := zm_m49) rfl rfl (zh_get (v := .int (-1)) k23 rfl) ?_
          refine zy_n 1 (mr := zm_m49) (pc' := 5) (ls' := [(0, .ref 2), (1, .int 0)]) (st' := [.int (-1), .int (-1)]) rfl rfl ?_
          refine zy_b (q := (8, [])) (mr := zm_m49) rfl rfl rfl ?_
          refine zy_n 1 (mr := zm_m49) (pc' := 9) (ls' := [(0, .ref 2), (1, .int 0)]) (st' := [.ref 2]) rfl rfl ?_
          refine zy_h (mr := zm_m49) rfl rfl (zh_get (v := .ref 4) k23 rfl) ?_
          refine zy_n 1 (mr := zm_m49) (pc' := 13) (ls' := [(0, .ref 2), (1, .int 0)]) (st' := [.ref 2, .ref 4]) rfl rfl ?_
          refine zy_h (mr := zm_m49) rfl rfl (zh_get (v := .int 0) k23 rfl) ?_
          refine zy_h (mr := zm_m49) rfl rfl (zh_iald (v := 0) k24 (by decide) rfl) ?_
          refine zy_n 1 (mr := zm_m49) (pc' := 18) (ls' := [(0, .ref 2), (1, .int 0)]) (st' := [.int 0, .int 0]) rfl rfl ?_
          refine zy_b (q := (21, [])) (mr := zm_m49) rfl rfl rfl ?_
          refine zy_n 2 (mr := zm_m49) (pc' := 26) (ls' := [(0, .ref 2), (1, .int 0)]) (st' := [.int 1]) rfl rfl ?_
          refine zy_r (mr := zm_m49) rfl rfl rfl ?_
          refine zy_b (q := (12, [])) (mr := zm_m71) rfl rfl rfl ?_
          refine zy_n 2 (mr := zm_m71) (pc' := 14) (ls' := [(0, .ref 2)]) (st' := [.int 0, .ref 2]) rfl rfl ?_
          refine zy_hS (x := .inr (7, [.ref 3, .int 0, .ref 4, .ref 5, .ref 6, .int 1, .int 0, .ref 9, .int 0, .int (-1)])) (mr := zm_m71) rfl rfl (zh_put k23 rfl rfl) (fun he25 e25 => ?_)
          refine zy_n 1 (mr := zm_m71) (pc' := 18) (ls' := [(0, .ref 2)]) (st' := [.ref 2]) rfl rfl ?_
          refine zy_h (mr := zm_m71) rfl rfl (zh_get (v := .int (-1)) (zs_eqE e25 k23) rfl) ?_
          refine zy_r (mr := zm_m71) rfl rfl rfl ?_
          refine zy_r (mr := zm_m38) rfl rfl rfl ?_
          have k26 := (zs_neE e25 (zs_neE e22 (zs_neE e21 (zs_neE e19 (zs_neE e17 (zs_neE e14 (zs_neE e12 (zs_neE e10 (zs_neE e8 (zs_neE e6 (zs_neE e5 (zs_neE e4 (zs_neE e3 (zp_o F 0 rfl) (by decide)) (by decide)) (by decide)) (by decide)) (by decide)) (by decide)) (by decide)) (by decide)) (by decide)) (by decide)) (by decide)) (by decide)) (by decide))
          refine zy_hS (x := .inr (10, [.ref 1, .int 0, .int 0, .int 0, .int 2, .int (-1), .ref 2, .ref 7, .ref 25, .ref 27, .ref 36, .ref 41, .ref 45, .ref 54, .null, .null])) (mr := zm_m160) rfl rfl (zh_put k26 rfl rfl) (fun he27 e27 => ?_)
          refine zy_n 1 (mr := zm_m160) (pc' := 42) (ls' := [(0, .ref 0), (1, .int a1), (2, .int a2)]) (st' := [.ref 0]) rfl rfl ?_
          as_aux_lemma =>
            have k28 := (zs_eqE e27 (zs_neE e25 (zs_neE e22 (zs_neE e21 (zs_neE e19 (zs_neE e17 (zs_neE e14 (zs_neE e12 (zs_neE e10 (zs_neE e8 (zs_neE e6 (zs_neE e5 (zs_neE e4 (zs_neE e3 (zp_o F 0 rfl) (by decide)) (by decide)) (by decide)) (by decide)) (by decide)) (by decide)) (by decide)) (by decide)) (by decide)) (by decide)) (by decide)) (by decide)) (by decide)))
            refine zy_h (mr := zm_m160) rfl rfl (zh_get (v := .int (-1)) k28 rfl) ?_
            refine zy_n 1 (mr := zm_m160) (pc' := 46) (ls' := [(0, .ref 0), (1, .int a1), (2, .int a2)]) (st' := [.int (-1), .int (-1)]) rfl rfl ?_
            refine zy_b (q := (53, [])) (mr := zm_m160) rfl rfl rfl ?_
            refine zy_n 6 (mr := zm_m160) (pc' := 61) (ls' := [(5, .int 0), (3, .long 0), (0, .ref 0), (1, .int a1), (2, .int a2)]) (st' := [.ref 0, .int 0]) rfl rfl ?_
            refine zy_h (mr := zm_m160) rfl rfl (zh_get (v := .int 0) k28 rfl) ?_
            refine zy_b (q := (168, [])) (mr := zm_m160) rfl rfl rfl ?_
            refine zy_n 1 (mr := zm_m160) (pc' := 169) (ls' := [(5, .int 0), (3, .long 0), (0, .ref 0), (1, .int a1), (2, .int a2)]) (st' := [.long 0]) rfl rfl ?_
            refine zy_r (mr := zm_m160) rfl rfl rfl ?_
            have k29 := (zs_lsetE e27 (zs_lsetE e25 (zs_lsetE e22 (zs_lsetE e21 (zs_lsetE e19 (zs_lsetE e17 (zs_lsetE e14 (zs_lsetE e12 (zs_lsetE e10 (zs_lsetE e8 (zs_lsetE e6 (zs_lsetE e5 (zs_lsetE e4 (zs_lsetE e3 (zp_len F).1))))))))))))))
            refine ⟨⟨_, rfl, ?_⟩, fun k hk1 hk2 => ((zs_kE e27 (by omega)).trans ((zs_kE e25 (by omega)).trans ((zs_kE e22 (by omega)).trans ((zs_kE e21 (by omega)).trans ((zs_kE e19 (by omega)).trans ((zs_kE e17 (by omega)).trans ((zs_kE e14 (by omega)).trans ((zs_kE e12 (by omega)).trans ((zs_kE e10 (by omega)).trans ((zs_kE e8 (by omega)).trans ((zs_kE e6 (by omega)).trans ((zs_kE e5 (by omega)).trans ((zs_kE e4 (by omega)).trans ((zs_kE e3 (by omega)).trans rfl)))))))))))))), Nat.le_trans (Nat.le_of_eq k29) (by decide), Nat.le_trans (Nat.le_of_eq (zs_szsetE (w := 16) e27 (zs_neE e25 (zs_neE e22 (zs_neE e21 (zs_neE e19 (zs_neE e17 (zs_neE e14 (zs_neE e12 (zs_neE e10 (zs_neE e8 (zs_neE e6 (zs_neE e5 (zs_neE e4 (zs_neE e3 (zp_o F 0 rfl) (by decide)) (by decide)) (by decide)) (by decide)) (by decide)) (by decide)) (by decide)) (by decide)) (by decide)) (by decide)) (by decide)) (by decide)) (by decide)) rfl rfl (zs_szsetE (w := 10) e25 k23 rfl rfl (zs_szsetE (w := 10) e22 (zs_neE e21 (zs_neE e19 (zs_neE e17 k15 (by decide)) (by decide)) (by decide)) rfl rfl (zs_szsetE (w := 301) e21 k20 rfl rfl (zs_szsetE (w := 301) e19 k18 rfl rfl (zs_szsetE (w := 301) e17 k16 rfl rfl (zs_szsetE (w := 10) e14 (zs_eqE e12 (zs_eqE e10 (zs_eqE e8 (zs_neE e6 (zs_neE e5 (zs_neE e4 (zs_eqE e3 (zp_o F 1 rfl)) (by decide)) (by decide)) (by decide))))) rfl rfl (zs_szsetE (w := 10) e12 (zs_eqE e10 (zs_eqE e8 (zs_neE e6 (zs_neE e5 (zs_neE e4 (zs_eqE e3 (zp_o F 1 rfl)) (by decide)) (by decide)) (by decide)))) rfl rfl (zs_szsetE (w := 10) e10 (zs_eqE e8 (zs_neE e6 (zs_neE e5 (zs_neE e4 (zs_eqE e3 (zp_o F 1 rfl)) (by decide)) (by decide)) (by decide))) rfl rfl (zs_szsetE (w := 10) e8 (zs_neE e6 (zs_neE e5 (zs_neE e4 (zs_eqE e3 (zp_o F 1 rfl)) (by decide)) (by decide)) (by decide)) rfl rfl (zs_szsetE (w := 10) e6 (zs_eqE e5 (zs_eqE e4 (zs_neE e3 (zp_o F 3 rfl) (by decide)))) rfl rfl (zs_szsetE (w := 10) e5 (zs_eqE e4 (zs_neE e3 (zp_o F 3 rfl) (by decide))) rfl rfl (zs_szsetE (w := 10) e4 (zs_neE e3 (zp_o F 3 rfl) (by decide)) rfl rfl (zs_szsetE (w := 10) e3 (zp_o F 1 rfl) rfl rfl (zp_len F).2))))))))))))))) (by decide)⟩
            simp [zf_36, hc1, hc2]
    · skip
      refine zy_b (q := (19, [])) (mr := zm_m160) rfl rfl rfl ?_
      refine zy_n 1 (mr := zm_m160) (pc' := 22) (ls' := [(0, .ref 0), (1, .int a1), (2, .int a2)]) (st' := [.long (-2)]) rfl rfl ?_
      refine zy_r (mr := zm_m160) rfl rfl rfl ?_
      refine ⟨⟨_, rfl, ?_⟩, fun k hk1 hk2 => rfl, Nat.le_trans (Nat.le_of_eq (zp_len F).1) (by decide), Nat.le_trans (Nat.le_of_eq (zp_len F).2) (by decide)⟩
      simp [zf_36, hc1, hc2]
  · skip
    refine zy_b (q := (19, [])) (mr := zm_m160) rfl rfl rfl ?_
    refine zy_n 1 (mr := zm_m160) (pc' := 22) (ls' := [(0, .ref 0), (1, .int a1), (2, .int a2)]) (st' := [.long (-2)]) rfl rfl ?_
    refine zy_r (mr := zm_m160) rfl rfl rfl ?_
    refine ⟨⟨_, rfl, ?_⟩, fun k hk1 hk2 => rfl, Nat.le_trans (Nat.le_of_eq (zp_len F).1) (by decide), Nat.le_trans (Nat.le_of_eq (zp_len F).2) (by decide)⟩
    simp [zf_36, hc1]
set_option maxHeartbeats 4000000 in
set_option maxRecDepth 20000 in
theorem zx_37 {og : Nat → Option zm_C} {h : zm_H} (F : zp_ck h = true) (a1 : Int32) : zm_Y og 30 163 0 [(0, .ref 0), (1, .int a1)] [] h (fun r h1 => (∃ v, r = some (.int v) ∧ zf_37 a1 v) ∧ (∀ k : Nat, 55 ≤ k → k < 117 → h1[k]? = h[k]?) ∧ h1.length ≤ 200 ∧ zm_szs h1 ≤ 90000) := by
  refine zy_n 1 (mr := zm_m163) (pc' := 1) (ls' := [(0, .ref 0), (1, .int a1)]) (st' := [.int a1]) rfl rfl ?_
  refine zy_b (mr := zm_m163) rfl rfl rfl (zi_ge (fun hc1 => ?_) (fun hc1 => ?_))
  · skip
    refine zy_n 1 (mr := zm_m163) (pc' := 7) (ls' := [(0, .ref 0), (1, .int a1)]) (st' := [.ref 0]) rfl rfl ?_
    refine zy_h (mr := zm_m163) rfl rfl (zh_get (v := .ref 7) (zp_o F 0 rfl) rfl) ?_
    refine zy_n 1 (mr := zm_m163) (pc' := 11) (ls' := [(0, .ref 0), (1, .int a1)]) (st' := [.ref 0, .ref 7]) rfl rfl ?_
    refine zy_h (mr := zm_m163) rfl rfl (zh_get (v := .int 0) (zp_o F 0 rfl) rfl) ?_
    refine zy_c (mc := zm_m75) (mr := zm_m163) rfl rfl (zh_v rfl (zp_o F 2 rfl) rfl) rfl rfl ?_
    refine zy_n 1 (mr := zm_m75) (pc' := 1) (ls' := [(0, .ref 7), (1, .int 0)]) (st' := [.ref 7]) rfl rfl ?_
    refine zy_h (mr := zm_m75) rfl rfl (zh_get (v := .ref 16) (zp_o F 2 rfl) rfl) ?_
    refine zy_n 5 (mr := zm_m75) (pc' := 9) (ls' := [(3, .int 0), (2, .ref 16), (0, .ref 7), (1, .int 0)]) (st' := [.ref 7, .int 0]) rfl rfl ?_
    refine zy_h (mr := zm_m75) rfl rfl (zh_get (v := .int 0) (zp_o F 2 rfl) rfl) ?_
    refine zy_b (q := (61, [])) (mr := zm_m75) rfl rfl rfl ?_
    refine zy_n 1 (mr := zm_m75) (pc' := 62) (ls' := [(3, .int 0), (2, .ref 16), (0, .ref 7), (1, .int 0)]) (st' := [.ref 16]) rfl rfl ?_
    refine zy_r (mr := zm_m75) rfl rfl rfl ?_
    refine zy_n 7 (mr := zm_m163) (pc' := 26) (ls' := [(4, .int 0), (3, .int 0), (2, .ref 16), (0, .ref 0), (1, .int a1)]) (st' := [.ref 0, .int 0]) rfl rfl ?_
    refine zy_h (mr := zm_m163) rfl rfl (zh_get (v := .int 0) (zp_o F 0 rfl) rfl) ?_
    refine zy_b (q := (78, [])) (mr := zm_m163) rfl rfl rfl ?_
    refine zy_n 1 (mr := zm_m163) (pc' := 79) (ls' := [(4, .int 0), (3, .int 0), (2, .ref 16), (0, .ref 0), (1, .int a1)]) (st' := [.int 0]) rfl rfl ?_
    refine zy_r (mr := zm_m163) rfl rfl rfl ?_
    refine ⟨⟨_, rfl, ?_⟩, fun k hk1 hk2 => rfl, Nat.le_trans (Nat.le_of_eq (zp_len F).1) (by decide), Nat.le_trans (Nat.le_of_eq (zp_len F).2) (by decide)⟩
    simp [zf_37, hc1]
  · skip
    refine zy_n 1 (mr := zm_m163) (pc' := 5) (ls' := [(0, .ref 0), (1, .int a1)]) (st' := [.int (-1)]) rfl rfl ?_
    refine zy_r (mr := zm_m163) rfl rfl rfl ?_
    refine ⟨⟨_, rfl, ?_⟩, fun k hk1 hk2 => rfl, Nat.le_trans (Nat.le_of_eq (zp_len F).1) (by decide), Nat.le_trans (Nat.le_of_eq (zp_len F).2) (by decide)⟩
    simp [zf_37, hc1]
set_option maxHeartbeats 4000000 in
set_option maxRecDepth 20000 in
theorem zx_38 {og : Nat → Option zm_C} {h : zm_H} (F : zp_ck h = true) (a1 : Int32) (a2 : Int32) : zm_Y og 30 164 0 [(0, .ref 0), (1, .int a1), (2, .int a2)] [] h (fun r h1 => (∃ v, r = some (.int v) ∧ zf_38 a1 a2 v) ∧ (∀ k : Nat, 55 ≤ k → k < 117 → h1[k]? = h[k]?) ∧ h1.length ≤ 200 ∧ zm_szs h1 ≤ 90000) := by
  refine zy_n 2 (mr := zm_m164) (pc' := 2) (ls' := [(0, .ref 0), (1, .int a1), (2, .int a2)]) (st' := [.int a1, .ref 0]) rfl rfl ?_
  refine zy_c (mc := zm_m18) (mr := zm_m164) rfl rfl (zh_v rfl (zp_o F 0 rfl) rfl) rfl rfl ?_
  refine zy_n 3 (mr := zm_m18) (pc' := 3) (ls' := [(0, .ref 0), (1, .int a1)]) (st' := [.ref 0, .int 0, .int a1]) rfl rfl ?_
  refine zy_h (mr := zm_m18) rfl rfl (zh_get (v := .int 0) (zp_o F 0 rfl) rfl) ?_
  refine zy_n 2 (mr := zm_m18) (pc' := 8) (ls' := [(0, .ref 0), (1, .int a1)]) (st' := [.int (-1), .int 0, .int a1]) rfl rfl ?_
  refine zy_c (mc := zm_m10) (mr := zm_m18) rfl rfl rfl rfl rfl (zm_Y.mono (zk_within a1 0 (-1)) ?_)
  rintro r h1 ⟨rfl, ⟨rfl, hc1⟩ | ⟨rfl, hc1⟩⟩
  · exact absurd hc1 (zl_emp (by decide))
  refine zy_r (mr := zm_m18) rfl rfl rfl ?_
  refine zy_b (q := (8, [])) (mr := zm_m164) rfl rfl rfl ?_
  refine zy_n 1 (mr := zm_m164) (pc' := 10) (ls' := [(0, .ref 0), (1, .int a1), (2, .int a2)]) (st' := [.int (-2)]) rfl rfl ?_
  refine zy_r (mr := zm_m164) rfl rfl rfl ?_
  refine ⟨⟨_, rfl, ?_⟩, fun k hk1 hk2 => rfl, Nat.le_trans (Nat.le_of_eq (zp_len F).1) (by decide), Nat.le_trans (Nat.le_of_eq (zp_len F).2) (by decide)⟩
  simp [zf_38]
set_option maxHeartbeats 4000000 in
set_option maxRecDepth 20000 in
theorem zx_39 {og : Nat → Option zm_C} {h : zm_H} (F : zp_ck h = true) (a1 : Int32) (a2 : Int32) (a3 : Int32) : zm_Y og 30 166 0 [(0, .ref 0), (1, .int a1), (2, .int a2), (3, .int a3)] [] h (fun r h1 => (∃ v, r = some (.int v) ∧ zf_39 a1 a2 a3 v) ∧ (∀ k : Nat, 55 ≤ k → k < 117 → h1[k]? = h[k]?) ∧ h1.length ≤ 200 ∧ zm_szs h1 ≤ 90000) := by
  refine zy_n 3 (mr := zm_m166) (pc' := 3) (ls' := [(0, .ref 0), (1, .int a1), (2, .int a2), (3, .int a3)]) (st' := [.int a2, .int a1, .ref 0]) rfl rfl ?_
  refine zy_c (mc := zm_m27) (mr := zm_m166) rfl rfl (zh_v rfl (zp_o F 0 rfl) rfl) rfl rfl ?_
  refine zy_n 2 (mr := zm_m27) (pc' := 2) (ls' := [(0, .ref 0), (1, .int a1), (2, .int a2)]) (st' := [.int a1, .ref 0]) rfl rfl ?_
  refine zy_c (mc := zm_m18) (mr := zm_m27) rfl rfl (zh_v rfl (zp_o F 0 rfl) rfl) rfl rfl ?_
  refine zy_n 3 (mr := zm_m18) (pc' := 3) (ls' := [(0, .ref 0), (1, .int a1)]) (st' := [.ref 0, .int 0, .int a1]) rfl rfl ?_
  refine zy_h (mr := zm_m18) rfl rfl (zh_get (v := .int 0) (zp_o F 0 rfl) rfl) ?_
  refine zy_n 2 (mr := zm_m18) (pc' := 8) (ls' := [(0, .ref 0), (1, .int a1)]) (st' := [.int (-1), .int 0, .int a1]) rfl rfl ?_
  refine zy_c (mc := zm_m10) (mr := zm_m18) rfl rfl rfl rfl rfl (zm_Y.mono (zk_within a1 0 (-1)) ?_)
  rintro r h1 ⟨rfl, ⟨rfl, hc1⟩ | ⟨rfl, hc1⟩⟩
  · exact absurd hc1 (zl_emp (by decide))
  refine zy_r (mr := zm_m18) rfl rfl rfl ?_
  refine zy_b (q := (31, [])) (mr := zm_m27) rfl rfl rfl ?_
  refine zy_n 1 (mr := zm_m27) (pc' := 32) (ls' := [(0, .ref 0), (1, .int a1), (2, .int a2)]) (st' := [.int 0]) rfl rfl ?_
  refine zy_r (mr := zm_m27) rfl rfl rfl ?_
  refine zy_b (q := (27, [])) (mr := zm_m166) rfl rfl rfl ?_
  refine zy_n 1 (mr := zm_m166) (pc' := 29) (ls' := [(0, .ref 0), (1, .int a1), (2, .int a2), (3, .int a3)]) (st' := [.int (-2)]) rfl rfl ?_
  refine zy_r (mr := zm_m166) rfl rfl rfl ?_
  refine ⟨⟨_, rfl, ?_⟩, fun k hk1 hk2 => rfl, Nat.le_trans (Nat.le_of_eq (zp_len F).1) (by decide), Nat.le_trans (Nat.le_of_eq (zp_len F).2) (by decide)⟩
  simp [zf_39]
set_option maxHeartbeats 4000000 in
set_option maxRecDepth 20000 in
theorem zx_40 {og : Nat → Option zm_C} {h : zm_H} (F : zp_ck h = true) (a1 : Int32) : zm_Y og 30 168 0 [(0, .ref 0), (1, .int a1)] [] h (fun r h1 => (∃ v, r = some (.long v) ∧ zf_40 a1 v) ∧ (∀ k : Nat, 55 ≤ k → k < 117 → h1[k]? = h[k]?) ∧ h1.length ≤ 200 ∧ zm_szs h1 ≤ 90000) := by
  refine zy_n 2 (mr := zm_m168) (pc' := 2) (ls' := [(0, .ref 0), (1, .int a1)]) (st' := [.int a1, .ref 0]) rfl rfl ?_
  refine zy_c (mc := zm_m18) (mr := zm_m168) rfl rfl (zh_v rfl (zp_o F 0 rfl) rfl) rfl rfl ?_
  refine zy_n 3 (mr := zm_m18) (pc' := 3) (ls' := [(0, .ref 0), (1, .int a1)]) (st' := [.ref 0, .int 0, .int a1]) rfl rfl ?_
  refine zy_h (mr := zm_m18) rfl rfl (zh_get (v := .int 0) (zp_o F 0 rfl) rfl) ?_
  refine zy_n 2 (mr := zm_m18) (pc' := 8) (ls' := [(0, .ref 0), (1, .int a1)]) (st' := [.int (-1), .int 0, .int a1]) rfl rfl ?_
  refine zy_c (mc := zm_m10) (mr := zm_m18) rfl rfl rfl rfl rfl (zm_Y.mono (zk_within a1 0 (-1)) ?_)
  rintro r h1 ⟨rfl, ⟨rfl, hc1⟩ | ⟨rfl, hc1⟩⟩
  · exact absurd hc1 (zl_emp (by decide))
  refine zy_r (mr := zm_m18) rfl rfl rfl ?_
  refine zy_b (q := (20, [])) (mr := zm_m168) rfl rfl rfl ?_
  refine zy_n 1 (mr := zm_m168) (pc' := 23) (ls' := [(0, .ref 0), (1, .int a1)]) (st' := [.long (-2)]) rfl rfl ?_
  refine zy_r (mr := zm_m168) rfl rfl rfl ?_
  refine ⟨⟨_, rfl, ?_⟩, fun k hk1 hk2 => rfl, Nat.le_trans (Nat.le_of_eq (zp_len F).1) (by decide), Nat.le_trans (Nat.le_of_eq (zp_len F).2) (by decide)⟩
  simp [zf_40]
set_option maxHeartbeats 4000000 in
set_option maxRecDepth 20000 in
theorem zx_41 {og : Nat → Option zm_C} {h : zm_H} (F : zp_ck h = true) (a1 : Int32) : zm_Y og 30 169 0 [(0, .ref 0), (1, .int a1)] [] h (fun r h1 => (∃ v, r = some (.int v) ∧ zf_41 a1 v) ∧ (∀ k : Nat, 55 ≤ k → k < 117 → h1[k]? = h[k]?) ∧ h1.length ≤ 200 ∧ zm_szs h1 ≤ 90000) := by
  rcases zl_10 a1 with rfl | rfl | rfl | rfl | rfl | rfl | rfl | rfl | rfl | rfl | hz
  · skip
    refine zy_n 1 (mr := zm_m169) (pc' := 1) (ls' := [(0, .ref 0), (1, .int 0)]) (st' := [.int 0]) rfl rfl ?_
    refine zy_b (q := (56, [])) (mr := zm_m169) rfl rfl (by decide +kernel) ?_
    refine zy_n 1 (mr := zm_m169) (pc' := 57) (ls' := [(0, .ref 0), (1, .int 0)]) (st' := [.ref 0]) rfl rfl ?_
    refine zy_h (mr := zm_m169) rfl rfl (zh_get (v := .int 0) (zp_o F 0 rfl) rfl) ?_
    refine zy_r (mr := zm_m169) rfl rfl rfl ?_
    refine ⟨⟨_, rfl, ?_⟩, fun k hk1 hk2 => rfl, Nat.le_trans (Nat.le_of_eq (zp_len F).1) (by decide), Nat.le_trans (Nat.le_of_eq (zp_len F).2) (by decide)⟩
    exact ⟨fun _ => rfl, fun z => absurd z (by decide)⟩
  · skip
    refine zy_n 1 (mr := zm_m169) (pc' := 1) (ls' := [(0, .ref 0), (1, .int 1)]) (st' := [.int 1]) rfl rfl ?_
    refine zy_b (q := (61, [])) (mr := zm_m169) rfl rfl (by decide +kernel) ?_
    refine zy_n 1 (mr := zm_m169) (pc' := 62) (ls' := [(0, .ref 0), (1, .int 1)]) (st' := [.ref 0]) rfl rfl ?_
    refine zy_h (mr := zm_m169) rfl rfl (zh_get (v := .int 0) (zp_o F 0 rfl) rfl) ?_
    refine zy_r (mr := zm_m169) rfl rfl rfl ?_
    refine ⟨⟨_, rfl, ?_⟩, fun k hk1 hk2 => rfl, Nat.le_trans (Nat.le_of_eq (zp_len F).1) (by decide), Nat.le_trans (Nat.le_of_eq (zp_len F).2) (by decide)⟩
    exact ⟨fun _ => rfl, fun z => absurd z (by decide)⟩
  · skip
    refine zy_n 1 (mr := zm_m169) (pc' := 1) (ls' := [(0, .ref 0), (1, .int 2)]) (st' := [.int 2]) rfl rfl ?_
    refine zy_b (q := (66, [])) (mr := zm_m169) rfl rfl (by decide +kernel) ?_
    refine zy_n 1 (mr := zm_m169) (pc' := 67) (ls' := [(0, .ref 0), (1, .int 2)]) (st' := [.ref 0]) rfl rfl ?_
    refine zy_h (mr := zm_m169) rfl rfl (zh_get (v := .ref 7) (zp_o F 0 rfl) rfl) ?_
    refine zy_h (mr := zm_m169) rfl rfl (zh_get (v := .int 0) (zp_o F 2 rfl) rfl) ?_
    refine zy_r (mr := zm_m169) rfl rfl rfl ?_
    refine ⟨⟨_, rfl, ?_⟩, fun k hk1 hk2 => rfl, Nat.le_trans (Nat.le_of_eq (zp_len F).1) (by decide), Nat.le_trans (Nat.le_of_eq (zp_len F).2) (by decide)⟩
    exact ⟨fun _ => rfl, fun z => absurd z (by decide)⟩
  · skip
    refine zy_n 1 (mr := zm_m169) (pc' := 1) (ls' := [(0, .ref 0), (1, .int 3)]) (st' := [.int 3]) rfl rfl ?_
    refine zy_b (q := (74, [])) (mr := zm_m169) rfl rfl (by decide +kernel) ?_
    refine zy_n 1 (mr := zm_m169) (pc' := 75) (ls' := [(0, .ref 0), (1, .int 3)]) (st' := [.ref 0]) rfl rfl ?_
    refine zy_h (mr := zm_m169) rfl rfl (zh_get (v := .ref 25) (zp_o F 0 rfl) rfl) ?_
    refine zy_h (mr := zm_m169) rfl rfl (zh_get (v := .int 0) (zp_o F 5 rfl) rfl) ?_
    refine zy_r (mr := zm_m169) rfl rfl rfl ?_
    refine ⟨⟨_, rfl, ?_⟩, fun k hk1 hk2 => rfl, Nat.le_trans (Nat.le_of_eq (zp_len F).1) (by decide), Nat.le_trans (Nat.le_of_eq (zp_len F).2) (by decide)⟩
    exact ⟨fun _ => rfl, fun z => absurd z (by decide)⟩
  · skip
    refine zy_n 1 (mr := zm_m169) (pc' := 1) (ls' := [(0, .ref 0), (1, .int 4)]) (st' := [.int 4]) rfl rfl ?_
    refine zy_b (q := (82, [])) (mr := zm_m169) rfl rfl (by decide +kernel) ?_
    refine zy_n 1 (mr := zm_m169) (pc' := 83) (ls' := [(0, .ref 0), (1, .int 4)]) (st' := [.ref 0]) rfl rfl ?_
    refine zy_h (mr := zm_m169) rfl rfl (zh_get (v := .ref 25) (zp_o F 0 rfl) rfl) ?_
    refine zy_c (mc := zm_m170) (mr := zm_m169) rfl rfl (zh_v rfl (zp_o F 5 rfl) rfl) rfl rfl ?_
    refine zy_n 6 (mr := zm_m170) (pc' := 6) (ls' := [(2, .int 0), (1, .int 0), (0, .ref 25)]) (st' := [.ref 25, .int 0]) rfl rfl ?_
    refine zy_h (mr := zm_m170) rfl rfl (zh_get (v := .int 0) (zp_o F 5 rfl) rfl) ?_
    refine zy_b (q := (34, [])) (mr := zm_m170) rfl rfl rfl ?_
    refine zy_n 1 (mr := zm_m170) (pc' := 35) (ls' := [(2, .int 0), (1, .int 0), (0, .ref 25)]) (st' := [.int 0]) rfl rfl ?_
    refine zy_r (mr := zm_m170) rfl rfl rfl ?_
    refine zy_r (mr := zm_m169) rfl rfl rfl ?_
    refine ⟨⟨_, rfl, ?_⟩, fun k hk1 hk2 => rfl, Nat.le_trans (Nat.le_of_eq (zp_len F).1) (by decide), Nat.le_trans (Nat.le_of_eq (zp_len F).2) (by decide)⟩
    exact ⟨fun _ => rfl, fun z => absurd z (by decide)⟩
  · skip
    refine zy_n 1 (mr := zm_m169) (pc' := 1) (ls' := [(0, .ref 0), (1, .int 5)]) (st' := [.int 5]) rfl rfl ?_
    as_aux_lemma =>
      refine zy_b (q := (90, [])) (mr := zm_m169) rfl rfl (by decide +kernel) ?_
      refine zy_n 1 (mr := zm_m169) (pc' := 91) (ls' := [(0, .ref 0), (1, .int 5)]) (st' := [.ref 0]) rfl rfl ?_
      refine zy_h (mr := zm_m169) rfl rfl (zh_get (v := .ref 27) (zp_o F 0 rfl) rfl) ?_
      refine zy_h (mr := zm_m169) rfl rfl (zh_get (v := .int 0) (zp_o F 6 rfl) rfl) ?_
      refine zy_r (mr := zm_m169) rfl rfl rfl ?_
      refine ⟨⟨_, rfl, ?_⟩, fun k hk1 hk2 => rfl, Nat.le_trans (Nat.le_of_eq (zp_len F).1) (by decide), Nat.le_trans (Nat.le_of_eq (zp_len F).2) (by decide)⟩
      exact ⟨fun _ => rfl, fun z => absurd z (by decide)⟩
  · skip
    refine zy_n 1 (mr := zm_m169) (pc' := 1) (ls' := [(0, .ref 0), (1, .int 6)]) (st' := [.int 6]) rfl rfl ?_
    refine zy_b (q := (98, [])) (mr := zm_m169) rfl rfl (by decide +kernel) ?_
    refine zy_n 1 (mr := zm_m169) (pc' := 99) (ls' := [(0, .ref 0), (1, .int 6)]) (st' := [.ref 0]) rfl rfl ?_
    refine zy_h (mr := zm_m169) rfl rfl (zh_get (v := .ref 2) (zp_o F 0 rfl) rfl) ?_
    refine zy_h (mr := zm_m169) rfl rfl (zh_get (v := .int 0) (zp_o F 1 rfl) rfl) ?_
    refine zy_r (mr := zm_m169) rfl rfl rfl ?_
    refine ⟨⟨_, rfl, ?_⟩, fun k hk1 hk2 => rfl, Nat.le_trans (Nat.le_of_eq (zp_len F).1) (by decide), Nat.le_trans (Nat.le_of_eq (zp_len F).2) (by decide)⟩
    exact ⟨fun _ => rfl, fun z => absurd z (by decide)⟩
  · skip
    refine zy_n 1 (mr := zm_m169) (pc' := 1) (ls' := [(0, .ref 0), (1, .int 7)]) (st' := [.int 7]) rfl rfl ?_
    refine zy_b (q := (106, [])) (mr := zm_m169) rfl rfl (by decide +kernel) ?_
    refine zy_n 1 (mr := zm_m169) (pc' := 107) (ls' := [(0, .ref 0), (1, .int 7)]) (st' := [.ref 0]) rfl rfl ?_
    refine zy_h (mr := zm_m169) rfl rfl (zh_get (v := .ref 7) (zp_o F 0 rfl) rfl) ?_
    refine zy_n 1 (mr := zm_m169) (pc' := 111) (ls' := [(0, .ref 0), (1, .int 7)]) (st' := [.ref 0, .ref 7]) rfl rfl ?_
    refine zy_h (mr := zm_m169) rfl rfl (zh_get (v := .int 0) (zp_o F 0 rfl) rfl) ?_
    refine zy_c (mc := zm_m75) (mr := zm_m169) rfl rfl (zh_v rfl (zp_o F 2 rfl) rfl) rfl rfl ?_
    refine zy_n 1 (mr := zm_m75) (pc' := 1) (ls' := [(0, .ref 7), (1, .int 0)]) (st' := [.ref 7]) rfl rfl ?_
    refine zy_h (mr := zm_m75) rfl rfl (zh_get (v := .ref 16) (zp_o F 2 rfl) rfl) ?_
    refine zy_n 5 (mr := zm_m75) (pc' := 9) (ls' := [(3, .int 0), (2, .ref 16), (0, .ref 7), (1, .int 0)]) (st' := [.ref 7, .int 0]) rfl rfl ?_
    refine zy_h (mr := zm_m75) rfl rfl (zh_get (v := .int 0) (zp_o F 2 rfl) rfl) ?_
    refine zy_b (q := (61, [])) (mr := zm_m75) rfl rfl rfl ?_
    refine zy_n 1 (mr := zm_m75) (pc' := 62) (ls' := [(3, .int 0), (2, .ref 16), (0, .ref 7), (1, .int 0)]) (st' := [.ref 16]) rfl rfl ?_
    refine zy_r (mr := zm_m75) rfl rfl rfl ?_
    refine zy_h (mr := zm_m169) rfl rfl (zh_get (v := .int 0) (zp_o F 4 rfl) rfl) ?_
    refine zy_r (mr := zm_m169) rfl rfl rfl ?_
    refine ⟨⟨_, rfl, ?_⟩, fun k hk1 hk2 => rfl, Nat.le_trans (Nat.le_of_eq (zp_len F).1) (by decide), Nat.le_trans (Nat.le_of_eq (zp_len F).2) (by decide)⟩
    exact ⟨fun _ => rfl, fun z => absurd z (by decide)⟩
  · skip
    refine zy_n 1 (mr := zm_m169) (pc' := 1) (ls' := [(0, .ref 0), (1, .int 8)]) (st' := [.int 8]) rfl rfl ?_
    refine zy_b (q := (121, [])) (mr := zm_m169) rfl rfl (by decide +kernel) ?_
    refine zy_n 1 (mr := zm_m169) (pc' := 122) (ls' := [(0, .ref 0), (1, .int 8)]) (st' := [.ref 0]) rfl rfl ?_
    refine zy_c (mc := zm_m171) (mr := zm_m169) rfl rfl (zh_v rfl (zp_o F 0 rfl) rfl) rfl rfl ?_
    refine zy_n 6 (mr := zm_m171) (pc' := 6) (ls' := [(2, .int 0), (1, .int 0), (0, .ref 0)]) (st' := [.ref 0, .int 0]) rfl rfl ?_
    refine zy_h (mr := zm_m171) rfl rfl (zh_get (v := .int 0) (zp_o F 0 rfl) rfl) ?_
    refine zy_b (q := (65, [])) (mr := zm_m171) rfl rfl rfl ?_
    refine zy_n 1 (mr := zm_m171) (pc' := 66) (ls' := [(2, .int 0), (1, .int 0), (0, .ref 0)]) (st' := [.int 0]) rfl rfl ?_
    refine zy_r (mr := zm_m171) rfl rfl rfl ?_
    refine zy_r (mr := zm_m169) rfl rfl rfl ?_
    refine ⟨⟨_, rfl, ?_⟩, fun k hk1 hk2 => rfl, Nat.le_trans (Nat.le_of_eq (zp_len F).1) (by decide), Nat.le_trans (Nat.le_of_eq (zp_len F).2) (by decide)⟩
    exact ⟨fun _ => rfl, fun z => absurd z (by decide)⟩
  · skip
    refine zy_n 1 (mr := zm_m169) (pc' := 1) (ls' := [(0, .ref 0), (1, .int 9)]) (st' := [.int 9]) rfl rfl ?_
    refine zy_b (q := (126, [])) (mr := zm_m169) rfl rfl (by decide +kernel) ?_
    refine zy_n 1 (mr := zm_m169) (pc' := 127) (ls' := [(0, .ref 0), (1, .int 9)]) (st' := [.ref 0]) rfl rfl ?_
    as_aux_lemma =>
      refine zy_h (mr := zm_m169) rfl rfl (zh_get (v := .ref 45) (zp_o F 0 rfl) rfl) ?_
      refine zy_c (mc := zm_m172) (mr := zm_m169) rfl rfl (zh_v rfl (zp_o F 9 rfl) rfl) rfl rfl ?_
      refine zy_n 6 (mr := zm_m172) (pc' := 6) (ls' := [(2, .int 0), (1, .int 0), (0, .ref 45)]) (st' := [.int 4, .int 0]) rfl rfl ?_
      refine zy_b (q := (9, [])) (mr := zm_m172) rfl rfl rfl ?_
      refine zy_n 3 (mr := zm_m172) (pc' := 12) (ls' := [(2, .int 0), (1, .int 0), (0, .ref 45)]) (st' := [.int 0, .ref 45, .int 0]) rfl rfl ?_
      refine zy_c (mc := zm_m20) (mr := zm_m172) rfl rfl (zh_v rfl (zp_o F 9 rfl) rfl) rfl rfl ?_
      refine zy_n 1 (mr := zm_m20) (pc' := 1) (ls' := [(0, .ref 45), (1, .int 0)]) (st' := [.ref 45]) rfl rfl ?_
      refine zy_h (mr := zm_m20) rfl rfl (zh_get (v := .ref 51) (zp_o F 9 rfl) rfl) ?_
      refine zy_n 1 (mr := zm_m20) (pc' := 5) (ls' := [(0, .ref 45), (1, .int 0)]) (st' := [.int 0, .ref 51]) rfl rfl ?_
      refine zy_h (mr := zm_m20) rfl rfl (zh_iald (v := (-1)) (zp_i F 30 rfl) (by decide) (zp_iv F 30 rfl rfl)) ?_
      refine zy_n 1 (mr := zm_m20) (pc' := 7) (ls' := [(0, .ref 45), (1, .int 0)]) (st' := [.int (-1), .int (-1)]) rfl rfl ?_
      refine zy_b (q := (14, [])) (mr := zm_m20) rfl rfl rfl ?_
      refine zy_n 1 (mr := zm_m20) (pc' := 15) (ls' := [(0, .ref 45), (1, .int 0)]) (st' := [.int 0]) rfl rfl ?_
      refine zy_r (mr := zm_m20) rfl rfl rfl ?_
      refine zy_b (q := (22, [.int 0])) (mr := zm_m172) rfl rfl rfl ?_
      refine zy_n 7 (mr := zm_m172) (pc' := 6) (ls' := [(2, .int 1), (1, .int 0), (0, .ref 45)]) (st' := [.int 4, .int 1]) rfl rfl ?_
      refine zy_b (q := (9, [])) (mr := zm_m172) rfl rfl rfl ?_
      refine zy_n 3 (mr := zm_m172) (pc' := 12) (ls' := [(2, .int 1), (1, .int 0), (0, .ref 45)]) (st' := [.int 1, .ref 45, .int 0]) rfl rfl ?_
      refine zy_c (mc := zm_m20) (mr := zm_m172) rfl rfl (zh_v rfl (zp_o F 9 rfl) rfl) rfl rfl ?_
      refine zy_n 1 (mr := zm_m20) (pc' := 1) (ls' := [(0, .ref 45), (1, .int 1)]) (st' := [.ref 45]) rfl rfl ?_
      refine zy_h (mr := zm_m20) rfl rfl (zh_get (v := .ref 51) (zp_o F 9 rfl) rfl) ?_
      refine zy_n 1 (mr := zm_m20) (pc' := 5) (ls' := [(0, .ref 45), (1, .int 1)]) (st' := [.int 1, .ref 51]) rfl rfl ?_
      refine zy_h (mr := zm_m20) rfl rfl (zh_iald (v := (-1)) (zp_i F 30 rfl) (by decide) (zp_iv F 30 rfl rfl)) ?_
      refine zy_n 1 (mr := zm_m20) (pc' := 7) (ls' := [(0, .ref 45), (1, .int 1)]) (st' := [.int (-1), .int (-1)]) rfl rfl ?_
      refine zy_b (q := (14, [])) (mr := zm_m20) rfl rfl rfl ?_
      refine zy_n 1 (mr := zm_m20) (pc' := 15) (ls' := [(0, .ref 45), (1, .int 1)]) (st' := [.int 0]) rfl rfl ?_
      refine zy_r (mr := zm_m20) rfl rfl rfl ?_
      refine zy_b (q := (22, [.int 0])) (mr := zm_m172) rfl rfl rfl ?_
      refine zy_n 7 (mr := zm_m172) (pc' := 6) (ls' := [(2, .int 2), (1, .int 0), (0, .ref 45)]) (st' := [.int 4, .int 2]) rfl rfl ?_
      refine zy_b (q := (9, [])) (mr := zm_m172) rfl rfl rfl ?_
      refine zy_n 3 (mr := zm_m172) (pc' := 12) (ls' := [(2, .int 2), (1, .int 0), (0, .ref 45)]) (st' := [.int 2, .ref 45, .int 0]) rfl rfl ?_
      refine zy_c (mc := zm_m20) (mr := zm_m172) rfl rfl (zh_v rfl (zp_o F 9 rfl) rfl) rfl rfl ?_
      refine zy_n 1 (mr := zm_m20) (pc' := 1) (ls' := [(0, .ref 45), (1, .int 2)]) (st' := [.ref 45]) rfl rfl ?_
      refine zy_h (mr := zm_m20) rfl rfl (zh_get (v := .ref 51) (zp_o F 9 rfl) rfl) ?_
      refine zy_n 1 (mr := zm_m20) (pc' := 5) (ls' := [(0, .ref 45), (1, .int 2)]) (st' := [.int 2, .ref 51]) rfl rfl ?_
      refine zy_h (mr := zm_m20) rfl rfl (zh_iald (v := (-1)) (zp_i F 30 rfl) (by decide) (zp_iv F 30 rfl rfl)) ?_
      refine zy_n 1 (mr := zm_m20) (pc' := 7) (ls' := [(0, .ref 45), (1, .int 2)]) (st' := [.int (-1), .int (-1)]) rfl rfl ?_
      refine zy_b (q := (14, [])) (mr := zm_m20) rfl rfl rfl ?_
      refine zy_n 1 (mr := zm_m20) (pc' := 15) (ls' := [(0, .ref 45), (1, .int 2)]) (st' := [.int 0]) rfl rfl ?_
      refine zy_r (mr := zm_m20) rfl rfl rfl ?_
      refine zy_b (q := (22, [.int 0])) (mr := zm_m172) rfl rfl rfl ?_
      refine zy_n 7 (mr := zm_m172) (pc' := 6) (ls' := [(2, .int 3), (1, .int 0), (0, .ref 45)]) (st' := [.int 4, .int 3]) rfl rfl ?_
      refine zy_b (q := (9, [])) (mr := zm_m172) rfl rfl rfl ?_
      refine zy_n 3 (mr := zm_m172) (pc' := 12) (ls' := [(2, .int 3), (1, .int 0), (0, .ref 45)]) (st' := [.int 3, .ref 45, .int 0]) rfl rfl ?_
      refine zy_c (mc := zm_m20) (mr := zm_m172) rfl rfl (zh_v rfl (zp_o F 9 rfl) rfl) rfl rfl ?_
      refine zy_n 1 (mr := zm_m20) (pc' := 1) (ls' := [(0, .ref 45), (1, .int 3)]) (st' := [.ref 45]) rfl rfl ?_
      refine zy_h (mr := zm_m20) rfl rfl (zh_get (v := .ref 51) (zp_o F 9 rfl) rfl) ?_
      refine zy_n 1 (mr := zm_m20) (pc' := 5) (ls' := [(0, .ref 45), (1, .int 3)]) (st' := [.int 3, .ref 51]) rfl rfl ?_
      refine zy_h (mr := zm_m20) rfl rfl (zh_iald (v := (-1)) (zp_i F 30 rfl) (by decide) (zp_iv F 30 rfl rfl)) ?_
      refine zy_n 1 (mr := zm_m20) (pc' := 7) (ls' := [(0, .ref 45), (1, .int 3)]) (st' := [.int (-1), .int (-1)]) rfl rfl ?_
      refine zy_b (q := (14, [])) (mr := zm_m20) rfl rfl rfl ?_
      refine zy_n 1 (mr := zm_m20) (pc' := 15) (ls' := [(0, .ref 45), (1, .int 3)]) (st' := [.int 0]) rfl rfl ?_
      as_aux_lemma =>
        refine zy_r (mr := zm_m20) rfl rfl rfl ?_
        refine zy_b (q := (22, [.int 0])) (mr := zm_m172) rfl rfl rfl ?_
        refine zy_n 7 (mr := zm_m172) (pc' := 6) (ls' := [(2, .int 4), (1, .int 0), (0, .ref 45)]) (st' := [.int 4, .int 4]) rfl rfl ?_
        refine zy_b (q := (31, [])) (mr := zm_m172) rfl rfl rfl ?_
        refine zy_n 1 (mr := zm_m172) (pc' := 32) (ls' := [(2, .int 4), (1, .int 0), (0, .ref 45)]) (st' := [.int 0]) rfl rfl ?_
        refine zy_r (mr := zm_m172) rfl rfl rfl ?_
        refine zy_r (mr := zm_m169) rfl rfl rfl ?_
        refine ⟨⟨_, rfl, ?_⟩, fun k hk1 hk2 => rfl, Nat.le_trans (Nat.le_of_eq (zp_len F).1) (by decide), Nat.le_trans (Nat.le_of_eq (zp_len F).2) (by decide)⟩
        exact ⟨fun _ => rfl, fun z => absurd z (by decide)⟩
  · skip
    refine zy_n 1 (mr := zm_m169) (pc' := 1) (ls' := [(0, .ref 0), (1, .int a1)]) (st' := [.int a1]) rfl rfl ?_
    refine zy_b (q := (134, [])) (mr := zm_m169) rfl rfl (zt_out hz rfl) ?_
    refine zy_n 1 (mr := zm_m169) (pc' := 135) (ls' := [(0, .ref 0), (1, .int a1)]) (st' := [.int (-1)]) rfl rfl ?_
    refine zy_r (mr := zm_m169) rfl rfl rfl ?_
    refine ⟨⟨_, rfl, ?_⟩, fun k hk1 hk2 => rfl, Nat.le_trans (Nat.le_of_eq (zp_len F).1) (by decide), Nat.le_trans (Nat.le_of_eq (zp_len F).2) (by decide)⟩
    simp [zf_41, hz]
set_option maxHeartbeats 4000000 in
set_option maxRecDepth 20000 in
theorem zx_42 {og : Nat → Option zm_C} {h : zm_H} (F : zp_ck h = true) (a1 : Int32) (a2 : Int32) (a3 : Int32) : zm_Y og 30 173 0 [(0, .ref 0), (1, .int a1), (2, .int a2), (3, .int a3)] [] h (fun r h1 => (∃ v, r = some (.int v) ∧ zf_42 a1 a2 a3 v) ∧ (∀ k : Nat, 55 ≤ k → k < 117 → h1[k]? = h[k]?) ∧ h1.length ≤ 200 ∧ zm_szs h1 ≤ 90000) := by
  by_cases hz : zw a1 0 3
  · rcases zl_4 hz with rfl | rfl | rfl | rfl
    · skip
      refine zy_n 1 (mr := zm_m173) (pc' := 1) (ls' := [(0, .ref 0), (1, .int 0), (2, .int a2), (3, .int a3)]) (st' := [.int 0]) rfl rfl ?_
      refine zy_c (mc := zm_m19) (mr := zm_m173) rfl rfl rfl rfl rfl ?_
      refine zy_n 3 (mr := zm_m19) (pc' := 3) (ls' := [(0, .int 0)]) (st' := [.int 3, .int 0, .int 0]) rfl rfl ?_
      refine zy_c (mc := zm_m10) (mr := zm_m19) rfl rfl rfl rfl rfl (zm_Y.mono (zk_within 0 0 3) ?_)
      rintro r h1 ⟨rfl, ⟨rfl, hc1⟩ | ⟨rfl, hc1⟩⟩
      rotate_left
      · exact absurd hz hc1
      refine zy_r (mr := zm_m19) rfl rfl rfl ?_
      refine zy_b (q := (7, [])) (mr := zm_m173) rfl rfl rfl ?_
      refine zy_n 3 (mr := zm_m173) (pc' := 10) (ls' := [(0, .ref 0), (1, .int 0), (2, .int a2), (3, .int a3)]) (st' := [.int 3, .int 0, .int a2]) rfl rfl ?_
      refine zy_c (mc := zm_m10) (mr := zm_m173) rfl rfl rfl rfl rfl (zm_Y.mono (zk_within a2 0 3) ?_)
      rintro r h1 ⟨rfl, ⟨rfl, hc2⟩ | ⟨rfl, hc2⟩⟩
      · skip
        refine zy_b (q := (16, [])) (mr := zm_m173) rfl rfl rfl ?_
        refine zy_n 2 (mr := zm_m173) (pc' := 19) (ls' := [(0, .ref 0), (1, .int 0), (2, .int a2), (3, .int a3)]) (st' := [.int 60, .int a3]) rfl rfl ?_
        refine zy_b (mr := zm_m173) rfl rfl rfl (zc_le (fun hc3 => ?_) (fun hc3 => ?_))
        · skip
          refine zy_n 1 (mr := zm_m173) (pc' := 26) (ls' := [(0, .ref 0), (1, .int 0), (2, .int a2), (3, .int a3)]) (st' := [.int a3]) rfl rfl ?_
          refine zy_b (mr := zm_m173) rfl rfl rfl (zi_ge (fun hc4 => ?_) (fun hc4 => ?_))
          · skip
            refine zy_n 1 (mr := zm_m173) (pc' := 33) (ls' := [(0, .ref 0), (1, .int 0), (2, .int a2), (3, .int a3)]) (st' := [.ref 0]) rfl rfl ?_
            refine zy_h (mr := zm_m173) rfl rfl (zh_get (v := .ref 45) (zp_o F 0 rfl) rfl) ?_
            refine zy_n 3 (mr := zm_m173) (pc' := 39) (ls' := [(0, .ref 0), (1, .int 0), (2, .int a2), (3, .int a3)]) (st' := [.int a3, .int a2, .int 0, .ref 45]) rfl rfl ?_
            refine zy_c (mc := zm_m174) (mr := zm_m173) rfl rfl (zh_v rfl (zp_o F 9 rfl) rfl) rfl rfl ?_
            refine zy_n 1 (mr := zm_m174) (pc' := 1) (ls' := [(0, .ref 45), (1, .int 0), (2, .int a2), (3, .int a3)]) (st' := [.ref 45]) rfl rfl ?_
            refine zy_h (mr := zm_m174) rfl rfl (zh_get (v := .ref 51) (zp_o F 9 rfl) rfl) ?_
            refine zy_n 2 (mr := zm_m174) (pc' := 6) (ls' := [(0, .ref 45), (1, .int 0), (2, .int a2), (3, .int a3)]) (st' := [.int a2, .int 0, .ref 51]) rfl rfl ?_
            refine zy_hS (x := _) (mr := zm_m174) rfl rfl (zh_iast (zp_i F 30 rfl) (by decide)) (fun he5 e5 => ?_)
            refine zy_n 1 (mr := zm_m174) (pc' := 8) (ls' := [(0, .ref 45), (1, .int 0), (2, .int a2), (3, .int a3)]) (st' := [.ref 45]) rfl rfl ?_
            refine zy_h (mr := zm_m174) rfl rfl (zh_get (v := .ref 52) (zs_neE e5 (zp_o F 9 rfl) (by decide)) rfl) ?_
            refine zy_n 2 (mr := zm_m174) (pc' := 13) (ls' := [(0, .ref 45), (1, .int 0), (2, .int a2), (3, .int a3)]) (st' := [.int a3, .int 0, .ref 52]) rfl rfl ?_
            refine zy_hS (x := _) (mr := zm_m174) rfl rfl (zh_iast (zs_neE e5 (zp_i F 31 rfl) (by decide)) (by decide)) (fun he6 e6 => ?_)
            refine zy_n 1 (mr := zm_m174) (pc' := 15) (ls' := [(0, .ref 45), (1, .int 0), (2, .int a2), (3, .int a3)]) (st' := [.ref 45]) rfl rfl ?_
            refine zy_h (mr := zm_m174) rfl rfl (zh_get (v := .ref 46) (zs_neE e6 (zs_neE e5 (zp_o F 9 rfl) (by decide)) (by decide)) rfl) ?_
            refine zy_n 1 (mr := zm_m174) (pc' := 19) (ls' := [(0, .ref 45), (1, .int 0), (2, .int a2), (3, .int a3)]) (st' := [.int 0, .ref 46]) rfl rfl ?_
            refine zy_h (q := (.ref 47 :: [], _)) (mr := zm_m174) rfl rfl (zh_aald (v := some 47) (zs_neE e6 (zs_neE e5 (zp_r F 2 rfl) (by decide)) (by decide)) rfl (by decide) (zp_rv F 2 rfl rfl)) ?_
            refine zy_n 1 (mr := zm_m174) (pc' := 21) (ls' := [(0, .ref 45), (1, .int 0), (2, .int a2), (3, .int a3)]) (st' := [.long 0, .ref 47]) rfl rfl ?_
            refine zy_c (mc := zm_m78) (mr := zm_m174) rfl rfl rfl rfl rfl (zm_Y.mono (zk_filll 0 (zs_neE e6 (zs_neE e5 (zp_l F 4 rfl) (by decide)) (by decide)) (by decide)) ?_)
            rintro r he9 ⟨rfl, g7, e9, hg8⟩
            refine zy_r (mr := zm_m174) rfl rfl rfl ?_
            refine zy_n 1 (mr := zm_m173) (pc' := 43) (ls' := [(0, .ref 0), (1, .int 0), (2, .int a2), (3, .int a3)]) (st' := [.int 0]) rfl rfl ?_
            refine zy_r (mr := zm_m173) rfl rfl rfl ?_
            refine ⟨⟨_, rfl, ?_⟩, fun k hk1 hk2 => ((zs_kE e9 (by omega)).trans ((zs_kE e6 (by omega)).trans ((zs_kE e5 (by omega)).trans rfl))), Nat.le_trans (Nat.le_of_eq (zs_lsetE e9 (zs_lsetE e6 (zs_lsetE e5 (zp_len F).1)))) (by decide), Nat.le_trans (Nat.le_of_eq (zs_szsetE (w := 60) e9 (zs_neE e6 (zs_neE e5 (zp_l F 4 rfl) (by decide)) (by decide)) rfl rfl (zs_szsetE (w := 4) e6 (zs_neE e5 (zp_i F 31 rfl) (by decide)) rfl rfl (zs_szsetE (w := 4) e5 (zp_i F 30 rfl) rfl rfl (zp_len F).2)))) (by decide)⟩
            simp [zf_42, hz, hc2, hc3, hc4]
          · skip
            refine zy_n 1 (mr := zm_m173) (pc' := 31) (ls' := [(0, .ref 0), (1, .int 0), (2, .int a2), (3, .int a3)]) (st' := [.int (-3)]) rfl rfl ?_
            refine zy_r (mr := zm_m173) rfl rfl rfl ?_
            refine ⟨⟨_, rfl, ?_⟩, fun k hk1 hk2 => rfl, Nat.le_trans (Nat.le_of_eq (zp_len F).1) (by decide), Nat.le_trans (Nat.le_of_eq (zp_len F).2) (by decide)⟩
            simp [zf_42, hz, hc2, hc3, hc4]
        · skip
          refine zy_n 1 (mr := zm_m173) (pc' := 24) (ls' := [(0, .ref 0), (1, .int 0), (2, .int a2), (3, .int a3)]) (st' := [.int (-2)]) rfl rfl ?_
          as_aux_lemma =>
            refine zy_r (mr := zm_m173) rfl rfl rfl ?_
            refine ⟨⟨_, rfl, ?_⟩, fun k hk1 hk2 => rfl, Nat.le_trans (Nat.le_of_eq (zp_len F).1) (by decide), Nat.le_trans (Nat.le_of_eq (zp_len F).2) (by decide)⟩
            simp [zf_42, hz, hc2, hc3]
      · skip
        refine zy_b (q := (22, [])) (mr := zm_m173) rfl rfl rfl ?_
        refine zy_n 1 (mr := zm_m173) (pc' := 24) (ls' := [(0, .ref 0), (1, .int 0), (2, .int a2), (3, .int a3)]) (st' := [.int (-2)]) rfl rfl ?_
        refine zy_r (mr := zm_m173) rfl rfl rfl ?_
        refine ⟨⟨_, rfl, ?_⟩, fun k hk1 hk2 => rfl, Nat.le_trans (Nat.le_of_eq (zp_len F).1) (by decide), Nat.le_trans (Nat.le_of_eq (zp_len F).2) (by decide)⟩
        simp [zf_42, hz, hc2]
    · skip
      refine zy_n 1 (mr := zm_m173) (pc' := 1) (ls' := [(0, .ref 0), (1, .int 1), (2, .int a2), (3, .int a3)]) (st' := [.int 1]) rfl rfl ?_
      refine zy_c (mc := zm_m19) (mr := zm_m173) rfl rfl rfl rfl rfl ?_
      refine zy_n 3 (mr := zm_m19) (pc' := 3) (ls' := [(0, .int 1)]) (st' := [.int 3, .int 0, .int 1]) rfl rfl ?_
      refine zy_c (mc := zm_m10) (mr := zm_m19) rfl rfl rfl rfl rfl (zm_Y.mono (zk_within 1 0 3) ?_)
      rintro r h1 ⟨rfl, ⟨rfl, hc10⟩ | ⟨rfl, hc10⟩⟩
      rotate_left
      · exact absurd hz hc10
      refine zy_r (mr := zm_m19) rfl rfl rfl ?_
      refine zy_b (q := (7, [])) (mr := zm_m173) rfl rfl rfl ?_
      refine zy_n 3 (mr := zm_m173) (pc' := 10) (ls' := [(0, .ref 0), (1, .int 1), (2, .int a2), (3, .int a3)]) (st' := [.int 3, .int 0, .int a2]) rfl rfl ?_
      refine zy_c (mc := zm_m10) (mr := zm_m173) rfl rfl rfl rfl rfl (zm_Y.mono (zk_within a2 0 3) ?_)
      rintro r h1 ⟨rfl, ⟨rfl, hc11⟩ | ⟨rfl, hc11⟩⟩
      · skip
        refine zy_b (q := (16, [])) (mr := zm_m173) rfl rfl rfl ?_
        refine zy_n 2 (mr := zm_m173) (pc' := 19) (ls' := [(0, .ref 0), (1, .int 1), (2, .int a2), (3, .int a3)]) (st' := [.int 60, .int a3]) rfl rfl ?_
        refine zy_b (mr := zm_m173) rfl rfl rfl (zc_le (fun hc12 => ?_) (fun hc12 => ?_))
        · skip
          refine zy_n 1 (mr := zm_m173) (pc' := 26) (ls' := [(0, .ref 0), (1, .int 1), (2, .int a2), (3, .int a3)]) (st' := [.int a3]) rfl rfl ?_
          refine zy_b (mr := zm_m173) rfl rfl rfl (zi_ge (fun hc13 => ?_) (fun hc13 => ?_))
          · skip
            refine zy_n 1 (mr := zm_m173) (pc' := 33) (ls' := [(0, .ref 0), (1, .int 1), (2, .int a2), (3, .int a3)]) (st' := [.ref 0]) rfl rfl ?_
            refine zy_h (mr := zm_m173) rfl rfl (zh_get (v := .ref 45) (zp_o F 0 rfl) rfl) ?_
            refine zy_n 3 (mr := zm_m173) (pc' := 39) (ls' := [(0, .ref 0), (1, .int 1), (2, .int a2), (3, .int a3)]) (st' := [.int a3, .int a2, .int 1, .ref 45]) rfl rfl ?_
            refine zy_c (mc := zm_m174) (mr := zm_m173) rfl rfl (zh_v rfl (zp_o F 9 rfl) rfl) rfl rfl ?_
            refine zy_n 1 (mr := zm_m174) (pc' := 1) (ls' := [(0, .ref 45), (1, .int 1), (2, .int a2), (3, .int a3)]) (st' := [.ref 45]) rfl rfl ?_
            refine zy_h (mr := zm_m174) rfl rfl (zh_get (v := .ref 51) (zp_o F 9 rfl) rfl) ?_
            refine zy_n 2 (mr := zm_m174) (pc' := 6) (ls' := [(0, .ref 45), (1, .int 1), (2, .int a2), (3, .int a3)]) (st' := [.int a2, .int 1, .ref 51]) rfl rfl ?_
            refine zy_hS (x := _) (mr := zm_m174) rfl rfl (zh_iast (zp_i F 30 rfl) (by decide)) (fun he14 e14 => ?_)
            refine zy_n 1 (mr := zm_m174) (pc' := 8) (ls' := [(0, .ref 45), (1, .int 1), (2, .int a2), (3, .int a3)]) (st' := [.ref 45]) rfl rfl ?_
            refine zy_h (mr := zm_m174) rfl rfl (zh_get (v := .ref 52) (zs_neE e14 (zp_o F 9 rfl) (by decide)) rfl) ?_
            refine zy_n 2 (mr := zm_m174) (pc' := 13) (ls' := [(0, .ref 45), (1, .int 1), (2, .int a2), (3, .int a3)]) (st' := [.int a3, .int 1, .ref 52]) rfl rfl ?_
            refine zy_hS (x := _) (mr := zm_m174) rfl rfl (zh_iast (zs_neE e14 (zp_i F 31 rfl) (by decide)) (by decide)) (fun he15 e15 => ?_)
            refine zy_n 1 (mr := zm_m174) (pc' := 15) (ls' := [(0, .ref 45), (1, .int 1), (2, .int a2), (3, .int a3)]) (st' := [.ref 45]) rfl rfl ?_
            refine zy_h (mr := zm_m174) rfl rfl (zh_get (v := .ref 46) (zs_neE e15 (zs_neE e14 (zp_o F 9 rfl) (by decide)) (by decide)) rfl) ?_
            refine zy_n 1 (mr := zm_m174) (pc' := 19) (ls' := [(0, .ref 45), (1, .int 1), (2, .int a2), (3, .int a3)]) (st' := [.int 1, .ref 46]) rfl rfl ?_
            refine zy_h (q := (.ref 48 :: [], _)) (mr := zm_m174) rfl rfl (zh_aald (v := some 48) (zs_neE e15 (zs_neE e14 (zp_r F 2 rfl) (by decide)) (by decide)) rfl (by decide) (zp_rv F 2 rfl rfl)) ?_
            refine zy_n 1 (mr := zm_m174) (pc' := 21) (ls' := [(0, .ref 45), (1, .int 1), (2, .int a2), (3, .int a3)]) (st' := [.long 0, .ref 48]) rfl rfl ?_
            refine zy_c (mc := zm_m78) (mr := zm_m174) rfl rfl rfl rfl rfl (zm_Y.mono (zk_filll 0 (zs_neE e15 (zs_neE e14 (zp_l F 5 rfl) (by decide)) (by decide)) (by decide)) ?_)
            rintro r he18 ⟨rfl, g16, e18, hg17⟩
            refine zy_r (mr := zm_m174) rfl rfl rfl ?_
            refine zy_n 1 (mr := zm_m173) (pc' := 43) (ls' := [(0, .ref 0), (1, .int 1), (2, .int a2), (3, .int a3)]) (st' := [.int 0]) rfl rfl ?_
            as_aux_lemma =>
              refine zy_r (mr := zm_m173) rfl rfl rfl ?_
              refine ⟨⟨_, rfl, ?_⟩, fun k hk1 hk2 => ((zs_kE e18 (by omega)).trans ((zs_kE e15 (by omega)).trans ((zs_kE e14 (by omega)).trans rfl))), Nat.le_trans (Nat.le_of_eq (zs_lsetE e18 (zs_lsetE e15 (zs_lsetE e14 (zp_len F).1)))) (by decide), Nat.le_trans (Nat.le_of_eq (zs_szsetE (w := 60) e18 (zs_neE e15 (zs_neE e14 (zp_l F 5 rfl) (by decide)) (by decide)) rfl rfl (zs_szsetE (w := 4) e15 (zs_neE e14 (zp_i F 31 rfl) (by decide)) rfl rfl (zs_szsetE (w := 4) e14 (zp_i F 30 rfl) rfl rfl (zp_len F).2)))) (by decide)⟩
              simp [zf_42, hz, hc11, hc12, hc13]
          · skip
            refine zy_n 1 (mr := zm_m173) (pc' := 31) (ls' := [(0, .ref 0), (1, .int 1), (2, .int a2), (3, .int a3)]) (st' := [.int (-3)]) rfl rfl ?_
            refine zy_r (mr := zm_m173) rfl rfl rfl ?_
            refine ⟨⟨_, rfl, ?_⟩, fun k hk1 hk2 => rfl, Nat.le_trans (Nat.le_of_eq (zp_len F).1) (by decide), Nat.le_trans (Nat.le_of_eq (zp_len F).2) (by decide)⟩
            simp [zf_42, hz, hc11, hc12, hc13]
        · skip
          refine zy_n 1 (mr := zm_m173) (pc' := 24) (ls' := [(0, .ref 0), (1, .int 1), (2, .int a2), (3, .int a3)]) (st' := [.int (-2)]) rfl rfl ?_
          refine zy_r (mr := zm_m173) rfl rfl rfl ?_
          refine ⟨⟨_, rfl, ?_⟩, fun k hk1 hk2 => rfl, Nat.le_trans (Nat.le_of_eq (zp_len F).1) (by decide), Nat.le_trans (Nat.le_of_eq (zp_len F).2) (by decide)⟩
          simp [zf_42, hz, hc11, hc12]
      · skip
        refine zy_b (q := (22, [])) (mr := zm_m173) rfl rfl rfl ?_
        refine zy_n 1 (mr := zm_m173) (pc' := 24) (ls' := [(0, .ref 0), (1, .int 1), (2, .int a2), (3, .int a3)]) (st' := [.int (-2)]) rfl rfl ?_
        refine zy_r (mr := zm_m173) rfl rfl rfl ?_
        refine ⟨⟨_, rfl, ?_⟩, fun k hk1 hk2 => rfl, Nat.le_trans (Nat.le_of_eq (zp_len F).1) (by decide), Nat.le_trans (Nat.le_of_eq (zp_len F).2) (by decide)⟩
        simp [zf_42, hz, hc11]
    · skip
      refine zy_n 1 (mr := zm_m173) (pc' := 1) (ls' := [(0, .ref 0), (1, .int 2), (2, .int a2), (3, .int a3)]) (st' := [.int 2]) rfl rfl ?_
      refine zy_c (mc := zm_m19) (mr := zm_m173) rfl rfl rfl rfl rfl ?_
      refine zy_n 3 (mr := zm_m19) (pc' := 3) (ls' := [(0, .int 2)]) (st' := [.int 3, .int 0, .int 2]) rfl rfl ?_
      refine zy_c (mc := zm_m10) (mr := zm_m19) rfl rfl rfl rfl rfl (zm_Y.mono (zk_within 2 0 3) ?_)
      rintro r h1 ⟨rfl, ⟨rfl, hc19⟩ | ⟨rfl, hc19⟩⟩
      rotate_left
      · exact absurd hz hc19
      refine zy_r (mr := zm_m19) rfl rfl rfl ?_
      refine zy_b (q := (7, [])) (mr := zm_m173) rfl rfl rfl ?_
      refine zy_n 3 (mr := zm_m173) (pc' := 10) (ls' := [(0, .ref 0), (1, .int 2), (2, .int a2), (3, .int a3)]) (st' := [.int 3, .int 0, .int a2]) rfl rfl ?_
      refine zy_c (mc := zm_m10) (mr := zm_m173) rfl rfl rfl rfl rfl (zm_Y.mono (zk_within a2 0 3) ?_)
      rintro r h1 ⟨rfl, ⟨rfl, hc20⟩ | ⟨rfl, hc20⟩⟩
      · skip
        refine zy_b (q := (16, [])) (mr := zm_m173) rfl rfl rfl ?_
        refine zy_n 2 (mr := zm_m173) (pc' := 19) (ls' := [(0, .ref 0), (1, .int 2), (2, .int a2), (3, .int a3)]) (st' := [.int 60, .int a3]) rfl rfl ?_
        refine zy_b (mr := zm_m173) rfl rfl rfl (zc_le (fun hc21 => ?_) (fun hc21 => ?_))
        · skip
          refine zy_n 1 (mr := zm_m173) (pc' := 26) (ls' := [(0, .ref 0), (1, .int 2), (2, .int a2), (3, .int a3)]) (st' := [.int a3]) rfl rfl ?_
          refine zy_b (mr := zm_m173) rfl rfl rfl (zi_ge (fun hc22 => ?_) (fun hc22 => ?_))
          · skip
            refine zy_n 1 (mr := zm_m173) (pc' := 33) (ls' := [(0, .ref 0), (1, .int 2), (2, .int a2), (3, .int a3)]) (st' := [.ref 0]) rfl rfl ?_
            refine zy_h (mr := zm_m173) rfl rfl (zh_get (v := .ref 45) (zp_o F 0 rfl) rfl) ?_
            refine zy_n 3 (mr := zm_m173) (pc' := 39) (ls' := [(0, .ref 0), (1, .int 2), (2, .int a2), (3, .int a3)]) (st' := [.int a3, .int a2, .int 2, .ref 45]) rfl rfl ?_
            refine zy_c (mc := zm_m174) (mr := zm_m173) rfl rfl (zh_v rfl (zp_o F 9 rfl) rfl) rfl rfl ?_
            refine zy_n 1 (mr := zm_m174) (pc' := 1) (ls' := [(0, .ref 45), (1, .int 2), (2, .int a2), (3, .int a3)]) (st' := [.ref 45]) rfl rfl ?_
            refine zy_h (mr := zm_m174) rfl rfl (zh_get (v := .ref 51) (zp_o F 9 rfl) rfl) ?_
            refine zy_n 2 (mr := zm_m174) (pc' := 6) (ls' := [(0, .ref 45), (1, .int 2), (2, .int a2), (3, .int a3)]) (st' := [.int a2, .int 2, .ref 51]) rfl rfl ?_
            refine zy_hS (x := _) (mr := zm_m174) rfl rfl (zh_iast (zp_i F 30 rfl) (by decide)) (fun he23 e23 => ?_)
            refine zy_n 1 (mr := zm_m174) (pc' := 8) (ls' := [(0, .ref 45), (1, .int 2), (2, .int a2), (3, .int a3)]) (st' := [.ref 45]) rfl rfl ?_
            refine zy_h (mr := zm_m174) rfl rfl (zh_get (v := .ref 52) (zs_neE e23 (zp_o F 9 rfl) (by decide)) rfl) ?_
            refine zy_n 2 (mr := zm_m174) (pc' := 13) (ls' := [(0, .ref 45), (1, .int 2), (2, .int a2), (3, .int a3)]) (st' := [.int a3, .int 2, .ref 52]) rfl rfl ?_
            as_aux_lemma =>
              refine zy_hS (x := _) (mr := zm_m174) rfl rfl (zh_iast (zs_neE e23 (zp_i F 31 rfl) (by decide)) (by decide)) (fun he24 e24 => ?_)
              refine zy_n 1 (mr := zm_m174) (pc' := 15) (ls' := [(0, .ref 45), (1, .int 2), (2, .int a2), (3, .int a3)]) (st' := [.ref 45]) rfl rfl ?_
              refine zy_h (mr := zm_m174) rfl rfl (zh_get (v := .ref 46) (zs_neE e24 (zs_neE e23 (zp_o F 9 rfl) (by decide)) (by decide)) rfl) ?_
              refine zy_n 1 (mr := zm_m174) (pc' := 19) (ls' := [(0, .ref 45), (1, .int 2), (2, .int a2), (3, .int a3)]) (st' := [.int 2, .ref 46]) rfl rfl ?_
              refine zy_h (q := (.ref 49 :: [], _)) (mr := zm_m174) rfl rfl (zh_aald (v := some 49) (zs_neE e24 (zs_neE e23 (zp_r F 2 rfl) (by decide)) (by decide)) rfl (by decide) (zp_rv F 2 rfl rfl)) ?_
              refine zy_n 1 (mr := zm_m174) (pc' := 21) (ls' := [(0, .ref 45), (1, .int 2), (2, .int a2), (3, .int a3)]) (st' := [.long 0, .ref 49]) rfl rfl ?_
              refine zy_c (mc := zm_m78) (mr := zm_m174) rfl rfl rfl rfl rfl (zm_Y.mono (zk_filll 0 (zs_neE e24 (zs_neE e23 (zp_l F 6 rfl) (by decide)) (by decide)) (by decide)) ?_)
              rintro r he27 ⟨rfl, g25, e27, hg26⟩
              refine zy_r (mr := zm_m174) rfl rfl rfl ?_
              refine zy_n 1 (mr := zm_m173) (pc' := 43) (ls' := [(0, .ref 0), (1, .int 2), (2, .int a2), (3, .int a3)]) (st' := [.int 0]) rfl rfl ?_
              refine zy_r (mr := zm_m173) rfl rfl rfl ?_
              refine ⟨⟨_, rfl, ?_⟩, fun k hk1 hk2 => ((zs_kE e27 (by omega)).trans ((zs_kE e24 (by omega)).trans ((zs_kE e23 (by omega)).trans rfl))), Nat.le_trans (Nat.le_of_eq (zs_lsetE e27 (zs_lsetE e24 (zs_lsetE e23 (zp_len F).1)))) (by decide), Nat.le_trans (Nat.le_of_eq (zs_szsetE (w := 60) e27 (zs_neE e24 (zs_neE e23 (zp_l F 6 rfl) (by decide)) (by decide)) rfl rfl (zs_szsetE (w := 4) e24 (zs_neE e23 (zp_i F 31 rfl) (by decide)) rfl rfl (zs_szsetE (w := 4) e23 (zp_i F 30 rfl) rfl rfl (zp_len F).2)))) (by decide)⟩
              simp [zf_42, hz, hc20, hc21, hc22]
          · skip
            refine zy_n 1 (mr := zm_m173) (pc' := 31) (ls' := [(0, .ref 0), (1, .int 2), (2, .int a2), (3, .int a3)]) (st' := [.int (-3)]) rfl rfl ?_
            refine zy_r (mr := zm_m173) rfl rfl rfl ?_
            refine ⟨⟨_, rfl, ?_⟩, fun k hk1 hk2 => rfl, Nat.le_trans (Nat.le_of_eq (zp_len F).1) (by decide), Nat.le_trans (Nat.le_of_eq (zp_len F).2) (by decide)⟩
            simp [zf_42, hz, hc20, hc21, hc22]
        · skip
          refine zy_n 1 (mr := zm_m173) (pc' := 24) (ls' := [(0, .ref 0), (1, .int 2), (2, .int a2), (3, .int a3)]) (st' := [.int (-2)]) rfl rfl ?_
          refine zy_r (mr := zm_m173) rfl rfl rfl ?_
          refine ⟨⟨_, rfl, ?_⟩, fun k hk1 hk2 => rfl, Nat.le_trans (Nat.le_of_eq (zp_len F).1) (by decide), Nat.le_trans (Nat.le_of_eq (zp_len F).2) (by decide)⟩
          simp [zf_42, hz, hc20, hc21]
      · skip
        refine zy_b (q := (22, [])) (mr := zm_m173) rfl rfl rfl ?_
        refine zy_n 1 (mr := zm_m173) (pc' := 24) (ls' := [(0, .ref 0), (1, .int 2), (2, .int a2), (3, .int a3)]) (st' := [.int (-2)]) rfl rfl ?_
        refine zy_r (mr := zm_m173) rfl rfl rfl ?_
        refine ⟨⟨_, rfl, ?_⟩, fun k hk1 hk2 => rfl, Nat.le_trans (Nat.le_of_eq (zp_len F).1) (by decide), Nat.le_trans (Nat.le_of_eq (zp_len F).2) (by decide)⟩
        simp [zf_42, hz, hc20]
    · skip
      refine zy_n 1 (mr := zm_m173) (pc' := 1) (ls' := [(0, .ref 0), (1, .int 3), (2, .int a2), (3, .int a3)]) (st' := [.int 3]) rfl rfl ?_
      refine zy_c (mc := zm_m19) (mr := zm_m173) rfl rfl rfl rfl rfl ?_
      refine zy_n 3 (mr := zm_m19) (pc' := 3) (ls' := [(0, .int 3)]) (st' := [.int 3, .int 0, .int 3]) rfl rfl ?_
      refine zy_c (mc := zm_m10) (mr := zm_m19) rfl rfl rfl rfl rfl (zm_Y.mono (zk_within 3 0 3) ?_)
      rintro r h1 ⟨rfl, ⟨rfl, hc28⟩ | ⟨rfl, hc28⟩⟩
      rotate_left
      · exact absurd hz hc28
      refine zy_r (mr := zm_m19) rfl rfl rfl ?_
      refine zy_b (q := (7, [])) (mr := zm_m173) rfl rfl rfl ?_
      refine zy_n 3 (mr := zm_m173) (pc' := 10) (ls' := [(0, .ref 0), (1, .int 3), (2, .int a2), (3, .int a3)]) (st' := [.int 3, .int 0, .int a2]) rfl rfl ?_
      refine zy_c (mc := zm_m10) (mr := zm_m173) rfl rfl rfl rfl rfl (zm_Y.mono (zk_within a2 0 3) ?_)
      rintro r h1 ⟨rfl, ⟨rfl, hc29⟩ | ⟨rfl, hc29⟩⟩
      · skip
        refine zy_b (q := (16, [])) (mr := zm_m173) rfl rfl rfl ?_
        refine zy_n 2 (mr := zm_m173) (pc' := 19) (ls' := [(0, .ref 0), (1, .int 3), (2, .int a2), (3, .int a3)]) (st' := [.int 60, .int a3]) rfl rfl ?_
        refine zy_b (mr := zm_m173) rfl rfl rfl (zc_le (fun hc30 => ?_) (fun hc30 => ?_))
        · skip
          refine zy_n 1 (mr := zm_m173) (pc' := 26) (ls' := [(0, .ref 0), (1, .int 3), (2, .int a2), (3, .int a3)]) (st' := [.int a3]) rfl rfl ?_
          refine zy_b (mr := zm_m173) rfl rfl rfl (zi_ge (fun hc31 => ?_) (fun hc31 => ?_))
          · skip
            refine zy_n 1 (mr := zm_m173) (pc' := 33) (ls' := [(0, .ref 0), (1, .int 3), (2, .int a2), (3, .int a3)]) (st' := [.ref 0]) rfl rfl ?_
            as_aux_lemma =>
              refine zy_h (mr := zm_m173) rfl rfl (zh_get (v := .ref 45) (zp_o F 0 rfl) rfl) ?_
              refine zy_n 3 (mr := zm_m173) (pc' := 39) (ls' := [(0, .ref 0), (1, .int 3), (2, .int a2), (3, .int a3)]) (st' := [.int a3, .int a2, .int 3, .ref 45]) rfl rfl ?_
              refine zy_c (mc := zm_m174) (mr := zm_m173) rfl rfl (zh_v rfl (zp_o F 9 rfl) rfl) rfl rfl ?_
              refine zy_n 1 (mr := zm_m174) (pc' := 1) (ls' := [(0, .ref 45), (1, .int 3), (2, .int a2), (3, .int a3)]) (st' := [.ref 45]) rfl rfl ?_
              refine zy_h (mr := zm_m174) rfl rfl (zh_get (v := .ref 51) (zp_o F 9 rfl) rfl) ?_
              refine zy_n 2 (mr := zm_m174) (pc' := 6) (ls' := [(0, .ref 45), (1, .int 3), (2, .int a2), (3, .int a3)]) (st' := [.int a2, .int 3, .ref 51]) rfl rfl ?_
              refine zy_hS (x := _) (mr := zm_m174) rfl rfl (zh_iast (zp_i F 30 rfl) (by decide)) (fun he32 e32 => ?_)
              refine zy_n 1 (mr := zm_m174) (pc' := 8) (ls' := [(0, .ref 45), (1, .int 3), (2, .int a2), (3, .int a3)]) (st' := [.ref 45]) rfl rfl ?_
              refine zy_h (mr := zm_m174) rfl rfl (zh_get (v := .ref 52) (zs_neE e32 (zp_o F 9 rfl) (by decide)) rfl) ?_
              refine zy_n 2 (mr := zm_m174) (pc' := 13) (ls' := [(0, .ref 45), (1, .int 3), (2, .int a2), (3, .int a3)]) (st' := [.int a3, .int 3, .ref 52]) rfl rfl ?_
              refine zy_hS (x := _) (mr := zm_m174) rfl rfl (zh_iast (zs_neE e32 (zp_i F 31 rfl) (by decide)) (by decide)) (fun he33 e33 => ?_)
              refine zy_n 1 (mr := zm_m174) (pc' := 15) (ls' := [(0, .ref 45), (1, .int 3), (2, .int a2), (3, .int a3)]) (st' := [.ref 45]) rfl rfl ?_
              refine zy_h (mr := zm_m174) rfl rfl (zh_get (v := .ref 46) (zs_neE e33 (zs_neE e32 (zp_o F 9 rfl) (by decide)) (by decide)) rfl) ?_
              refine zy_n 1 (mr := zm_m174) (pc' := 19) (ls' := [(0, .ref 45), (1, .int 3), (2, .int a2), (3, .int a3)]) (st' := [.int 3, .ref 46]) rfl rfl ?_
              refine zy_h (q := (.ref 50 :: [], _)) (mr := zm_m174) rfl rfl (zh_aald (v := some 50) (zs_neE e33 (zs_neE e32 (zp_r F 2 rfl) (by decide)) (by decide)) rfl (by decide) (zp_rv F 2 rfl rfl)) ?_
              refine zy_n 1 (mr := zm_m174) (pc' := 21) (ls' := [(0, .ref 45), (1, .int 3), (2, .int a2), (3, .int a3)]) (st' := [.long 0, .ref 50]) rfl rfl ?_
              refine zy_c (mc := zm_m78) (mr := zm_m174) rfl rfl rfl rfl rfl (zm_Y.mono (zk_filll 0 (zs_neE e33 (zs_neE e32 (zp_l F 7 rfl) (by decide)) (by decide)) (by decide)) ?_)
              rintro r he36 ⟨rfl, g34, e36, hg35⟩
              refine zy_r (mr := zm_m174) rfl rfl rfl ?_
              refine zy_n 1 (mr := zm_m173) (pc' := 43) (ls' := [(0, .ref 0), (1, .int 3), (2, .int a2), (3, .int a3)]) (st' := [.int 0]) rfl rfl ?_
              refine zy_r (mr := zm_m173) rfl rfl rfl ?_
              refine ⟨⟨_, rfl, ?_⟩, fun k hk1 hk2 => ((zs_kE e36 (by omega)).trans ((zs_kE e33 (by omega)).trans ((zs_kE e32 (by omega)).trans rfl))), Nat.le_trans (Nat.le_of_eq (zs_lsetE e36 (zs_lsetE e33 (zs_lsetE e32 (zp_len F).1)))) (by decide), Nat.le_trans (Nat.le_of_eq (zs_szsetE (w := 60) e36 (zs_neE e33 (zs_neE e32 (zp_l F 7 rfl) (by decide)) (by decide)) rfl rfl (zs_szsetE (w := 4) e33 (zs_neE e32 (zp_i F 31 rfl) (by decide)) rfl rfl (zs_szsetE (w := 4) e32 (zp_i F 30 rfl) rfl rfl (zp_len F).2)))) (by decide)⟩
              simp [zf_42, hz, hc29, hc30, hc31]
          · skip
            refine zy_n 1 (mr := zm_m173) (pc' := 31) (ls' := [(0, .ref 0), (1, .int 3), (2, .int a2), (3, .int a3)]) (st' := [.int (-3)]) rfl rfl ?_
            refine zy_r (mr := zm_m173) rfl rfl rfl ?_
            refine ⟨⟨_, rfl, ?_⟩, fun k hk1 hk2 => rfl, Nat.le_trans (Nat.le_of_eq (zp_len F).1) (by decide), Nat.le_trans (Nat.le_of_eq (zp_len F).2) (by decide)⟩
            simp [zf_42, hz, hc29, hc30, hc31]
        · skip
          refine zy_n 1 (mr := zm_m173) (pc' := 24) (ls' := [(0, .ref 0), (1, .int 3), (2, .int a2), (3, .int a3)]) (st' := [.int (-2)]) rfl rfl ?_
          refine zy_r (mr := zm_m173) rfl rfl rfl ?_
          refine ⟨⟨_, rfl, ?_⟩, fun k hk1 hk2 => rfl, Nat.le_trans (Nat.le_of_eq (zp_len F).1) (by decide), Nat.le_trans (Nat.le_of_eq (zp_len F).2) (by decide)⟩
          simp [zf_42, hz, hc29, hc30]
      · skip
        refine zy_b (q := (22, [])) (mr := zm_m173) rfl rfl rfl ?_
        refine zy_n 1 (mr := zm_m173) (pc' := 24) (ls' := [(0, .ref 0), (1, .int 3), (2, .int a2), (3, .int a3)]) (st' := [.int (-2)]) rfl rfl ?_
        refine zy_r (mr := zm_m173) rfl rfl rfl ?_
        refine ⟨⟨_, rfl, ?_⟩, fun k hk1 hk2 => rfl, Nat.le_trans (Nat.le_of_eq (zp_len F).1) (by decide), Nat.le_trans (Nat.le_of_eq (zp_len F).2) (by decide)⟩
        simp [zf_42, hz, hc29]
  · skip
    refine zy_n 1 (mr := zm_m173) (pc' := 1) (ls' := [(0, .ref 0), (1, .int a1), (2, .int a2), (3, .int a3)]) (st' := [.int a1]) rfl rfl ?_
    refine zy_c (mc := zm_m19) (mr := zm_m173) rfl rfl rfl rfl rfl ?_
    refine zy_n 3 (mr := zm_m19) (pc' := 3) (ls' := [(0, .int a1)]) (st' := [.int 3, .int 0, .int a1]) rfl rfl ?_
    refine zy_c (mc := zm_m10) (mr := zm_m19) rfl rfl rfl rfl rfl (zm_Y.mono (zk_within a1 0 3) ?_)
    rintro r h1 ⟨rfl, ⟨rfl, hc37⟩ | ⟨rfl, hc37⟩⟩
    · exact absurd hc37 hz
    refine zy_r (mr := zm_m19) rfl rfl rfl ?_
    refine zy_b (q := (22, [])) (mr := zm_m173) rfl rfl rfl ?_
    refine zy_n 1 (mr := zm_m173) (pc' := 24) (ls' := [(0, .ref 0), (1, .int a1), (2, .int a2), (3, .int a3)]) (st' := [.int (-2)]) rfl rfl ?_
    refine zy_r (mr := zm_m173) rfl rfl rfl ?_
    refine ⟨⟨_, rfl, ?_⟩, fun k hk1 hk2 => rfl, Nat.le_trans (Nat.le_of_eq (zp_len F).1) (by decide), Nat.le_trans (Nat.le_of_eq (zp_len F).2) (by decide)⟩
    simp [zf_42, hz]
set_option maxHeartbeats 4000000 in
set_option maxRecDepth 20000 in
theorem zx_43 {og : Nat → Option zm_C} {h : zm_H} (F : zp_ck h = true) (a1 : Int32) : zm_Y og 30 175 0 [(0, .ref 0), (1, .int a1)] [] h (fun r h1 => (∃ v, r = some (.int v) ∧ zf_43 a1 v) ∧ (∀ k : Nat, 55 ≤ k → k < 117 → h1[k]? = h[k]?) ∧ h1.length ≤ 200 ∧ zm_szs h1 ≤ 90000) := by
  refine zy_n 1 (mr := zm_m175) (pc' := 1) (ls' := [(0, .ref 0), (1, .int a1)]) (st' := [.int a1]) rfl rfl ?_
  refine zy_c (mc := zm_m19) (mr := zm_m175) rfl rfl rfl rfl rfl ?_
  refine zy_n 3 (mr := zm_m19) (pc' := 3) (ls' := [(0, .int a1)]) (st' := [.int 3, .int 0, .int a1]) rfl rfl ?_
  refine zy_c (mc := zm_m10) (mr := zm_m19) rfl rfl rfl rfl rfl (zm_Y.mono (zk_within a1 0 3) ?_)
  rintro r h1 ⟨rfl, ⟨rfl, hc1⟩ | ⟨rfl, hc1⟩⟩
  · skip
    refine zy_r (mr := zm_m19) rfl rfl rfl ?_
    refine zy_b (q := (7, [])) (mr := zm_m175) rfl rfl rfl ?_
    refine zy_n 1 (mr := zm_m175) (pc' := 8) (ls' := [(0, .ref 0), (1, .int a1)]) (st' := [.ref 0]) rfl rfl ?_
    refine zy_h (mr := zm_m175) rfl rfl (zh_get (v := .ref 45) (zp_o F 0 rfl) rfl) ?_
    refine zy_n 1 (mr := zm_m175) (pc' := 12) (ls' := [(0, .ref 0), (1, .int a1)]) (st' := [.int a1, .ref 45]) rfl rfl ?_
    refine zy_c (mc := zm_m20) (mr := zm_m175) rfl rfl (zh_v rfl (zp_o F 9 rfl) rfl) rfl rfl ?_
    refine zy_n 1 (mr := zm_m20) (pc' := 1) (ls' := [(0, .ref 45), (1, .int a1)]) (st' := [.ref 45]) rfl rfl ?_
    refine zy_h (mr := zm_m20) rfl rfl (zh_get (v := .ref 51) (zp_o F 9 rfl) rfl) ?_
    refine zy_n 1 (mr := zm_m20) (pc' := 5) (ls' := [(0, .ref 45), (1, .int a1)]) (st' := [.int a1, .ref 51]) rfl rfl ?_
    refine zy_h (mr := zm_m20) rfl rfl (zh_iald (v := (-1)) (zp_i F 30 rfl) (zl_in hc1 (by decide) (by decide)) (zp_iall F 30 rfl (v := (-1)) (by decide) (by decide) (zl_lt hc1 (by decide) (by decide)))) ?_
    refine zy_n 1 (mr := zm_m20) (pc' := 7) (ls' := [(0, .ref 45), (1, .int a1)]) (st' := [.int (-1), .int (-1)]) rfl rfl ?_
    refine zy_b (q := (14, [])) (mr := zm_m20) rfl rfl rfl ?_
    refine zy_n 1 (mr := zm_m20) (pc' := 15) (ls' := [(0, .ref 45), (1, .int a1)]) (st' := [.int 0]) rfl rfl ?_
    refine zy_r (mr := zm_m20) rfl rfl rfl ?_
    refine zy_b (q := (18, [])) (mr := zm_m175) rfl rfl rfl ?_
    refine zy_n 1 (mr := zm_m175) (pc' := 19) (ls' := [(0, .ref 0), (1, .int a1)]) (st' := [.int 0]) rfl rfl ?_
    refine zy_r (mr := zm_m175) rfl rfl rfl ?_
    refine ⟨⟨_, rfl, ?_⟩, fun k hk1 hk2 => rfl, Nat.le_trans (Nat.le_of_eq (zp_len F).1) (by decide), Nat.le_trans (Nat.le_of_eq (zp_len F).2) (by decide)⟩
    simp [zf_43, hc1]
  · skip
    refine zy_r (mr := zm_m19) rfl rfl rfl ?_
    refine zy_b (q := (18, [])) (mr := zm_m175) rfl rfl rfl ?_
    refine zy_n 1 (mr := zm_m175) (pc' := 19) (ls' := [(0, .ref 0), (1, .int a1)]) (st' := [.int 0]) rfl rfl ?_
    refine zy_r (mr := zm_m175) rfl rfl rfl ?_
    refine ⟨⟨_, rfl, ?_⟩, fun k hk1 hk2 => rfl, Nat.le_trans (Nat.le_of_eq (zp_len F).1) (by decide), Nat.le_trans (Nat.le_of_eq (zp_len F).2) (by decide)⟩
    simp [zf_43, hc1]
set_option maxHeartbeats 4000000 in
set_option maxRecDepth 20000 in
theorem zx_44 {og : Nat → Option zm_C} {h : zm_H} (F : zp_ck h = true) (a1 : Int32) (a2 : Int32) (a3 : Int64) : zm_Y og 30 176 0 [(0, .ref 0), (1, .int a1), (2, .int a2), (3, .long a3)] [] h (fun r h1 => (∃ v, r = some (.int v) ∧ zf_44 a1 a2 a3 v) ∧ (∀ k : Nat, 55 ≤ k → k < 117 → h1[k]? = h[k]?) ∧ h1.length ≤ 200 ∧ zm_szs h1 ≤ 90000) := by
  refine zy_n 1 (mr := zm_m176) (pc' := 1) (ls' := [(0, .ref 0), (1, .int a1), (2, .int a2), (3, .long a3)]) (st' := [.int a1]) rfl rfl ?_
  refine zy_c (mc := zm_m19) (mr := zm_m176) rfl rfl rfl rfl rfl ?_
  refine zy_n 3 (mr := zm_m19) (pc' := 3) (ls' := [(0, .int a1)]) (st' := [.int 3, .int 0, .int a1]) rfl rfl ?_
  refine zy_c (mc := zm_m10) (mr := zm_m19) rfl rfl rfl rfl rfl (zm_Y.mono (zk_within a1 0 3) ?_)
  rintro r h1 ⟨rfl, ⟨rfl, hc1⟩ | ⟨rfl, hc1⟩⟩
  · skip
    refine zy_r (mr := zm_m19) rfl rfl rfl ?_
    refine zy_b (q := (10, [])) (mr := zm_m176) rfl rfl rfl ?_
    refine zy_n 1 (mr := zm_m176) (pc' := 11) (ls' := [(0, .ref 0), (1, .int a1), (2, .int a2), (3, .long a3)]) (st' := [.ref 0]) rfl rfl ?_
    refine zy_h (mr := zm_m176) rfl rfl (zh_get (v := .ref 45) (zp_o F 0 rfl) rfl) ?_
    refine zy_n 1 (mr := zm_m176) (pc' := 15) (ls' := [(0, .ref 0), (1, .int a1), (2, .int a2), (3, .long a3)]) (st' := [.int a1, .ref 45]) rfl rfl ?_
    refine zy_c (mc := zm_m20) (mr := zm_m176) rfl rfl (zh_v rfl (zp_o F 9 rfl) rfl) rfl rfl ?_
    refine zy_n 1 (mr := zm_m20) (pc' := 1) (ls' := [(0, .ref 45), (1, .int a1)]) (st' := [.ref 45]) rfl rfl ?_
    refine zy_h (mr := zm_m20) rfl rfl (zh_get (v := .ref 51) (zp_o F 9 rfl) rfl) ?_
    refine zy_n 1 (mr := zm_m20) (pc' := 5) (ls' := [(0, .ref 45), (1, .int a1)]) (st' := [.int a1, .ref 51]) rfl rfl ?_
    refine zy_h (mr := zm_m20) rfl rfl (zh_iald (v := (-1)) (zp_i F 30 rfl) (zl_in hc1 (by decide) (by decide)) (zp_iall F 30 rfl (v := (-1)) (by decide) (by decide) (zl_lt hc1 (by decide) (by decide)))) ?_
    refine zy_n 1 (mr := zm_m20) (pc' := 7) (ls' := [(0, .ref 45), (1, .int a1)]) (st' := [.int (-1), .int (-1)]) rfl rfl ?_
    refine zy_b (q := (14, [])) (mr := zm_m20) rfl rfl rfl ?_
    refine zy_n 1 (mr := zm_m20) (pc' := 15) (ls' := [(0, .ref 45), (1, .int a1)]) (st' := [.int 0]) rfl rfl ?_
    refine zy_r (mr := zm_m20) rfl rfl rfl ?_
    refine zy_b (q := (21, [])) (mr := zm_m176) rfl rfl rfl ?_
    refine zy_n 1 (mr := zm_m176) (pc' := 23) (ls' := [(0, .ref 0), (1, .int a1), (2, .int a2), (3, .long a3)]) (st' := [.int (-5)]) rfl rfl ?_
    refine zy_r (mr := zm_m176) rfl rfl rfl ?_
    refine ⟨⟨_, rfl, ?_⟩, fun k hk1 hk2 => rfl, Nat.le_trans (Nat.le_of_eq (zp_len F).1) (by decide), Nat.le_trans (Nat.le_of_eq (zp_len F).2) (by decide)⟩
    simp [zf_44, hc1]
  · skip
    refine zy_r (mr := zm_m19) rfl rfl rfl ?_
    refine zy_b (q := (7, [])) (mr := zm_m176) rfl rfl rfl ?_
    refine zy_n 1 (mr := zm_m176) (pc' := 9) (ls' := [(0, .ref 0), (1, .int a1), (2, .int a2), (3, .long a3)]) (st' := [.int (-2)]) rfl rfl ?_
    refine zy_r (mr := zm_m176) rfl rfl rfl ?_
    refine ⟨⟨_, rfl, ?_⟩, fun k hk1 hk2 => rfl, Nat.le_trans (Nat.le_of_eq (zp_len F).1) (by decide), Nat.le_trans (Nat.le_of_eq (zp_len F).2) (by decide)⟩
    simp [zf_44, hc1]
set_option maxHeartbeats 4000000 in
set_option maxRecDepth 20000 in
theorem zx_45 {og : Nat → Option zm_C} {h : zm_H} (F : zp_ck h = true) (a1 : Int32) (a2 : Int32) (a3 : Int32) (a4 : Int32) (a5 : Int32) : zm_Y og 30 178 0 [(0, .ref 0), (1, .int a1), (2, .int a2), (3, .int a3), (4, .int a4), (5, .int a5)] [] h (fun r h1 => (∃ v, r = some (.int v) ∧ zf_45 a1 a2 a3 a4 a5 v) ∧ (∀ k : Nat, 55 ≤ k → k < 117 → h1[k]? = h[k]?) ∧ h1.length ≤ 200 ∧ zm_szs h1 ≤ 90000) := by
  refine zy_n 1 (mr := zm_m178) (pc' := 1) (ls' := [(0, .ref 0), (1, .int a1), (2, .int a2), (3, .int a3), (4, .int a4), (5, .int a5)]) (st' := [.int a1]) rfl rfl ?_
  refine zy_c (mc := zm_m19) (mr := zm_m178) rfl rfl rfl rfl rfl ?_
  refine zy_n 3 (mr := zm_m19) (pc' := 3) (ls' := [(0, .int a1)]) (st' := [.int 3, .int 0, .int a1]) rfl rfl ?_
  refine zy_c (mc := zm_m10) (mr := zm_m19) rfl rfl rfl rfl rfl (zm_Y.mono (zk_within a1 0 3) ?_)
  rintro r h1 ⟨rfl, ⟨rfl, hc1⟩ | ⟨rfl, hc1⟩⟩
  · skip
    refine zy_r (mr := zm_m19) rfl rfl rfl ?_
    refine zy_b (q := (7, [])) (mr := zm_m178) rfl rfl rfl ?_
    refine zy_n 1 (mr := zm_m178) (pc' := 8) (ls' := [(0, .ref 0), (1, .int a1), (2, .int a2), (3, .int a3), (4, .int a4), (5, .int a5)]) (st' := [.int a3]) rfl rfl ?_
    refine zy_c (mc := zm_m19) (mr := zm_m178) rfl rfl rfl rfl rfl ?_
    refine zy_n 3 (mr := zm_m19) (pc' := 3) (ls' := [(0, .int a3)]) (st' := [.int 3, .int 0, .int a3]) rfl rfl ?_
    refine zy_c (mc := zm_m10) (mr := zm_m19) rfl rfl rfl rfl rfl (zm_Y.mono (zk_within a3 0 3) ?_)
    rintro r h1 ⟨rfl, ⟨rfl, hc2⟩ | ⟨rfl, hc2⟩⟩
    · skip
      refine zy_r (mr := zm_m19) rfl rfl rfl ?_
      refine zy_b (q := (17, [])) (mr := zm_m178) rfl rfl rfl ?_
      refine zy_n 1 (mr := zm_m178) (pc' := 18) (ls' := [(0, .ref 0), (1, .int a1), (2, .int a2), (3, .int a3), (4, .int a4), (5, .int a5)]) (st' := [.ref 0]) rfl rfl ?_
      refine zy_h (mr := zm_m178) rfl rfl (zh_get (v := .ref 45) (zp_o F 0 rfl) rfl) ?_
      refine zy_n 1 (mr := zm_m178) (pc' := 22) (ls' := [(0, .ref 0), (1, .int a1), (2, .int a2), (3, .int a3), (4, .int a4), (5, .int a5)]) (st' := [.int a1, .ref 45]) rfl rfl ?_
      refine zy_c (mc := zm_m20) (mr := zm_m178) rfl rfl (zh_v rfl (zp_o F 9 rfl) rfl) rfl rfl ?_
      refine zy_n 1 (mr := zm_m20) (pc' := 1) (ls' := [(0, .ref 45), (1, .int a1)]) (st' := [.ref 45]) rfl rfl ?_
      refine zy_h (mr := zm_m20) rfl rfl (zh_get (v := .ref 51) (zp_o F 9 rfl) rfl) ?_
      refine zy_n 1 (mr := zm_m20) (pc' := 5) (ls' := [(0, .ref 45), (1, .int a1)]) (st' := [.int a1, .ref 51]) rfl rfl ?_
      refine zy_h (mr := zm_m20) rfl rfl (zh_iald (v := (-1)) (zp_i F 30 rfl) (zl_in hc1 (by decide) (by decide)) (zp_iall F 30 rfl (v := (-1)) (by decide) (by decide) (zl_lt hc1 (by decide) (by decide)))) ?_
      refine zy_n 1 (mr := zm_m20) (pc' := 7) (ls' := [(0, .ref 45), (1, .int a1)]) (st' := [.int (-1), .int (-1)]) rfl rfl ?_
      refine zy_b (q := (14, [])) (mr := zm_m20) rfl rfl rfl ?_
      refine zy_n 1 (mr := zm_m20) (pc' := 15) (ls' := [(0, .ref 45), (1, .int a1)]) (st' := [.int 0]) rfl rfl ?_
      refine zy_r (mr := zm_m20) rfl rfl rfl ?_
      refine zy_b (q := (39, [])) (mr := zm_m178) rfl rfl rfl ?_
      refine zy_n 1 (mr := zm_m178) (pc' := 41) (ls' := [(0, .ref 0), (1, .int a1), (2, .int a2), (3, .int a3), (4, .int a4), (5, .int a5)]) (st' := [.int (-5)]) rfl rfl ?_
      refine zy_r (mr := zm_m178) rfl rfl rfl ?_
      refine ⟨⟨_, rfl, ?_⟩, fun k hk1 hk2 => rfl, Nat.le_trans (Nat.le_of_eq (zp_len F).1) (by decide), Nat.le_trans (Nat.le_of_eq (zp_len F).2) (by decide)⟩
      simp [zf_45, hc1, hc2]
    · skip
      refine zy_r (mr := zm_m19) rfl rfl rfl ?_
      refine zy_b (q := (14, [])) (mr := zm_m178) rfl rfl rfl ?_
      refine zy_n 1 (mr := zm_m178) (pc' := 16) (ls' := [(0, .ref 0), (1, .int a1), (2, .int a2), (3, .int a3), (4, .int a4), (5, .int a5)]) (st' := [.int (-2)]) rfl rfl ?_
      refine zy_r (mr := zm_m178) rfl rfl rfl ?_
      refine ⟨⟨_, rfl, ?_⟩, fun k hk1 hk2 => rfl, Nat.le_trans (Nat.le_of_eq (zp_len F).1) (by decide), Nat.le_trans (Nat.le_of_eq (zp_len F).2) (by decide)⟩
      simp [zf_45, hc1, hc2]
  · skip
    refine zy_r (mr := zm_m19) rfl rfl rfl ?_
    refine zy_b (q := (14, [])) (mr := zm_m178) rfl rfl rfl ?_
    refine zy_n 1 (mr := zm_m178) (pc' := 16) (ls' := [(0, .ref 0), (1, .int a1), (2, .int a2), (3, .int a3), (4, .int a4), (5, .int a5)]) (st' := [.int (-2)]) rfl rfl ?_
    refine zy_r (mr := zm_m178) rfl rfl rfl ?_
    refine ⟨⟨_, rfl, ?_⟩, fun k hk1 hk2 => rfl, Nat.le_trans (Nat.le_of_eq (zp_len F).1) (by decide), Nat.le_trans (Nat.le_of_eq (zp_len F).2) (by decide)⟩
    simp [zf_45, hc1]
