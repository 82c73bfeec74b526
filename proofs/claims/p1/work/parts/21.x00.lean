set_option maxHeartbeats 4000000 in
set_option maxRecDepth 20000 in
theorem zx_0 {og : Nat → Option zm_C} {h : zm_H} (F : zp_ck h = true) (a1 : Int32) (a2 : Int32) (a3 : Int32) : zm_Y og 30 9 0 [(0, .ref 0), (1, .int a1), (2, .int a2), (3, .int a3)] [] h (fun r h1 => (∃ v, r = some (.int v) ∧ zf_0 a1 a2 a3 v) ∧ (∀ k : Nat, 55 ≤ k → k < 117 → h1[k]? = h[k]?) ∧ h1.length ≤ 200 ∧ zm_szs h1 ≤ 90000) := by
  refine zy_n 3 (mr := zm_m9) (pc' := 3) (ls' := [(0, .ref 0), (1, .int a1), (2, .int a2), (3, .int a3)]) (st' := [.int 3, .int 0, .int a1]) rfl rfl ?_
  refine zy_c (mc := zm_m10) (mr := zm_m9) rfl rfl rfl rfl rfl (zm_Y.mono (zk_within a1 0 3) ?_)
  rintro r h1 ⟨rfl, ⟨rfl, hc1⟩ | ⟨rfl, hc1⟩⟩
  · skip
    refine zy_b (q := (9, [])) (mr := zm_m9) rfl rfl rfl ?_
    refine zy_n 3 (mr := zm_m9) (pc' := 13) (ls' := [(0, .ref 0), (1, .int a1), (2, .int a2), (3, .int a3)]) (st' := [.int 50, .int 0, .int a2]) rfl rfl ?_
    refine zy_c (mc := zm_m10) (mr := zm_m9) rfl rfl rfl rfl rfl (zm_Y.mono (zk_within a2 0 50) ?_)
    rintro r h1 ⟨rfl, ⟨rfl, hc2⟩ | ⟨rfl, hc2⟩⟩
    · skip
      refine zy_b (q := (19, [])) (mr := zm_m9) rfl rfl rfl ?_
      refine zy_n 3 (mr := zm_m9) (pc' := 24) (ls' := [(0, .ref 0), (1, .int a1), (2, .int a2), (3, .int a3)]) (st' := [.int 200, .int 0, .int a3]) rfl rfl ?_
      refine zy_c (mc := zm_m10) (mr := zm_m9) rfl rfl rfl rfl rfl (zm_Y.mono (zk_within a3 0 200) ?_)
      rintro r h1 ⟨rfl, ⟨rfl, hc3⟩ | ⟨rfl, hc3⟩⟩
      · skip
        refine zy_b (q := (33, [])) (mr := zm_m9) rfl rfl rfl ?_
        refine zy_n 1 (mr := zm_m9) (pc' := 34) (ls' := [(0, .ref 0), (1, .int a1), (2, .int a2), (3, .int a3)]) (st' := [.ref 0]) rfl rfl ?_
        refine zy_h (mr := zm_m9) rfl rfl (zh_get (v := .ref 36) (zp_o F 0 rfl) rfl) ?_
        refine zy_h (mr := zm_m9) rfl rfl (zh_get (v := .ref 37) (zp_o F 7 rfl) rfl) ?_
        refine zy_n 2 (mr := zm_m9) (pc' := 42) (ls' := [(0, .ref 0), (1, .int a1), (2, .int a2), (3, .int a3)]) (st' := [.int a2, .int a1, .ref 37]) rfl rfl ?_
        refine zy_hS (x := _) (mr := zm_m9) rfl rfl (zh_iast (zp_i F 25 rfl) (zl_in hc1 (by decide) (by decide))) (fun he4 e4 => ?_)
        refine zy_n 1 (mr := zm_m9) (pc' := 44) (ls' := [(0, .ref 0), (1, .int a1), (2, .int a2), (3, .int a3)]) (st' := [.ref 0]) rfl rfl ?_
        refine zy_h (mr := zm_m9) rfl rfl (zh_get (v := .ref 36) (zs_neE e4 (zp_o F 0 rfl) (by decide)) rfl) ?_
        refine zy_h (mr := zm_m9) rfl rfl (zh_get (v := .ref 38) (zs_neE e4 (zp_o F 7 rfl) (by decide)) rfl) ?_
        refine zy_n 2 (mr := zm_m9) (pc' := 52) (ls' := [(0, .ref 0), (1, .int a1), (2, .int a2), (3, .int a3)]) (st' := [.int a3, .int a1, .ref 38]) rfl rfl ?_
        refine zy_hS (x := _) (mr := zm_m9) rfl rfl (zh_iast (zs_neE e4 (zp_i F 26 rfl) (by decide)) (zl_in hc1 (by decide) (by decide))) (fun he5 e5 => ?_)
        refine zy_n 1 (mr := zm_m9) (pc' := 54) (ls' := [(0, .ref 0), (1, .int a1), (2, .int a2), (3, .int a3)]) (st' := [.ref 0]) rfl rfl ?_
        refine zy_h (mr := zm_m9) rfl rfl (zh_get (v := .ref 36) (zs_neE e5 (zs_neE e4 (zp_o F 0 rfl) (by decide)) (by decide)) rfl) ?_
        refine zy_n 1 (mr := zm_m9) (pc' := 58) (ls' := [(0, .ref 0), (1, .int a1), (2, .int a2), (3, .int a3)]) (st' := [.int 0, .ref 36]) rfl rfl ?_
        refine zy_hS (x := .inr (6, [.ref 7, .ref 37, .ref 38, .int 20, .int 30, .ref 39, .ref 40, .int 0, .null, .int 0, .null, .null, .null, .null, .null])) (mr := zm_m9) rfl rfl (zh_put (zs_neE e5 (zs_neE e4 (zp_o F 7 rfl) (by decide)) (by decide)) rfl (by decide)) (fun he6 e6 => ?_)
        refine zy_n 1 (mr := zm_m9) (pc' := 62) (ls' := [(0, .ref 0), (1, .int a1), (2, .int a2), (3, .int a3)]) (st' := [.int 0]) rfl rfl ?_
        refine zy_r (mr := zm_m9) rfl rfl rfl ?_
        refine ⟨⟨_, rfl, ?_⟩, fun k hk1 hk2 => ((zs_kE e6 (by omega)).trans ((zs_kE e5 (by omega)).trans ((zs_kE e4 (by omega)).trans rfl))), Nat.le_trans (Nat.le_of_eq (zs_lsetE e6 (zs_lsetE e5 (zs_lsetE e4 (zp_len F).1)))) (by decide), Nat.le_trans (Nat.le_of_eq (zs_szsetE (w := 15) e6 (zs_neE e5 (zs_neE e4 (zp_o F 7 rfl) (by decide)) (by decide)) rfl rfl (zs_szsetE (w := 4) e5 (zs_neE e4 (zp_i F 26 rfl) (by decide)) rfl rfl (zs_szsetE (w := 4) e4 (zp_i F 25 rfl) rfl rfl (zp_len F).2)))) (by decide)⟩
        simp [zf_0, hc1, hc2, hc3]
      · skip
        refine zy_b (q := (30, [])) (mr := zm_m9) rfl rfl rfl ?_
        refine zy_n 1 (mr := zm_m9) (pc' := 32) (ls' := [(0, .ref 0), (1, .int a1), (2, .int a2), (3, .int a3)]) (st' := [.int (-2)]) rfl rfl ?_
        refine zy_r (mr := zm_m9) rfl rfl rfl ?_
        refine ⟨⟨_, rfl, ?_⟩, fun k hk1 hk2 => rfl, Nat.le_trans (Nat.le_of_eq (zp_len F).1) (by decide), Nat.le_trans (Nat.le_of_eq (zp_len F).2) (by decide)⟩
        simp [zf_0, hc1, hc2, hc3]
    · skip
      refine zy_b (q := (30, [])) (mr := zm_m9) rfl rfl rfl ?_
      refine zy_n 1 (mr := zm_m9) (pc' := 32) (ls' := [(0, .ref 0), (1, .int a1), (2, .int a2), (3, .int a3)]) (st' := [.int (-2)]) rfl rfl ?_
      refine zy_r (mr := zm_m9) rfl rfl rfl ?_
      refine ⟨⟨_, rfl, ?_⟩, fun k hk1 hk2 => rfl, Nat.le_trans (Nat.le_of_eq (zp_len F).1) (by decide), Nat.le_trans (Nat.le_of_eq (zp_len F).2) (by decide)⟩
      simp [zf_0, hc1, hc2]
  · skip
    refine zy_b (q := (30, [])) (mr := zm_m9) rfl rfl rfl ?_
    refine zy_n 1 (mr := zm_m9) (pc' := 32) (ls' := [(0, .ref 0), (1, .int a1), (2, .int a2), (3, .int a3)]) (st' := [.int (-2)]) rfl rfl ?_
    refine zy_r (mr := zm_m9) rfl rfl rfl ?_
    refine ⟨⟨_, rfl, ?_⟩, fun k hk1 hk2 => rfl, Nat.le_trans (Nat.le_of_eq (zp_len F).1) (by decide), Nat.le_trans (Nat.le_of_eq (zp_len F).2) (by decide)⟩
    simp [zf_0, hc1]
set_option maxHeartbeats 4000000 in
set_option maxRecDepth 20000 in
theorem zx_1 {og : Nat → Option zm_C} {h : zm_H} (F : zp_ck h = true) (a1 : Int32) (a2 : Int32) (a3 : Int32) (a4 : Int32) : zm_Y og 30 11 0 [(0, .ref 0), (1, .int a1), (2, .int a2), (3, .int a3), (4, .int a4)] [] h (fun r h1 => (∃ v, r = some (.int v) ∧ zf_1 a1 a2 a3 a4 v) ∧ (∀ k : Nat, 55 ≤ k → k < 117 → h1[k]? = h[k]?) ∧ h1.length ≤ 200 ∧ zm_szs h1 ≤ 90000) := by
  refine zy_n 3 (mr := zm_m11) (pc' := 5) (ls' := [(0, .ref 0), (1, .int a1), (2, .int a2), (3, .int a3), (4, .int a4)]) (st' := [.int 1000, .int 0, .int a1]) rfl rfl ?_
  refine zy_c (mc := zm_m10) (mr := zm_m11) rfl rfl rfl rfl rfl (zm_Y.mono (zk_within a1 0 1000) ?_)
  rintro r h1 ⟨rfl, ⟨rfl, hc1⟩ | ⟨rfl, hc1⟩⟩
  · skip
    refine zy_b (q := (11, [])) (mr := zm_m11) rfl rfl rfl ?_
    refine zy_n 3 (mr := zm_m11) (pc' := 16) (ls' := [(0, .ref 0), (1, .int a1), (2, .int a2), (3, .int a3), (4, .int a4)]) (st' := [.int 1000, .int 0, .int a2]) rfl rfl ?_
    refine zy_c (mc := zm_m10) (mr := zm_m11) rfl rfl rfl rfl rfl (zm_Y.mono (zk_within a2 0 1000) ?_)
    rintro r h1 ⟨rfl, ⟨rfl, hc2⟩ | ⟨rfl, hc2⟩⟩
    · skip
      refine zy_b (q := (22, [])) (mr := zm_m11) rfl rfl rfl ?_
      refine zy_n 3 (mr := zm_m11) (pc' := 26) (ls' := [(0, .ref 0), (1, .int a1), (2, .int a2), (3, .int a3), (4, .int a4)]) (st' := [.int 60, .int 0, .int a3]) rfl rfl ?_
      refine zy_c (mc := zm_m10) (mr := zm_m11) rfl rfl rfl rfl rfl (zm_Y.mono (zk_within a3 0 60) ?_)
      rintro r h1 ⟨rfl, ⟨rfl, hc3⟩ | ⟨rfl, hc3⟩⟩
      · skip
        refine zy_b (q := (32, [])) (mr := zm_m11) rfl rfl rfl ?_
        refine zy_n 3 (mr := zm_m11) (pc' := 37) (ls' := [(0, .ref 0), (1, .int a1), (2, .int a2), (3, .int a3), (4, .int a4)]) (st' := [.int 20, .int 0, .int a4]) rfl rfl ?_
        refine zy_c (mc := zm_m10) (mr := zm_m11) rfl rfl rfl rfl rfl (zm_Y.mono (zk_within a4 0 20) ?_)
        rintro r h1 ⟨rfl, ⟨rfl, hc4⟩ | ⟨rfl, hc4⟩⟩
        · skip
          refine zy_b (q := (46, [])) (mr := zm_m11) rfl rfl rfl ?_
          refine zy_n 1 (mr := zm_m11) (pc' := 47) (ls' := [(0, .ref 0), (1, .int a1), (2, .int a2), (3, .int a3), (4, .int a4)]) (st' := [.ref 0]) rfl rfl ?_
          refine zy_h (mr := zm_m11) rfl rfl (zh_get (v := .ref 36) (zp_o F 0 rfl) rfl) ?_
          refine zy_n 1 (mr := zm_m11) (pc' := 51) (ls' := [(0, .ref 0), (1, .int a1), (2, .int a2), (3, .int a3), (4, .int a4)]) (st' := [.int a1, .ref 36]) rfl rfl ?_
          refine zy_hS (x := .inr (6, [.ref 7, .ref 37, .ref 38, .int a1, .int 30, .ref 39, .ref 40, .int 0, .null, .int 0, .null, .null, .null, .null, .null])) (mr := zm_m11) rfl rfl (zh_put (zp_o F 7 rfl) rfl rfl) (fun he5 e5 => ?_)
          refine zy_n 1 (mr := zm_m11) (pc' := 55) (ls' := [(0, .ref 0), (1, .int a1), (2, .int a2), (3, .int a3), (4, .int a4)]) (st' := [.ref 0]) rfl rfl ?_
          refine zy_h (mr := zm_m11) rfl rfl (zh_get (v := .ref 36) (zs_neE e5 (zp_o F 0 rfl) (by decide)) rfl) ?_
          refine zy_n 1 (mr := zm_m11) (pc' := 59) (ls' := [(0, .ref 0), (1, .int a1), (2, .int a2), (3, .int a3), (4, .int a4)]) (st' := [.int a2, .ref 36]) rfl rfl ?_
          refine zy_hS (x := .inr (6, [.ref 7, .ref 37, .ref 38, .int a1, .int a2, .ref 39, .ref 40, .int 0, .null, .int 0, .null, .null, .null, .null, .null])) (mr := zm_m11) rfl rfl (zh_put (zs_eqE e5 (zp_o F 7 rfl)) rfl rfl) (fun he6 e6 => ?_)
          refine zy_n 1 (mr := zm_m11) (pc' := 63) (ls' := [(0, .ref 0), (1, .int a1), (2, .int a2), (3, .int a3), (4, .int a4)]) (st' := [.ref 0]) rfl rfl ?_
          refine zy_h (mr := zm_m11) rfl rfl (zh_get (v := .ref 25) (zs_neE e6 (zs_neE e5 (zp_o F 0 rfl) (by decide)) (by decide)) rfl) ?_
          refine zy_n 1 (mr := zm_m11) (pc' := 67) (ls' := [(0, .ref 0), (1, .int a1), (2, .int a2), (3, .int a3), (4, .int a4)]) (st' := [.int a3, .ref 25]) rfl rfl ?_
          refine zy_hS (x := .inr (1, [.int a3, .int 0, .ref 26])) (mr := zm_m11) rfl rfl (zh_put (zs_neE e6 (zs_neE e5 (zp_o F 5 rfl) (by decide)) (by decide)) rfl rfl) (fun he7 e7 => ?_)
          refine zy_n 2 (mr := zm_m11) (pc' := 73) (ls' := [(0, .ref 0), (1, .int a1), (2, .int a2), (3, .int a3), (4, .int a4)]) (st' := [.int a4, .ref 0]) rfl rfl ?_
          refine zy_hS (x := .inr (10, [.ref 1, .int 0, .int 0, .int 0, .int a4, .int (-1), .ref 2, .ref 7, .ref 25, .ref 27, .ref 36, .ref 41, .ref 45, .ref 54, .null, .null])) (mr := zm_m11) rfl rfl (zh_put (zs_neE e7 (zs_neE e6 (zs_neE e5 (zp_o F 0 rfl) (by decide)) (by decide)) (by decide)) rfl rfl) (fun he8 e8 => ?_)
          refine zy_n 1 (mr := zm_m11) (pc' := 77) (ls' := [(0, .ref 0), (1, .int a1), (2, .int a2), (3, .int a3), (4, .int a4)]) (st' := [.ref 0]) rfl rfl ?_
          have k9 := (zs_eqE e8 (zs_neE e7 (zs_neE e6 (zs_neE e5 (zp_o F 0 rfl) (by decide)) (by decide)) (by decide)))
          refine zy_h (mr := zm_m11) rfl rfl (zh_get (v := .ref 36) k9 rfl) ?_
          refine zy_n 1 (mr := zm_m11) (pc' := 81) (ls' := [(0, .ref 0), (1, .int a1), (2, .int a2), (3, .int a3), (4, .int a4)]) (st' := [.int 0, .ref 36]) rfl rfl ?_
          refine zy_hS (x := .inr (6, [.ref 7, .ref 37, .ref 38, .int a1, .int a2, .ref 39, .ref 40, .int 0, .null, .int 0, .null, .null, .null, .null, .null])) (mr := zm_m11) rfl rfl (zh_put (zs_neE e8 (zs_neE e7 (zs_eqE e6 (zs_eqE e5 (zp_o F 7 rfl))) (by decide)) (by decide)) rfl (by decide)) (fun he10 e10 => ?_)
          refine zy_n 1 (mr := zm_m11) (pc' := 85) (ls' := [(0, .ref 0), (1, .int a1), (2, .int a2), (3, .int a3), (4, .int a4)]) (st' := [.int 0]) rfl rfl ?_
          refine zy_r (mr := zm_m11) rfl rfl rfl ?_
          refine ⟨⟨_, rfl, ?_⟩, fun k hk1 hk2 => ((zs_kE e10 (by omega)).trans ((zs_kE e8 (by omega)).trans ((zs_kE e7 (by omega)).trans ((zs_kE e6 (by omega)).trans ((zs_kE e5 (by omega)).trans rfl))))), Nat.le_trans (Nat.le_of_eq (zs_lsetE e10 (zs_lsetE e8 (zs_lsetE e7 (zs_lsetE e6 (zs_lsetE e5 (zp_len F).1)))))) (by decide), Nat.le_trans (Nat.le_of_eq (zs_szsetE (w := 15) e10 (zs_neE e8 (zs_neE e7 (zs_eqE e6 (zs_eqE e5 (zp_o F 7 rfl))) (by decide)) (by decide)) rfl rfl (zs_szsetE (w := 16) e8 (zs_neE e7 (zs_neE e6 (zs_neE e5 (zp_o F 0 rfl) (by decide)) (by decide)) (by decide)) rfl rfl (zs_szsetE (w := 3) e7 (zs_neE e6 (zs_neE e5 (zp_o F 5 rfl) (by decide)) (by decide)) rfl rfl (zs_szsetE (w := 15) e6 (zs_eqE e5 (zp_o F 7 rfl)) rfl rfl (zs_szsetE (w := 15) e5 (zp_o F 7 rfl) rfl rfl (zp_len F).2)))))) (by decide)⟩
          simp [zf_1, hc1, hc2, hc3, hc4]
        · skip
          refine zy_b (q := (43, [])) (mr := zm_m11) rfl rfl rfl ?_
          refine zy_n 1 (mr := zm_m11) (pc' := 45) (ls' := [(0, .ref 0), (1, .int a1), (2, .int a2), (3, .int a3), (4, .int a4)]) (st' := [.int (-2)]) rfl rfl ?_
          refine zy_r (mr := zm_m11) rfl rfl rfl ?_
          refine ⟨⟨_, rfl, ?_⟩, fun k hk1 hk2 => rfl, Nat.le_trans (Nat.le_of_eq (zp_len F).1) (by decide), Nat.le_trans (Nat.le_of_eq (zp_len F).2) (by decide)⟩
          simp [zf_1, hc1, hc2, hc3, hc4]
      · skip
        as_aux_lemma =>
          refine zy_b (q := (43, [])) (mr := zm_m11) rfl rfl rfl ?_
          refine zy_n 1 (mr := zm_m11) (pc' := 45) (ls' := [(0, .ref 0), (1, .int a1), (2, .int a2), (3, .int a3), (4, .int a4)]) (st' := [.int (-2)]) rfl rfl ?_
          refine zy_r (mr := zm_m11) rfl rfl rfl ?_
          refine ⟨⟨_, rfl, ?_⟩, fun k hk1 hk2 => rfl, Nat.le_trans (Nat.le_of_eq (zp_len F).1) (by decide), Nat.le_trans (Nat.le_of_eq (zp_len F).2) (by decide)⟩
          simp [zf_1, hc1, hc2, hc3]
    · skip
      refine zy_b (q := (43, [])) (mr := zm_m11) rfl rfl rfl ?_
      refine zy_n 1 (mr := zm_m11) (pc' := 45) (ls' := [(0, .ref 0), (1, .int a1), (2, .int a2), (3, .int a3), (4, .int a4)]) (st' := [.int (-2)]) rfl rfl ?_
      refine zy_r (mr := zm_m11) rfl rfl rfl ?_
      refine ⟨⟨_, rfl, ?_⟩, fun k hk1 hk2 => rfl, Nat.le_trans (Nat.le_of_eq (zp_len F).1) (by decide), Nat.le_trans (Nat.le_of_eq (zp_len F).2) (by decide)⟩
      simp [zf_1, hc1, hc2]
  · skip
    refine zy_b (q := (43, [])) (mr := zm_m11) rfl rfl rfl ?_
    refine zy_n 1 (mr := zm_m11) (pc' := 45) (ls' := [(0, .ref 0), (1, .int a1), (2, .int a2), (3, .int a3), (4, .int a4)]) (st' := [.int (-2)]) rfl rfl ?_
    refine zy_r (mr := zm_m11) rfl rfl rfl ?_
    refine ⟨⟨_, rfl, ?_⟩, fun k hk1 hk2 => rfl, Nat.le_trans (Nat.le_of_eq (zp_len F).1) (by decide), Nat.le_trans (Nat.le_of_eq (zp_len F).2) (by decide)⟩
    simp [zf_1, hc1]
set_option maxHeartbeats 4000000 in
set_option maxRecDepth 20000 in
theorem zx_2 {og : Nat → Option zm_C} {h : zm_H} (F : zp_ck h = true) (a1 : Int32) (a2 : Int32) (a3 : Int32) (a4 : Int32) : zm_Y og 30 12 0 [(0, .ref 0), (1, .int a1), (2, .int a2), (3, .int a3), (4, .int a4)] [] h (fun r h1 => (∃ v, r = some (.int v) ∧ zf_2 a1 a2 a3 a4 v) ∧ (∀ k : Nat, 55 ≤ k → k < 117 → h1[k]? = h[k]?) ∧ h1.length ≤ 200 ∧ zm_szs h1 ≤ 90000) := by
  refine zy_n 3 (mr := zm_m12) (pc' := 3) (ls' := [(0, .ref 0), (1, .int a1), (2, .int a2), (3, .int a3), (4, .int a4)]) (st' := [.int 3, .int 0, .int a1]) rfl rfl ?_
  refine zy_c (mc := zm_m10) (mr := zm_m12) rfl rfl rfl rfl rfl (zm_Y.mono (zk_within a1 0 3) ?_)
  rintro r h1 ⟨rfl, ⟨rfl, hc1⟩ | ⟨rfl, hc1⟩⟩
  · skip
    refine zy_b (q := (9, [])) (mr := zm_m12) rfl rfl rfl ?_
    refine zy_n 1 (mr := zm_m12) (pc' := 10) (ls' := [(0, .ref 0), (1, .int a1), (2, .int a2), (3, .int a3), (4, .int a4)]) (st' := [.int a2]) rfl rfl ?_
    refine zy_c (mc := zm_m13) (mr := zm_m12) rfl rfl rfl rfl rfl ?_
    refine zy_n 3 (mr := zm_m13) (pc' := 5) (ls' := [(0, .int a2)]) (st' := [.int 10000, .int 0, .int a2]) rfl rfl ?_
    refine zy_c (mc := zm_m10) (mr := zm_m13) rfl rfl rfl rfl rfl (zm_Y.mono (zk_within a2 0 10000) ?_)
    rintro r h1 ⟨rfl, ⟨rfl, hc2⟩ | ⟨rfl, hc2⟩⟩
    · skip
      refine zy_r (mr := zm_m13) rfl rfl rfl ?_
      refine zy_b (q := (16, [])) (mr := zm_m12) rfl rfl rfl ?_
      refine zy_n 1 (mr := zm_m12) (pc' := 17) (ls' := [(0, .ref 0), (1, .int a1), (2, .int a2), (3, .int a3), (4, .int a4)]) (st' := [.int a3]) rfl rfl ?_
      refine zy_c (mc := zm_m14) (mr := zm_m12) rfl rfl rfl rfl rfl ?_
      refine zy_n 3 (mr := zm_m14) (pc' := 4) (ls' := [(0, .int a3)]) (st' := [.int 9, .int 1, .int a3]) rfl rfl ?_
      refine zy_c (mc := zm_m10) (mr := zm_m14) rfl rfl rfl rfl rfl (zm_Y.mono (zk_within a3 1 9) ?_)
      rintro r h1 ⟨rfl, ⟨rfl, hc3⟩ | ⟨rfl, hc3⟩⟩
      · skip
        refine zy_r (mr := zm_m14) rfl rfl rfl ?_
        refine zy_b (q := (23, [])) (mr := zm_m12) rfl rfl rfl ?_
        refine zy_n 3 (mr := zm_m12) (pc' := 28) (ls' := [(0, .ref 0), (1, .int a1), (2, .int a2), (3, .int a3), (4, .int a4)]) (st' := [.int 60, .int 1, .int a4]) rfl rfl ?_
        refine zy_c (mc := zm_m10) (mr := zm_m12) rfl rfl rfl rfl rfl (zm_Y.mono (zk_within a4 1 60) ?_)
        rintro r h1 ⟨rfl, ⟨rfl, hc4⟩ | ⟨rfl, hc4⟩⟩
        · skip
          refine zy_b (q := (37, [])) (mr := zm_m12) rfl rfl rfl ?_
          refine zy_n 1 (mr := zm_m12) (pc' := 38) (ls' := [(0, .ref 0), (1, .int a1), (2, .int a2), (3, .int a3), (4, .int a4)]) (st' := [.ref 0]) rfl rfl ?_
          refine zy_h (mr := zm_m12) rfl rfl (zh_get (v := .int 0) (zp_o F 0 rfl) rfl) ?_
          refine zy_n 1 (mr := zm_m12) (pc' := 43) (ls' := [(0, .ref 0), (1, .int a1), (2, .int a2), (3, .int a3), (4, .int a4)]) (st' := [.int 16, .int 0]) rfl rfl ?_
          refine zy_b (q := (49, [])) (mr := zm_m12) rfl rfl rfl ?_
          refine zy_n 1 (mr := zm_m12) (pc' := 50) (ls' := [(0, .ref 0), (1, .int a1), (2, .int a2), (3, .int a3), (4, .int a4)]) (st' := [.ref 0]) rfl rfl ?_
          refine zy_h (mr := zm_m12) rfl rfl (zh_get (v := .ref 1) (zp_o F 0 rfl) rfl) ?_
          refine zy_n 1 (mr := zm_m12) (pc' := 54) (ls' := [(0, .ref 0), (1, .int a1), (2, .int a2), (3, .int a3), (4, .int a4)]) (st' := [.ref 0, .ref 1]) rfl rfl ?_
          refine zy_h (mr := zm_m12) rfl rfl (zh_get (v := .int 0) (zp_o F 0 rfl) rfl) ?_
          refine zy_hE (mr := zm_m12) rfl rfl (zh_new (zp_len F).1) (fun he5 e5 => ?_)
          refine zy_n 7 (mr := zm_m12) (pc' := 68) (ls' := [(0, .ref 0), (1, .int a1), (2, .int a2), (3, .int a3), (4, .int a4)]) (st' := [.ref 0, .ref 0, .int a4, .int a3, .int a2, .int a1, .ref 117, .ref 117, .int 0, .ref 1]) rfl rfl ?_
          refine zy_h (mr := zm_m12) rfl rfl (zh_get (v := .int 0) (zs_appE e5 (zp_o F 0 rfl)) rfl) ?_
          refine zy_n 3 (mr := zm_m12) (pc' := 74) (ls' := [(0, .ref 0), (1, .int a1), (2, .int a2), (3, .int a3), (4, .int a4)]) (st' := [.int 1, .ref 0, .int 0, .int a4, .int a3, .int a2, .int a1, .ref 117, .ref 117, .int 0, .ref 1]) rfl rfl ?_
          refine zy_hS (x := .inr (10, [.ref 1, .int 0, .int 1, .int 0, .int 2, .int (-1), .ref 2, .ref 7, .ref 25, .ref 27, .ref 36, .ref 41, .ref 45, .ref 54, .null, .null])) (mr := zm_m12) rfl rfl (zh_put (zs_appE e5 (zp_o F 0 rfl)) rfl rfl) (fun he6 e6 => ?_)
          refine zy_c (mc := zm_m15) (mr := zm_m12) rfl rfl rfl rfl rfl ?_
          refine zy_n 1 (mr := zm_m15) (pc' := 1) (ls' := [(0, .ref 117), (1, .int a1), (2, .int a2), (3, .int a3), (4, .int a4), (5, .int 0)]) (st' := [.ref 117]) rfl rfl ?_
          refine zy_h (mr := zm_m15) rfl rfl (zh_oinit) ?_
          refine zy_n 2 (mr := zm_m15) (pc' := 6) (ls' := [(0, .ref 117), (1, .int a1), (2, .int a2), (3, .int a3), (4, .int a4), (5, .int 0)]) (st' := [.int 0, .ref 117]) rfl rfl ?_
          refine zy_hS (x := .inr (2, [.int 0, .int 0, .int 0, .int 0, .int 0, .int 0, .null, .int 0, .null, .int 0, .long 0])) (mr := zm_m15) rfl rfl (zh_put (zs_neE e6 (zs_newE (k := 0) e5 (zp_len F).1 rfl) (by decide)) rfl rfl) (fun he7 e7 => ?_)
          refine zy_n 2 (mr := zm_m15) (pc' := 12) (ls' := [(0, .ref 117), (1, .int a1), (2, .int a2), (3, .int a3), (4, .int a4), (5, .int 0)]) (st' := [.int 6, .ref 117]) rfl rfl ?_
          refine zy_hE (mr := zm_m15) rfl rfl (zh_newa (N := 6) (zs_lsetE e7 (zs_lsetE e6 (zs_lappE e5 (zp_len F).1 rfl))) (by decide) (by decide)) (fun he8 e8 => ?_)
          refine zy_hS (x := .inr (2, [.int 0, .int 0, .int 0, .int 0, .int 0, .int 0, .ref 118, .int 0, .null, .int 0, .long 0])) (mr := zm_m15) rfl rfl (zh_put (zs_appE e8 (zs_eqE e7 (zs_neE e6 (zs_newE (k := 0) e5 (zp_len F).1 rfl) (by decide)))) rfl rfl) (fun he9 e9 => ?_)
          refine zy_n 2 (mr := zm_m15) (pc' := 19) (ls' := [(0, .ref 117), (1, .int a1), (2, .int a2), (3, .int a3), (4, .int a4), (5, .int 0)]) (st' := [.int 0, .ref 117]) rfl rfl ?_
          have k10 := (zs_eqE e9 (zs_appE e8 (zs_eqE e7 (zs_neE e6 (zs_newE (k := 0) e5 (zp_len F).1 rfl) (by decide)))))
          refine zy_hS (x := .inr (2, [.int 0, .int 0, .int 0, .int 0, .int 0, .int 0, .ref 118, .int 0, .null, .int 0, .long 0])) (mr := zm_m15) rfl rfl (zh_put k10 rfl rfl) (fun he11 e11 => ?_)
          refine zy_n 2 (mr := zm_m15) (pc' := 25) (ls' := [(0, .ref 117), (1, .int a1), (2, .int a2), (3, .int a3), (4, .int a4), (5, .int 0)]) (st' := [.int 10, .ref 117]) rfl rfl ?_
          as_aux_lemma =>
            have k12 := (zs_lsetE e11 (zs_lsetE e9 (zs_lappE e8 (zs_lsetE e7 (zs_lsetE e6 (zs_lappE e5 (zp_len F).1 rfl))) rfl)))
            refine zy_hE (mr := zm_m15) rfl rfl (zh_anew (N := 10) k12 (by decide) (by decide)) (fun he13 e13 => ?_)
            have k14 := (zs_appE e13 (zs_eqE e11 (zs_eqE e9 (zs_appE e8 (zs_eqE e7 (zs_neE e6 (zs_newE (k := 0) e5 (zp_len F).1 rfl) (by decide)))))))
            refine zy_hS (x := .inr (2, [.int 0, .int 0, .int 0, .int 0, .int 0, .int 0, .ref 118, .int 0, .ref 119, .int 0, .long 0])) (mr := zm_m15) rfl rfl (zh_put k14 rfl rfl) (fun he15 e15 => ?_)
            refine zy_n 2 (mr := zm_m15) (pc' := 33) (ls' := [(0, .ref 117), (1, .int a1), (2, .int a2), (3, .int a3), (4, .int a4), (5, .int 0)]) (st' := [.int 0, .ref 117]) rfl rfl ?_
            have k16 := (zs_eqE e15 (zs_appE e13 (zs_eqE e11 (zs_eqE e9 (zs_appE e8 (zs_eqE e7 (zs_neE e6 (zs_newE (k := 0) e5 (zp_len F).1 rfl) (by decide))))))))
            refine zy_hS (x := .inr (2, [.int 0, .int 0, .int 0, .int 0, .int 0, .int 0, .ref 118, .int 0, .ref 119, .int 0, .long 0])) (mr := zm_m15) rfl rfl (zh_put k16 rfl (by decide)) (fun he17 e17 => ?_)
            refine zy_n 2 (mr := zm_m15) (pc' := 38) (ls' := [(0, .ref 117), (1, .int a1), (2, .int a2), (3, .int a3), (4, .int a4), (5, .int 0)]) (st' := [.long 0, .ref 117]) rfl rfl ?_
            have k18 := (zs_eqE e17 (zs_eqE e15 (zs_appE e13 (zs_eqE e11 (zs_eqE e9 (zs_appE e8 (zs_eqE e7 (zs_neE e6 (zs_newE (k := 0) e5 (zp_len F).1 rfl) (by decide)))))))))
            refine zy_hS (x := .inr (2, [.int 0, .int 0, .int 0, .int 0, .int 0, .int 0, .ref 118, .int 0, .ref 119, .int 0, .long 0])) (mr := zm_m15) rfl rfl (zh_put k18 rfl rfl) (fun he19 e19 => ?_)
            refine zy_n 2 (mr := zm_m15) (pc' := 43) (ls' := [(0, .ref 117), (1, .int a1), (2, .int a2), (3, .int a3), (4, .int a4), (5, .int 0)]) (st' := [.int a1, .ref 117]) rfl rfl ?_
            have k20 := (zs_eqE e19 (zs_eqE e17 (zs_eqE e15 (zs_appE e13 (zs_eqE e11 (zs_eqE e9 (zs_appE e8 (zs_eqE e7 (zs_neE e6 (zs_newE (k := 0) e5 (zp_len F).1 rfl) (by decide))))))))))
            refine zy_hS (x := .inr (2, [.int a1, .int 0, .int 0, .int 0, .int 0, .int 0, .ref 118, .int 0, .ref 119, .int 0, .long 0])) (mr := zm_m15) rfl rfl (zh_put k20 rfl rfl) (fun he21 e21 => ?_)
            refine zy_n 2 (mr := zm_m15) (pc' := 48) (ls' := [(0, .ref 117), (1, .int a1), (2, .int a2), (3, .int a3), (4, .int a4), (5, .int 0)]) (st' := [.int a2, .ref 117]) rfl rfl ?_
            have k22 := (zs_eqE e21 (zs_eqE e19 (zs_eqE e17 (zs_eqE e15 (zs_appE e13 (zs_eqE e11 (zs_eqE e9 (zs_appE e8 (zs_eqE e7 (zs_neE e6 (zs_newE (k := 0) e5 (zp_len F).1 rfl) (by decide)))))))))))
            refine zy_hS (x := .inr (2, [.int a1, .int a2, .int 0, .int 0, .int 0, .int 0, .ref 118, .int 0, .ref 119, .int 0, .long 0])) (mr := zm_m15) rfl rfl (zh_put k22 rfl rfl) (fun he23 e23 => ?_)
            refine zy_n 2 (mr := zm_m15) (pc' := 53) (ls' := [(0, .ref 117), (1, .int a1), (2, .int a2), (3, .int a3), (4, .int a4), (5, .int 0)]) (st' := [.int a3, .ref 117]) rfl rfl ?_
            have k24 := (zs_eqE e23 (zs_eqE e21 (zs_eqE e19 (zs_eqE e17 (zs_eqE e15 (zs_appE e13 (zs_eqE e11 (zs_eqE e9 (zs_appE e8 (zs_eqE e7 (zs_neE e6 (zs_newE (k := 0) e5 (zp_len F).1 rfl) (by decide))))))))))))
            refine zy_hS (x := .inr (2, [.int a1, .int a2, .int a3, .int 0, .int 0, .int 0, .ref 118, .int 0, .ref 119, .int 0, .long 0])) (mr := zm_m15) rfl rfl (zh_put k24 rfl rfl) (fun he25 e25 => ?_)
            refine zy_n 2 (mr := zm_m15) (pc' := 59) (ls' := [(0, .ref 117), (1, .int a1), (2, .int a2), (3, .int a3), (4, .int a4), (5, .int 0)]) (st' := [.int a4, .ref 117]) rfl rfl ?_
            have k26 := (zs_eqE e25 (zs_eqE e23 (zs_eqE e21 (zs_eqE e19 (zs_eqE e17 (zs_eqE e15 (zs_appE e13 (zs_eqE e11 (zs_eqE e9 (zs_appE e8 (zs_eqE e7 (zs_neE e6 (zs_newE (k := 0) e5 (zp_len F).1 rfl) (by decide)))))))))))))
            refine zy_hS (x := .inr (2, [.int a1, .int a2, .int a3, .int a4, .int 0, .int 0, .ref 118, .int 0, .ref 119, .int 0, .long 0])) (mr := zm_m15) rfl rfl (zh_put k26 rfl rfl) (fun he27 e27 => ?_)
            refine zy_n 2 (mr := zm_m15) (pc' := 65) (ls' := [(0, .ref 117), (1, .int a1), (2, .int a2), (3, .int a3), (4, .int a4), (5, .int 0)]) (st' := [.int 0, .ref 117]) rfl rfl ?_
            have k28 := (zs_eqE e27 (zs_eqE e25 (zs_eqE e23 (zs_eqE e21 (zs_eqE e19 (zs_eqE e17 (zs_eqE e15 (zs_appE e13 (zs_eqE e11 (zs_eqE e9 (zs_appE e8 (zs_eqE e7 (zs_neE e6 (zs_newE (k := 0) e5 (zp_len F).1 rfl) (by decide))))))))))))))
            refine zy_hS (x := .inr (2, [.int a1, .int a2, .int a3, .int a4, .int 0, .int 0, .ref 118, .int 0, .ref 119, .int 0, .long 0])) (mr := zm_m15) rfl rfl (zh_put k28 rfl rfl) (fun he29 e29 => ?_)
            refine zy_r (mr := zm_m15) rfl rfl rfl ?_
            have k30 := (zs_neE e29 (zs_neE e27 (zs_neE e25 (zs_neE e23 (zs_neE e21 (zs_neE e19 (zs_neE e17 (zs_neE e15 (zs_appE e13 (zs_neE e11 (zs_neE e9 (zs_appE e8 (zs_neE e7 (zs_neE e6 (zs_appE e5 (zp_r F 0 rfl)) (by decide)) (by decide))) (by decide)) (by decide))) (by decide)) (by decide)) (by decide)) (by decide)) (by decide)) (by decide)) (by decide)) (by decide))
            have k31 := (zs_eqE e29 (zs_eqE e27 (zs_eqE e25 (zs_eqE e23 (zs_eqE e21 (zs_eqE e19 (zs_eqE e17 (zs_eqE e15 (zs_appE e13 (zs_eqE e11 (zs_eqE e9 (zs_appE e8 (zs_eqE e7 (zs_neE e6 (zs_newE (k := 0) e5 (zp_len F).1 rfl) (by decide)))))))))))))))
            refine zy_hS (x := _) (mr := zm_m12) rfl rfl (zh_aast k30 k31 rfl (by decide)) (fun he32 e32 => ?_)
            refine zy_n 1 (mr := zm_m12) (pc' := 82) (ls' := [(0, .ref 0), (1, .int a1), (2, .int a2), (3, .int a3), (4, .int a4)]) (st' := [.ref 0]) rfl rfl ?_
            have k33 := (zs_neE e32 (zs_neE e29 (zs_neE e27 (zs_neE e25 (zs_neE e23 (zs_neE e21 (zs_neE e19 (zs_neE e17 (zs_neE e15 (zs_appE e13 (zs_neE e11 (zs_neE e9 (zs_appE e8 (zs_neE e7 (zs_eqE e6 (zs_appE e5 (zp_o F 0 rfl))) (by decide))) (by decide)) (by decide))) (by decide)) (by decide)) (by decide)) (by decide)) (by decide)) (by decide)) (by decide)) (by decide)) (by decide))
            refine zy_h (mr := zm_m12) rfl rfl (zh_get (v := .ref 36) k33 rfl) ?_
            refine zy_n 1 (mr := zm_m12) (pc' := 86) (ls' := [(0, .ref 0), (1, .int a1), (2, .int a2), (3, .int a3), (4, .int a4)]) (st' := [.int 0, .ref 36]) rfl rfl ?_
            have k34 := (zs_neE e32 (zs_neE e29 (zs_neE e27 (zs_neE e25 (zs_neE e23 (zs_neE e21 (zs_neE e19 (zs_neE e17 (zs_neE e15 (zs_appE e13 (zs_neE e11 (zs_neE e9 (zs_appE e8 (zs_neE e7 (zs_neE e6 (zs_appE e5 (zp_o F 7 rfl)) (by decide)) (by decide))) (by decide)) (by decide))) (by decide)) (by decide)) (by decide)) (by decide)) (by decide)) (by decide)) (by decide)) (by decide)) (by decide))
            refine zy_hS (x := .inr (6, [.ref 7, .ref 37, .ref 38, .int 20, .int 30, .ref 39, .ref 40, .int 0, .null, .int 0, .null, .null, .null, .null, .null])) (mr := zm_m12) rfl rfl (zh_put k34 rfl (by decide)) (fun he35 e35 => ?_)
            refine zy_n 2 (mr := zm_m12) (pc' := 91) (ls' := [(0, .ref 0), (1, .int a1), (2, .int a2), (3, .int a3), (4, .int a4)]) (st' := [.ref 0, .ref 0]) rfl rfl ?_
            refine zy_h (mr := zm_m12) rfl rfl (zh_get (v := .int 0) (zs_neE e35 k33 (by decide)) rfl) ?_
            refine zy_n 3 (mr := zm_m12) (pc' := 97) (ls' := [(0, .ref 0), (1, .int a1), (2, .int a2), (3, .int a3), (4, .int a4)]) (st' := [.int 1, .ref 0, .int 0]) rfl rfl ?_
            refine zy_hS (x := .inr (10, [.ref 1, .int 1, .int 1, .int 0, .int 2, .int (-1), .ref 2, .ref 7, .ref 25, .ref 27, .ref 36, .ref 41, .ref 45, .ref 54, .null, .null])) (mr := zm_m12) rfl rfl (zh_put (zs_neE e35 k33 (by decide)) rfl rfl) (fun he36 e36 => ?_)
            refine zy_r (mr := zm_m12) rfl rfl rfl ?_
            have k37 := (zs_lsetE e36 (zs_lsetE e35 (zs_lsetE e32 (zs_lsetE e29 (zs_lsetE e27 (zs_lsetE e25 (zs_lsetE e23 (zs_lsetE e21 (zs_lsetE e19 (zs_lsetE e17 (zs_lsetE e15 (zs_lappE e13 k12 rfl))))))))))))
            refine ⟨⟨_, rfl, ?_⟩, fun k hk1 hk2 => ((zs_kE e36 (by omega)).trans ((zs_kE e35 (by omega)).trans ((zs_kE e32 (by omega)).trans ((zs_kE e29 (by omega)).trans ((zs_kE e27 (by omega)).trans ((zs_kE e25 (by omega)).trans ((zs_kE e23 (by omega)).trans ((zs_kE e21 (by omega)).trans ((zs_kE e19 (by omega)).trans ((zs_kE e17 (by omega)).trans ((zs_kE e15 (by omega)).trans ((zs_kappE e13 k12 (by omega)).trans ((zs_kE e11 (by omega)).trans ((zs_kE e9 (by omega)).trans ((zs_kappE e8 (zs_lsetE e7 (zs_lsetE e6 (zs_lappE e5 (zp_len F).1 rfl))) (by omega)).trans ((zs_kE e7 (by omega)).trans ((zs_kE e6 (by omega)).trans ((zs_kappE e5 (zp_len F).1 (by omega)).trans rfl)))))))))))))))))), Nat.le_trans (Nat.le_of_eq k37) (by decide), Nat.le_trans (Nat.le_of_eq (zs_szsetE (w := 16) e36 (zs_neE e35 k33 (by decide)) rfl rfl (zs_szsetE (w := 15) e35 (zs_neE e32 (zs_neE e29 (zs_neE e27 (zs_neE e25 (zs_neE e23 (zs_neE e21 (zs_neE e19 (zs_neE e17 (zs_neE e15 (zs_appE e13 (zs_neE e11 (zs_neE e9 (zs_appE e8 (zs_neE e7 (zs_neE e6 (zs_appE e5 (zp_o F 7 rfl)) (by decide)) (by decide))) (by decide)) (by decide))) (by decide)) (by decide)) (by decide)) (by decide)) (by decide)) (by decide)) (by decide)) (by decide)) (by decide)) rfl rfl (zs_szsetE (w := 16) e32 k30 rfl rfl (zs_szsetE (w := 11) e29 (zs_eqE e27 (zs_eqE e25 (zs_eqE e23 (zs_eqE e21 (zs_eqE e19 (zs_eqE e17 (zs_eqE e15 (zs_appE e13 (zs_eqE e11 (zs_eqE e9 (zs_appE e8 (zs_eqE e7 (zs_neE e6 (zs_newE (k := 0) e5 (zp_len F).1 rfl) (by decide)))))))))))))) rfl rfl (zs_szsetE (w := 11) e27 (zs_eqE e25 (zs_eqE e23 (zs_eqE e21 (zs_eqE e19 (zs_eqE e17 (zs_eqE e15 (zs_appE e13 (zs_eqE e11 (zs_eqE e9 (zs_appE e8 (zs_eqE e7 (zs_neE e6 (zs_newE (k := 0) e5 (zp_len F).1 rfl) (by decide))))))))))))) rfl rfl (zs_szsetE (w := 11) e25 (zs_eqE e23 (zs_eqE e21 (zs_eqE e19 (zs_eqE e17 (zs_eqE e15 (zs_appE e13 (zs_eqE e11 (zs_eqE e9 (zs_appE e8 (zs_eqE e7 (zs_neE e6 (zs_newE (k := 0) e5 (zp_len F).1 rfl) (by decide)))))))))))) rfl rfl (zs_szsetE (w := 11) e23 (zs_eqE e21 (zs_eqE e19 (zs_eqE e17 (zs_eqE e15 (zs_appE e13 (zs_eqE e11 (zs_eqE e9 (zs_appE e8 (zs_eqE e7 (zs_neE e6 (zs_newE (k := 0) e5 (zp_len F).1 rfl) (by decide))))))))))) rfl rfl (zs_szsetE (w := 11) e21 (zs_eqE e19 (zs_eqE e17 (zs_eqE e15 (zs_appE e13 (zs_eqE e11 (zs_eqE e9 (zs_appE e8 (zs_eqE e7 (zs_neE e6 (zs_newE (k := 0) e5 (zp_len F).1 rfl) (by decide)))))))))) rfl rfl (zs_szsetE (w := 11) e19 (zs_eqE e17 (zs_eqE e15 (zs_appE e13 (zs_eqE e11 (zs_eqE e9 (zs_appE e8 (zs_eqE e7 (zs_neE e6 (zs_newE (k := 0) e5 (zp_len F).1 rfl) (by decide))))))))) rfl rfl (zs_szsetE (w := 11) e17 (zs_eqE e15 (zs_appE e13 (zs_eqE e11 (zs_eqE e9 (zs_appE e8 (zs_eqE e7 (zs_neE e6 (zs_newE (k := 0) e5 (zp_len F).1 rfl) (by decide)))))))) rfl rfl (zs_szsetE (w := 11) e15 (zs_appE e13 (zs_eqE e11 (zs_eqE e9 (zs_appE e8 (zs_eqE e7 (zs_neE e6 (zs_newE (k := 0) e5 (zp_len F).1 rfl) (by decide))))))) rfl rfl (zs_szappE e13 (zs_szsetE (w := 11) e11 (zs_eqE e9 (zs_appE e8 (zs_eqE e7 (zs_neE e6 (zs_newE (k := 0) e5 (zp_len F).1 rfl) (by decide))))) rfl rfl (zs_szsetE (w := 11) e9 (zs_appE e8 (zs_eqE e7 (zs_neE e6 (zs_newE (k := 0) e5 (zp_len F).1 rfl) (by decide)))) rfl rfl (zs_szappE e8 (zs_szsetE (w := 11) e7 (zs_neE e6 (zs_newE (k := 0) e5 (zp_len F).1 rfl) (by decide)) rfl rfl (zs_szsetE (w := 16) e6 (zs_appE e5 (zp_o F 0 rfl)) rfl rfl (zs_szappE e5 (zp_len F).2 rfl))) rfl))) rfl))))))))))))) (by decide)⟩
            simp [zf_2, hc1, hc2, hc3, hc4]
        · skip
          refine zy_b (q := (34, [])) (mr := zm_m12) rfl rfl rfl ?_
          refine zy_n 1 (mr := zm_m12) (pc' := 36) (ls' := [(0, .ref 0), (1, .int a1), (2, .int a2), (3, .int a3), (4, .int a4)]) (st' := [.int (-2)]) rfl rfl ?_
          refine zy_r (mr := zm_m12) rfl rfl rfl ?_
          refine ⟨⟨_, rfl, ?_⟩, fun k hk1 hk2 => rfl, Nat.le_trans (Nat.le_of_eq (zp_len F).1) (by decide), Nat.le_trans (Nat.le_of_eq (zp_len F).2) (by decide)⟩
          simp [zf_2, hc1, hc2, hc3, hc4]
      · skip
        refine zy_r (mr := zm_m14) rfl rfl rfl ?_
        as_aux_lemma =>
          refine zy_b (q := (34, [])) (mr := zm_m12) rfl rfl rfl ?_
          refine zy_n 1 (mr := zm_m12) (pc' := 36) (ls' := [(0, .ref 0), (1, .int a1), (2, .int a2), (3, .int a3), (4, .int a4)]) (st' := [.int (-2)]) rfl rfl ?_
          refine zy_r (mr := zm_m12) rfl rfl rfl ?_
          refine ⟨⟨_, rfl, ?_⟩, fun k hk1 hk2 => rfl, Nat.le_trans (Nat.le_of_eq (zp_len F).1) (by decide), Nat.le_trans (Nat.le_of_eq (zp_len F).2) (by decide)⟩
          simp [zf_2, hc1, hc2, hc3]
    · skip
      refine zy_r (mr := zm_m13) rfl rfl rfl ?_
      refine zy_b (q := (34, [])) (mr := zm_m12) rfl rfl rfl ?_
      refine zy_n 1 (mr := zm_m12) (pc' := 36) (ls' := [(0, .ref 0), (1, .int a1), (2, .int a2), (3, .int a3), (4, .int a4)]) (st' := [.int (-2)]) rfl rfl ?_
      refine zy_r (mr := zm_m12) rfl rfl rfl ?_
      refine ⟨⟨_, rfl, ?_⟩, fun k hk1 hk2 => rfl, Nat.le_trans (Nat.le_of_eq (zp_len F).1) (by decide), Nat.le_trans (Nat.le_of_eq (zp_len F).2) (by decide)⟩
      simp [zf_2, hc1, hc2]
  · skip
    refine zy_b (q := (34, [])) (mr := zm_m12) rfl rfl rfl ?_
    refine zy_n 1 (mr := zm_m12) (pc' := 36) (ls' := [(0, .ref 0), (1, .int a1), (2, .int a2), (3, .int a3), (4, .int a4)]) (st' := [.int (-2)]) rfl rfl ?_
    refine zy_r (mr := zm_m12) rfl rfl rfl ?_
    refine ⟨⟨_, rfl, ?_⟩, fun k hk1 hk2 => rfl, Nat.le_trans (Nat.le_of_eq (zp_len F).1) (by decide), Nat.le_trans (Nat.le_of_eq (zp_len F).2) (by decide)⟩
    simp [zf_2, hc1]
set_option maxHeartbeats 4000000 in
set_option maxRecDepth 20000 in
theorem zx_3 {og : Nat → Option zm_C} {h : zm_H} (F : zp_ck h = true) (a1 : Int32) (a2 : Int32) (a3 : Int32) (a4 : Int32) : zm_Y og 30 16 0 [(0, .ref 0), (1, .int a1), (2, .int a2), (3, .int a3), (4, .int a4)] [] h (fun r h1 => (∃ v, r = some (.int v) ∧ zf_3 a1 a2 a3 a4 v) ∧ (∀ k : Nat, 55 ≤ k → k < 117 → h1[k]? = h[k]?) ∧ h1.length ≤ 200 ∧ zm_szs h1 ≤ 90000) := by
  refine zy_n 2 (mr := zm_m16) (pc' := 2) (ls' := [(0, .ref 0), (1, .int a1), (2, .int a2), (3, .int a3), (4, .int a4)]) (st' := [.int a1, .ref 0]) rfl rfl ?_
  refine zy_c (mc := zm_m17) (mr := zm_m16) rfl rfl (zh_v rfl (zp_o F 0 rfl) rfl) rfl rfl ?_
  refine zy_n 2 (mr := zm_m17) (pc' := 2) (ls' := [(0, .ref 0), (1, .int a1)]) (st' := [.int a1, .ref 0]) rfl rfl ?_
  refine zy_c (mc := zm_m18) (mr := zm_m17) rfl rfl (zh_v rfl (zp_o F 0 rfl) rfl) rfl rfl ?_
  refine zy_n 3 (mr := zm_m18) (pc' := 3) (ls' := [(0, .ref 0), (1, .int a1)]) (st' := [.ref 0, .int 0, .int a1]) rfl rfl ?_
  refine zy_h (mr := zm_m18) rfl rfl (zh_get (v := .int 0) (zp_o F 0 rfl) rfl) ?_
  refine zy_n 2 (mr := zm_m18) (pc' := 8) (ls' := [(0, .ref 0), (1, .int a1)]) (st' := [.int (-1), .int 0, .int a1]) rfl rfl ?_
  refine zy_c (mc := zm_m10) (mr := zm_m18) rfl rfl rfl rfl rfl (zm_Y.mono (zk_within a1 0 (-1)) ?_)
  rintro r h1 ⟨rfl, ⟨rfl, hc1⟩ | ⟨rfl, hc1⟩⟩
  · exact absurd hc1 (zl_emp (by decide))
  refine zy_r (mr := zm_m18) rfl rfl rfl ?_
  refine zy_b (q := (24, [])) (mr := zm_m17) rfl rfl rfl ?_
  refine zy_n 1 (mr := zm_m17) (pc' := 25) (ls' := [(0, .ref 0), (1, .int a1)]) (st' := [.int 0]) rfl rfl ?_
  refine zy_r (mr := zm_m17) rfl rfl rfl ?_
  refine zy_b (q := (34, [])) (mr := zm_m16) rfl rfl rfl ?_
  refine zy_n 1 (mr := zm_m16) (pc' := 36) (ls' := [(0, .ref 0), (1, .int a1), (2, .int a2), (3, .int a3), (4, .int a4)]) (st' := [.int (-2)]) rfl rfl ?_
  refine zy_r (mr := zm_m16) rfl rfl rfl ?_
  refine ⟨⟨_, rfl, ?_⟩, fun k hk1 hk2 => rfl, Nat.le_trans (Nat.le_of_eq (zp_len F).1) (by decide), Nat.le_trans (Nat.le_of_eq (zp_len F).2) (by decide)⟩
  simp [zf_3]
set_option maxHeartbeats 4000000 in
set_option maxRecDepth 20000 in
theorem zx_4 {og : Nat → Option zm_C} {h : zm_H} (F : zp_ck h = true) (a1 : Int32) (a2 : Int32) (a3 : Int32) : zm_Y og 30 26 0 [(0, .ref 0), (1, .int a1), (2, .int a2), (3, .int a3)] [] h (fun r h1 => (∃ v, r = some (.int v) ∧ zf_4 a1 a2 a3 v) ∧ (∀ k : Nat, 55 ≤ k → k < 117 → h1[k]? = h[k]?) ∧ h1.length ≤ 200 ∧ zm_szs h1 ≤ 90000) := by
  refine zy_n 2 (mr := zm_m26) (pc' := 2) (ls' := [(0, .ref 0), (1, .int a1), (2, .int a2), (3, .int a3)]) (st' := [.int a1, .ref 0]) rfl rfl ?_
  refine zy_c (mc := zm_m17) (mr := zm_m26) rfl rfl (zh_v rfl (zp_o F 0 rfl) rfl) rfl rfl ?_
  refine zy_n 2 (mr := zm_m17) (pc' := 2) (ls' := [(0, .ref 0), (1, .int a1)]) (st' := [.int a1, .ref 0]) rfl rfl ?_
  refine zy_c (mc := zm_m18) (mr := zm_m17) rfl rfl (zh_v rfl (zp_o F 0 rfl) rfl) rfl rfl ?_
  refine zy_n 3 (mr := zm_m18) (pc' := 3) (ls' := [(0, .ref 0), (1, .int a1)]) (st' := [.ref 0, .int 0, .int a1]) rfl rfl ?_
  refine zy_h (mr := zm_m18) rfl rfl (zh_get (v := .int 0) (zp_o F 0 rfl) rfl) ?_
  refine zy_n 2 (mr := zm_m18) (pc' := 8) (ls' := [(0, .ref 0), (1, .int a1)]) (st' := [.int (-1), .int 0, .int a1]) rfl rfl ?_
  refine zy_c (mc := zm_m10) (mr := zm_m18) rfl rfl rfl rfl rfl (zm_Y.mono (zk_within a1 0 (-1)) ?_)
  rintro r h1 ⟨rfl, ⟨rfl, hc1⟩ | ⟨rfl, hc1⟩⟩
  · exact absurd hc1 (zl_emp (by decide))
  refine zy_r (mr := zm_m18) rfl rfl rfl ?_
  refine zy_b (q := (24, [])) (mr := zm_m17) rfl rfl rfl ?_
  refine zy_n 1 (mr := zm_m17) (pc' := 25) (ls' := [(0, .ref 0), (1, .int a1)]) (st' := [.int 0]) rfl rfl ?_
  refine zy_r (mr := zm_m17) rfl rfl rfl ?_
  refine zy_b (q := (26, [])) (mr := zm_m26) rfl rfl rfl ?_
  refine zy_n 1 (mr := zm_m26) (pc' := 28) (ls' := [(0, .ref 0), (1, .int a1), (2, .int a2), (3, .int a3)]) (st' := [.int (-2)]) rfl rfl ?_
  refine zy_r (mr := zm_m26) rfl rfl rfl ?_
  refine ⟨⟨_, rfl, ?_⟩, fun k hk1 hk2 => rfl, Nat.le_trans (Nat.le_of_eq (zp_len F).1) (by decide), Nat.le_trans (Nat.le_of_eq (zp_len F).2) (by decide)⟩
  simp [zf_4]
set_option maxHeartbeats 4000000 in
set_option maxRecDepth 20000 in
theorem zx_5 {og : Nat → Option zm_C} {h : zm_H} (F : zp_ck h = true) (a1 : Int32) (a2 : Int32) (a3 : Int32) : zm_Y og 30 28 0 [(0, .ref 0), (1, .int a1), (2, .int a2), (3, .int a3)] [] h (fun r h1 => (∃ v, r = some (.int v) ∧ zf_5 a1 a2 a3 v) ∧ (∀ k : Nat, 55 ≤ k → k < 117 → h1[k]? = h[k]?) ∧ h1.length ≤ 200 ∧ zm_szs h1 ≤ 90000) := by
  refine zy_n 2 (mr := zm_m28) (pc' := 2) (ls' := [(0, .ref 0), (1, .int a1), (2, .int a2), (3, .int a3)]) (st' := [.int a1, .ref 0]) rfl rfl ?_
  refine zy_c (mc := zm_m18) (mr := zm_m28) rfl rfl (zh_v rfl (zp_o F 0 rfl) rfl) rfl rfl ?_
  refine zy_n 3 (mr := zm_m18) (pc' := 3) (ls' := [(0, .ref 0), (1, .int a1)]) (st' := [.ref 0, .int 0, .int a1]) rfl rfl ?_
  refine zy_h (mr := zm_m18) rfl rfl (zh_get (v := .int 0) (zp_o F 0 rfl) rfl) ?_
  refine zy_n 2 (mr := zm_m18) (pc' := 8) (ls' := [(0, .ref 0), (1, .int a1)]) (st' := [.int (-1), .int 0, .int a1]) rfl rfl ?_
  refine zy_c (mc := zm_m10) (mr := zm_m18) rfl rfl rfl rfl rfl (zm_Y.mono (zk_within a1 0 (-1)) ?_)
  rintro r h1 ⟨rfl, ⟨rfl, hc1⟩ | ⟨rfl, hc1⟩⟩
  · exact absurd hc1 (zl_emp (by decide))
  refine zy_r (mr := zm_m18) rfl rfl rfl ?_
  refine zy_b (q := (22, [])) (mr := zm_m28) rfl rfl rfl ?_
  refine zy_n 1 (mr := zm_m28) (pc' := 24) (ls' := [(0, .ref 0), (1, .int a1), (2, .int a2), (3, .int a3)]) (st' := [.int (-2)]) rfl rfl ?_
  refine zy_r (mr := zm_m28) rfl rfl rfl ?_
  refine ⟨⟨_, rfl, ?_⟩, fun k hk1 hk2 => rfl, Nat.le_trans (Nat.le_of_eq (zp_len F).1) (by decide), Nat.le_trans (Nat.le_of_eq (zp_len F).2) (by decide)⟩
  simp [zf_5]
set_option maxHeartbeats 4000000 in
set_option maxRecDepth 20000 in
theorem zx_6 {og : Nat → Option zm_C} {h : zm_H} (F : zp_ck h = true) (a1 : Int32) (a2 : Int32) : zm_Y og 30 29 0 [(0, .ref 0), (1, .int a1), (2, .int a2)] [] h (fun r h1 => (∃ v, r = some (.int v) ∧ zf_6 a1 a2 v) ∧ (∀ k : Nat, 55 ≤ k → k < 117 → h1[k]? = h[k]?) ∧ h1.length ≤ 200 ∧ zm_szs h1 ≤ 90000) := by
  refine zy_n 2 (mr := zm_m29) (pc' := 2) (ls' := [(0, .ref 0), (1, .int a1), (2, .int a2)]) (st' := [.int a1, .ref 0]) rfl rfl ?_
  refine zy_c (mc := zm_m17) (mr := zm_m29) rfl rfl (zh_v rfl (zp_o F 0 rfl) rfl) rfl rfl ?_
  refine zy_n 2 (mr := zm_m17) (pc' := 2) (ls' := [(0, .ref 0), (1, .int a1)]) (st' := [.int a1, .ref 0]) rfl rfl ?_
  refine zy_c (mc := zm_m18) (mr := zm_m17) rfl rfl (zh_v rfl (zp_o F 0 rfl) rfl) rfl rfl ?_
  refine zy_n 3 (mr := zm_m18) (pc' := 3) (ls' := [(0, .ref 0), (1, .int a1)]) (st' := [.ref 0, .int 0, .int a1]) rfl rfl ?_
  refine zy_h (mr := zm_m18) rfl rfl (zh_get (v := .int 0) (zp_o F 0 rfl) rfl) ?_
  refine zy_n 2 (mr := zm_m18) (pc' := 8) (ls' := [(0, .ref 0), (1, .int a1)]) (st' := [.int (-1), .int 0, .int a1]) rfl rfl ?_
  refine zy_c (mc := zm_m10) (mr := zm_m18) rfl rfl rfl rfl rfl (zm_Y.mono (zk_within a1 0 (-1)) ?_)
  rintro r h1 ⟨rfl, ⟨rfl, hc1⟩ | ⟨rfl, hc1⟩⟩
  · exact absurd hc1 (zl_emp (by decide))
  refine zy_r (mr := zm_m18) rfl rfl rfl ?_
  refine zy_b (q := (24, [])) (mr := zm_m17) rfl rfl rfl ?_
  refine zy_n 1 (mr := zm_m17) (pc' := 25) (ls' := [(0, .ref 0), (1, .int a1)]) (st' := [.int 0]) rfl rfl ?_
  refine zy_r (mr := zm_m17) rfl rfl rfl ?_
  refine zy_b (q := (21, [])) (mr := zm_m29) rfl rfl rfl ?_
  refine zy_n 1 (mr := zm_m29) (pc' := 23) (ls' := [(0, .ref 0), (1, .int a1), (2, .int a2)]) (st' := [.int (-2)]) rfl rfl ?_
  refine zy_r (mr := zm_m29) rfl rfl rfl ?_
  refine ⟨⟨_, rfl, ?_⟩, fun k hk1 hk2 => rfl, Nat.le_trans (Nat.le_of_eq (zp_len F).1) (by decide), Nat.le_trans (Nat.le_of_eq (zp_len F).2) (by decide)⟩
  simp [zf_6]
set_option maxHeartbeats 4000000 in
set_option maxRecDepth 20000 in
theorem zx_7 {og : Nat → Option zm_C} {h : zm_H} (F : zp_ck h = true) (a1 : Int32) : zm_Y og 30 30 0 [(0, .ref 0), (1, .int a1)] [] h (fun r h1 => (∃ v, r = some (.int v) ∧ zf_7 a1 v) ∧ (∀ k : Nat, 55 ≤ k → k < 117 → h1[k]? = h[k]?) ∧ h1.length ≤ 200 ∧ zm_szs h1 ≤ 90000) := by
  refine zy_n 2 (mr := zm_m30) (pc' := 2) (ls' := [(0, .ref 0), (1, .int a1)]) (st' := [.int a1, .ref 0]) rfl rfl ?_
  refine zy_c (mc := zm_m17) (mr := zm_m30) rfl rfl (zh_v rfl (zp_o F 0 rfl) rfl) rfl rfl ?_
  refine zy_n 2 (mr := zm_m17) (pc' := 2) (ls' := [(0, .ref 0), (1, .int a1)]) (st' := [.int a1, .ref 0]) rfl rfl ?_
  refine zy_c (mc := zm_m18) (mr := zm_m17) rfl rfl (zh_v rfl (zp_o F 0 rfl) rfl) rfl rfl ?_
  refine zy_n 3 (mr := zm_m18) (pc' := 3) (ls' := [(0, .ref 0), (1, .int a1)]) (st' := [.ref 0, .int 0, .int a1]) rfl rfl ?_
  refine zy_h (mr := zm_m18) rfl rfl (zh_get (v := .int 0) (zp_o F 0 rfl) rfl) ?_
  refine zy_n 2 (mr := zm_m18) (pc' := 8) (ls' := [(0, .ref 0), (1, .int a1)]) (st' := [.int (-1), .int 0, .int a1]) rfl rfl ?_
  refine zy_c (mc := zm_m10) (mr := zm_m18) rfl rfl rfl rfl rfl (zm_Y.mono (zk_within a1 0 (-1)) ?_)
  rintro r h1 ⟨rfl, ⟨rfl, hc1⟩ | ⟨rfl, hc1⟩⟩
  · exact absurd hc1 (zl_emp (by decide))
  refine zy_r (mr := zm_m18) rfl rfl rfl ?_
  refine zy_b (q := (24, [])) (mr := zm_m17) rfl rfl rfl ?_
  refine zy_n 1 (mr := zm_m17) (pc' := 25) (ls' := [(0, .ref 0), (1, .int a1)]) (st' := [.int 0]) rfl rfl ?_
  refine zy_r (mr := zm_m17) rfl rfl rfl ?_
  refine zy_b (q := (8, [])) (mr := zm_m30) rfl rfl rfl ?_
  refine zy_n 1 (mr := zm_m30) (pc' := 9) (ls' := [(0, .ref 0), (1, .int a1)]) (st' := [.int 0]) rfl rfl ?_
  refine zy_r (mr := zm_m30) rfl rfl rfl ?_
  refine ⟨⟨_, rfl, ?_⟩, fun k hk1 hk2 => rfl, Nat.le_trans (Nat.le_of_eq (zp_len F).1) (by decide), Nat.le_trans (Nat.le_of_eq (zp_len F).2) (by decide)⟩
  simp [zf_7]
set_option maxHeartbeats 4000000 in
set_option maxRecDepth 20000 in
theorem zx_8 {og : Nat → Option zm_C} {h : zm_H} (F : zp_ck h = true) (a1 : Int32) (a2 : Int32) (a3 : Int32) (a4 : Int32) (a5 : Int32) : zm_Y og 30 31 0 [(0, .ref 0), (1, .int a1), (2, .int a2), (3, .int a3), (4, .int a4), (5, .int a5)] [] h (fun r h1 => (∃ v, r = some (.int v) ∧ zf_8 a1 a2 a3 a4 a5 v) ∧ (∀ k : Nat, 55 ≤ k → k < 117 → h1[k]? = h[k]?) ∧ h1.length ≤ 200 ∧ zm_szs h1 ≤ 90000) := by
  refine zy_n 1 (mr := zm_m31) (pc' := 1) (ls' := [(0, .ref 0), (1, .int a1), (2, .int a2), (3, .int a3), (4, .int a4), (5, .int a5)]) (st' := [.ref 0]) rfl rfl ?_
  refine zy_h (mr := zm_m31) rfl rfl (zh_get (v := .ref 2) (zp_o F 0 rfl) rfl) ?_
  refine zy_n 1 (mr := zm_m31) (pc' := 6) (ls' := [(0, .ref 0), (1, .int a1), (2, .int a2), (3, .int a3), (4, .int a4), (5, .int a5)]) (st' := [.int 20, .ref 2]) rfl rfl ?_
  refine zy_c (mc := zm_m32) (mr := zm_m31) rfl rfl (zh_v rfl (zp_o F 1 rfl) rfl) rfl rfl ?_
  refine zy_n 1 (mr := zm_m32) (pc' := 1) (ls' := [(0, .ref 2), (1, .int 20)]) (st' := [.ref 2]) rfl rfl ?_
  refine zy_h (mr := zm_m32) rfl rfl (zh_get (v := .int 0) (zp_o F 1 rfl) rfl) ?_
  refine zy_n 3 (mr := zm_m32) (pc' := 9) (ls' := [(0, .ref 2), (1, .int 20)]) (st' := [.int 300, .int 20]) rfl rfl ?_
  refine zy_b (q := (12, [])) (mr := zm_m32) rfl rfl rfl ?_
  refine zy_n 2 (mr := zm_m32) (pc' := 17) (ls' := [(0, .ref 2), (1, .int 20)]) (st' := [.int 1]) rfl rfl ?_
  refine zy_r (mr := zm_m32) rfl rfl rfl ?_
  refine zy_b (q := (14, [])) (mr := zm_m31) rfl rfl rfl ?_
  refine zy_n 1 (mr := zm_m31) (pc' := 15) (ls' := [(0, .ref 0), (1, .int a1), (2, .int a2), (3, .int a3), (4, .int a4), (5, .int a5)]) (st' := [.ref 0]) rfl rfl ?_
  refine zy_h (mr := zm_m31) rfl rfl (zh_get (v := .ref 2) (zp_o F 0 rfl) rfl) ?_
  refine zy_n 1 (mr := zm_m31) (pc' := 19) (ls' := [(0, .ref 0), (1, .int a1), (2, .int a2), (3, .int a3), (4, .int a4), (5, .int a5)]) (st' := [.int a1, .ref 2]) rfl rfl ?_
  refine zy_c (mc := zm_m33) (mr := zm_m31) rfl rfl (zh_v rfl (zp_o F 1 rfl) rfl) rfl rfl ?_
  refine zy_n 3 (mr := zm_m33) (pc' := 4) (ls' := [(2, .int 24), (0, .ref 2), (1, .int a1)]) (st' := [.int 24]) rfl rfl ?_
  refine zy_b (q := (7, [])) (mr := zm_m33) rfl rfl rfl ?_
  refine zy_n 1 (mr := zm_m33) (pc' := 8) (ls' := [(2, .int 24), (0, .ref 2), (1, .int a1)]) (st' := [.ref 2]) rfl rfl ?_
  refine zy_h (mr := zm_m33) rfl rfl (zh_get (v := .int 0) (zp_o F 1 rfl) rfl) ?_
  refine zy_n 1 (mr := zm_m33) (pc' := 14) (ls' := [(2, .int 24), (0, .ref 2), (1, .int a1)]) (st' := [.int 300, .int 0]) rfl rfl ?_
  refine zy_b (q := (17, [])) (mr := zm_m33) rfl rfl rfl ?_
  refine zy_n 1 (mr := zm_m33) (pc' := 18) (ls' := [(2, .int 24), (0, .ref 2), (1, .int a1)]) (st' := [.ref 2]) rfl rfl ?_
  refine zy_h (mr := zm_m33) rfl rfl (zh_get (v := .ref 3) (zp_o F 1 rfl) rfl) ?_
  refine zy_n 2 (mr := zm_m33) (pc' := 23) (ls' := [(2, .int 24), (0, .ref 2), (1, .int a1)]) (st' := [.ref 2, .ref 2, .ref 3]) rfl rfl ?_
  refine zy_h (mr := zm_m33) rfl rfl (zh_get (v := .int 0) (zp_o F 1 rfl) rfl) ?_
  refine zy_n 3 (mr := zm_m33) (pc' := 29) (ls' := [(2, .int 24), (0, .ref 2), (1, .int a1)]) (st' := [.int 1, .ref 2, .int 0, .ref 3]) rfl rfl ?_
  refine zy_hS (x := .inr (7, [.ref 3, .int 1, .ref 4, .ref 5, .ref 6, .int 0, .int 0, .null, .int 0, .int (-1)])) (mr := zm_m33) rfl rfl (zh_put (zp_o F 1 rfl) rfl rfl) (fun he1 e1 => ?_)
  refine zy_n 5 (mr := zm_m33) (pc' := 39) (ls' := [(2, .int 24), (0, .ref 2), (1, .int a1)]) (st' := [.int ((a1 >>> (24 &&& 31)) &&& 255), .int 0, .ref 3]) rfl rfl ?_
  refine zy_hS (x := _) (mr := zm_m33) rfl rfl (zh_iast (zs_neE e1 (zp_i F 0 rfl) (by decide)) (by decide)) (fun he2 e2 => ?_)
  refine zy_n 3 (mr := zm_m33) (pc' := 4) (ls' := [(2, .int 16), (0, .ref 2), (1, .int a1)]) (st' := [.int 16]) rfl rfl ?_
  refine zy_b (q := (7, [])) (mr := zm_m33) rfl rfl rfl ?_
  refine zy_n 1 (mr := zm_m33) (pc' := 8) (ls' := [(2, .int 16), (0, .ref 2), (1, .int a1)]) (st' := [.ref 2]) rfl rfl ?_
  refine zy_h (mr := zm_m33) rfl rfl (zh_get (v := .int 1) (zs_neE e2 (zs_eqE e1 (zp_o F 1 rfl)) (by decide)) rfl) ?_
  refine zy_n 1 (mr := zm_m33) (pc' := 14) (ls' := [(2, .int 16), (0, .ref 2), (1, .int a1)]) (st' := [.int 300, .int 1]) rfl rfl ?_
  refine zy_b (q := (17, [])) (mr := zm_m33) rfl rfl rfl ?_
  refine zy_n 1 (mr := zm_m33) (pc' := 18) (ls' := [(2, .int 16), (0, .ref 2), (1, .int a1)]) (st' := [.ref 2]) rfl rfl ?_
  refine zy_h (mr := zm_m33) rfl rfl (zh_get (v := .ref 3) (zs_neE e2 (zs_eqE e1 (zp_o F 1 rfl)) (by decide)) rfl) ?_
  refine zy_n 2 (mr := zm_m33) (pc' := 23) (ls' := [(2, .int 16), (0, .ref 2), (1, .int a1)]) (st' := [.ref 2, .ref 2, .ref 3]) rfl rfl ?_
  refine zy_h (mr := zm_m33) rfl rfl (zh_get (v := .int 1) (zs_neE e2 (zs_eqE e1 (zp_o F 1 rfl)) (by decide)) rfl) ?_
  refine zy_n 3 (mr := zm_m33) (pc' := 29) (ls' := [(2, .int 16), (0, .ref 2), (1, .int a1)]) (st' := [.int 2, .ref 2, .int 1, .ref 3]) rfl rfl ?_
  refine zy_hS (x := .inr (7, [.ref 3, .int 2, .ref 4, .ref 5, .ref 6, .int 0, .int 0, .null, .int 0, .int (-1)])) (mr := zm_m33) rfl rfl (zh_put (zs_neE e2 (zs_eqE e1 (zp_o F 1 rfl)) (by decide)) rfl rfl) (fun he3 e3 => ?_)
  refine zy_n 5 (mr := zm_m33) (pc' := 39) (ls' := [(2, .int 16), (0, .ref 2), (1, .int a1)]) (st' := [.int ((a1 >>> (16 &&& 31)) &&& 255), .int 1, .ref 3]) rfl rfl ?_
  refine zy_hS (x := _) (mr := zm_m33) rfl rfl (zh_iast (zs_neE e3 (zs_eqE e2 (zs_neE e1 (zp_i F 0 rfl) (by decide))) (by decide)) (by decide)) (fun he4 e4 => ?_)
  refine zy_n 3 (mr := zm_m33) (pc' := 4) (ls' := [(2, .int 8), (0, .ref 2), (1, .int a1)]) (st' := [.int 8]) rfl rfl ?_
  refine zy_b (q := (7, [])) (mr := zm_m33) rfl rfl rfl ?_
  refine zy_n 1 (mr := zm_m33) (pc' := 8) (ls' := [(2, .int 8), (0, .ref 2), (1, .int a1)]) (st' := [.ref 2]) rfl rfl ?_
  refine zy_h (mr := zm_m33) rfl rfl (zh_get (v := .int 2) (zs_neE e4 (zs_eqE e3 (zs_neE e2 (zs_eqE e1 (zp_o F 1 rfl)) (by decide))) (by decide)) rfl) ?_
  refine zy_n 1 (mr := zm_m33) (pc' := 14) (ls' := [(2, .int 8), (0, .ref 2), (1, .int a1)]) (st' := [.int 300, .int 2]) rfl rfl ?_
  refine zy_b (q := (17, [])) (mr := zm_m33) rfl rfl rfl ?_
  refine zy_n 1 (mr := zm_m33) (pc' := 18) (ls' := [(2, .int 8), (0, .ref 2), (1, .int a1)]) (st' := [.ref 2]) rfl rfl ?_
  as_aux_lemma =>
    refine zy_h (mr := zm_m33) rfl rfl (zh_get (v := .ref 3) (zs_neE e4 (zs_eqE e3 (zs_neE e2 (zs_eqE e1 (zp_o F 1 rfl)) (by decide))) (by decide)) rfl) ?_
    refine zy_n 2 (mr := zm_m33) (pc' := 23) (ls' := [(2, .int 8), (0, .ref 2), (1, .int a1)]) (st' := [.ref 2, .ref 2, .ref 3]) rfl rfl ?_
    refine zy_h (mr := zm_m33) rfl rfl (zh_get (v := .int 2) (zs_neE e4 (zs_eqE e3 (zs_neE e2 (zs_eqE e1 (zp_o F 1 rfl)) (by decide))) (by decide)) rfl) ?_
    refine zy_n 3 (mr := zm_m33) (pc' := 29) (ls' := [(2, .int 8), (0, .ref 2), (1, .int a1)]) (st' := [.int 3, .ref 2, .int 2, .ref 3]) rfl rfl ?_
    refine zy_hS (x := .inr (7, [.ref 3, .int 3, .ref 4, .ref 5, .ref 6, .int 0, .int 0, .null, .int 0, .int (-1)])) (mr := zm_m33) rfl rfl (zh_put (zs_neE e4 (zs_eqE e3 (zs_neE e2 (zs_eqE e1 (zp_o F 1 rfl)) (by decide))) (by decide)) rfl rfl) (fun he5 e5 => ?_)
    refine zy_n 5 (mr := zm_m33) (pc' := 39) (ls' := [(2, .int 8), (0, .ref 2), (1, .int a1)]) (st' := [.int ((a1 >>> (8 &&& 31)) &&& 255), .int 2, .ref 3]) rfl rfl ?_
    have k6 := (zs_neE e5 (zs_eqE e4 (zs_neE e3 (zs_eqE e2 (zs_neE e1 (zp_i F 0 rfl) (by decide))) (by decide))) (by decide))
    refine zy_hS (x := _) (mr := zm_m33) rfl rfl (zh_iast k6 (by decide)) (fun he7 e7 => ?_)
    refine zy_n 3 (mr := zm_m33) (pc' := 4) (ls' := [(2, .int 0), (0, .ref 2), (1, .int a1)]) (st' := [.int 0]) rfl rfl ?_
    refine zy_b (q := (7, [])) (mr := zm_m33) rfl rfl rfl ?_
    refine zy_n 1 (mr := zm_m33) (pc' := 8) (ls' := [(2, .int 0), (0, .ref 2), (1, .int a1)]) (st' := [.ref 2]) rfl rfl ?_
    have k8 := (zs_neE e7 (zs_eqE e5 (zs_neE e4 (zs_eqE e3 (zs_neE e2 (zs_eqE e1 (zp_o F 1 rfl)) (by decide))) (by decide))) (by decide))
    refine zy_h (mr := zm_m33) rfl rfl (zh_get (v := .int 3) k8 rfl) ?_
    refine zy_n 1 (mr := zm_m33) (pc' := 14) (ls' := [(2, .int 0), (0, .ref 2), (1, .int a1)]) (st' := [.int 300, .int 3]) rfl rfl ?_
    refine zy_b (q := (17, [])) (mr := zm_m33) rfl rfl rfl ?_
    refine zy_n 1 (mr := zm_m33) (pc' := 18) (ls' := [(2, .int 0), (0, .ref 2), (1, .int a1)]) (st' := [.ref 2]) rfl rfl ?_
    refine zy_h (mr := zm_m33) rfl rfl (zh_get (v := .ref 3) k8 rfl) ?_
    refine zy_n 2 (mr := zm_m33) (pc' := 23) (ls' := [(2, .int 0), (0, .ref 2), (1, .int a1)]) (st' := [.ref 2, .ref 2, .ref 3]) rfl rfl ?_
    refine zy_h (mr := zm_m33) rfl rfl (zh_get (v := .int 3) k8 rfl) ?_
    refine zy_n 3 (mr := zm_m33) (pc' := 29) (ls' := [(2, .int 0), (0, .ref 2), (1, .int a1)]) (st' := [.int 4, .ref 2, .int 3, .ref 3]) rfl rfl ?_
    refine zy_hS (x := .inr (7, [.ref 3, .int 4, .ref 4, .ref 5, .ref 6, .int 0, .int 0, .null, .int 0, .int (-1)])) (mr := zm_m33) rfl rfl (zh_put k8 rfl rfl) (fun he9 e9 => ?_)
    refine zy_n 5 (mr := zm_m33) (pc' := 39) (ls' := [(2, .int 0), (0, .ref 2), (1, .int a1)]) (st' := [.int ((a1 >>> (0 &&& 31)) &&& 255), .int 3, .ref 3]) rfl rfl ?_
    refine zy_hS (x := _) (mr := zm_m33) rfl rfl (zh_iast (zs_neE e9 (zs_eqE e7 k6) (by decide)) (by decide)) (fun he10 e10 => ?_)
    refine zy_n 3 (mr := zm_m33) (pc' := 4) (ls' := [(2, .int (-8)), (0, .ref 2), (1, .int a1)]) (st' := [.int (-8)]) rfl rfl ?_
    refine zy_b (q := (46, [])) (mr := zm_m33) rfl rfl rfl ?_
    refine zy_r (mr := zm_m33) rfl rfl rfl ?_
    refine zy_n 1 (mr := zm_m31) (pc' := 23) (ls' := [(0, .ref 0), (1, .int a1), (2, .int a2), (3, .int a3), (4, .int a4), (5, .int a5)]) (st' := [.ref 0]) rfl rfl ?_
    have k11 := (zs_neE e10 (zs_neE e9 (zs_neE e7 (zs_neE e5 (zs_neE e4 (zs_neE e3 (zs_neE e2 (zs_neE e1 (zp_o F 0 rfl) (by decide)) (by decide)) (by decide)) (by decide)) (by decide)) (by decide)) (by decide)) (by decide))
    refine zy_h (mr := zm_m31) rfl rfl (zh_get (v := .ref 2) k11 rfl) ?_
    refine zy_n 1 (mr := zm_m31) (pc' := 27) (ls' := [(0, .ref 0), (1, .int a1), (2, .int a2), (3, .int a3), (4, .int a4), (5, .int a5)]) (st' := [.int a2, .ref 2]) rfl rfl ?_
    refine zy_c (mc := zm_m33) (mr := zm_m31) rfl rfl (zh_v rfl (zs_neE e10 (zs_eqE e9 k8) (by decide)) rfl) rfl rfl ?_
    refine zy_n 3 (mr := zm_m33) (pc' := 4) (ls' := [(2, .int 24), (0, .ref 2), (1, .int a2)]) (st' := [.int 24]) rfl rfl ?_
    refine zy_b (q := (7, [])) (mr := zm_m33) rfl rfl rfl ?_
    refine zy_n 1 (mr := zm_m33) (pc' := 8) (ls' := [(2, .int 24), (0, .ref 2), (1, .int a2)]) (st' := [.ref 2]) rfl rfl ?_
    refine zy_h (mr := zm_m33) rfl rfl (zh_get (v := .int 4) (zs_neE e10 (zs_eqE e9 k8) (by decide)) rfl) ?_
    refine zy_n 1 (mr := zm_m33) (pc' := 14) (ls' := [(2, .int 24), (0, .ref 2), (1, .int a2)]) (st' := [.int 300, .int 4]) rfl rfl ?_
    refine zy_b (q := (17, [])) (mr := zm_m33) rfl rfl rfl ?_
    refine zy_n 1 (mr := zm_m33) (pc' := 18) (ls' := [(2, .int 24), (0, .ref 2), (1, .int a2)]) (st' := [.ref 2]) rfl rfl ?_
    refine zy_h (mr := zm_m33) rfl rfl (zh_get (v := .ref 3) (zs_neE e10 (zs_eqE e9 k8) (by decide)) rfl) ?_
    refine zy_n 2 (mr := zm_m33) (pc' := 23) (ls' := [(2, .int 24), (0, .ref 2), (1, .int a2)]) (st' := [.ref 2, .ref 2, .ref 3]) rfl rfl ?_
    refine zy_h (mr := zm_m33) rfl rfl (zh_get (v := .int 4) (zs_neE e10 (zs_eqE e9 k8) (by decide)) rfl) ?_
    refine zy_n 3 (mr := zm_m33) (pc' := 29) (ls' := [(2, .int 24), (0, .ref 2), (1, .int a2)]) (st' := [.int 5, .ref 2, .int 4, .ref 3]) rfl rfl ?_
    refine zy_hS (x := .inr (7, [.ref 3, .int 5, .ref 4, .ref 5, .ref 6, .int 0, .int 0, .null, .int 0, .int (-1)])) (mr := zm_m33) rfl rfl (zh_put (zs_neE e10 (zs_eqE e9 k8) (by decide)) rfl rfl) (fun he12 e12 => ?_)
    refine zy_n 5 (mr := zm_m33) (pc' := 39) (ls' := [(2, .int 24), (0, .ref 2), (1, .int a2)]) (st' := [.int ((a2 >>> (24 &&& 31)) &&& 255), .int 4, .ref 3]) rfl rfl ?_
    refine zy_hS (x := _) (mr := zm_m33) rfl rfl (zh_iast (zs_neE e12 (zs_eqE e10 (zs_neE e9 (zs_eqE e7 k6) (by decide))) (by decide)) (by decide)) (fun he13 e13 => ?_)
    refine zy_n 3 (mr := zm_m33) (pc' := 4) (ls' := [(2, .int 16), (0, .ref 2), (1, .int a2)]) (st' := [.int 16]) rfl rfl ?_
    refine zy_b (q := (7, [])) (mr := zm_m33) rfl rfl rfl ?_
    refine zy_n 1 (mr := zm_m33) (pc' := 8) (ls' := [(2, .int 16), (0, .ref 2), (1, .int a2)]) (st' := [.ref 2]) rfl rfl ?_
    refine zy_h (mr := zm_m33) rfl rfl (zh_get (v := .int 5) (zs_neE e13 (zs_eqE e12 (zs_neE e10 (zs_eqE e9 k8) (by decide))) (by decide)) rfl) ?_
    refine zy_n 1 (mr := zm_m33) (pc' := 14) (ls' := [(2, .int 16), (0, .ref 2), (1, .int a2)]) (st' := [.int 300, .int 5]) rfl rfl ?_
    refine zy_b (q := (17, [])) (mr := zm_m33) rfl rfl rfl ?_
    refine zy_n 1 (mr := zm_m33) (pc' := 18) (ls' := [(2, .int 16), (0, .ref 2), (1, .int a2)]) (st' := [.ref 2]) rfl rfl ?_
    as_aux_lemma =>
      refine zy_h (mr := zm_m33) rfl rfl (zh_get (v := .ref 3) (zs_neE e13 (zs_eqE e12 (zs_neE e10 (zs_eqE e9 k8) (by decide))) (by decide)) rfl) ?_
      refine zy_n 2 (mr := zm_m33) (pc' := 23) (ls' := [(2, .int 16), (0, .ref 2), (1, .int a2)]) (st' := [.ref 2, .ref 2, .ref 3]) rfl rfl ?_
      refine zy_h (mr := zm_m33) rfl rfl (zh_get (v := .int 5) (zs_neE e13 (zs_eqE e12 (zs_neE e10 (zs_eqE e9 k8) (by decide))) (by decide)) rfl) ?_
      refine zy_n 3 (mr := zm_m33) (pc' := 29) (ls' := [(2, .int 16), (0, .ref 2), (1, .int a2)]) (st' := [.int 6, .ref 2, .int 5, .ref 3]) rfl rfl ?_
      refine zy_hS (x := .inr (7, [.ref 3, .int 6, .ref 4, .ref 5, .ref 6, .int 0, .int 0, .null, .int 0, .int (-1)])) (mr := zm_m33) rfl rfl (zh_put (zs_neE e13 (zs_eqE e12 (zs_neE e10 (zs_eqE e9 k8) (by decide))) (by decide)) rfl rfl) (fun he14 e14 => ?_)
      refine zy_n 5 (mr := zm_m33) (pc' := 39) (ls' := [(2, .int 16), (0, .ref 2), (1, .int a2)]) (st' := [.int ((a2 >>> (16 &&& 31)) &&& 255), .int 5, .ref 3]) rfl rfl ?_
      have k15 := (zs_neE e14 (zs_eqE e13 (zs_neE e12 (zs_eqE e10 (zs_neE e9 (zs_eqE e7 k6) (by decide))) (by decide))) (by decide))
      refine zy_hS (x := _) (mr := zm_m33) rfl rfl (zh_iast k15 (by decide)) (fun he16 e16 => ?_)
      refine zy_n 3 (mr := zm_m33) (pc' := 4) (ls' := [(2, .int 8), (0, .ref 2), (1, .int a2)]) (st' := [.int 8]) rfl rfl ?_
      refine zy_b (q := (7, [])) (mr := zm_m33) rfl rfl rfl ?_
      refine zy_n 1 (mr := zm_m33) (pc' := 8) (ls' := [(2, .int 8), (0, .ref 2), (1, .int a2)]) (st' := [.ref 2]) rfl rfl ?_
      have k17 := (zs_neE e16 (zs_eqE e14 (zs_neE e13 (zs_eqE e12 (zs_neE e10 (zs_eqE e9 k8) (by decide))) (by decide))) (by decide))
      refine zy_h (mr := zm_m33) rfl rfl (zh_get (v := .int 6) k17 rfl) ?_
      refine zy_n 1 (mr := zm_m33) (pc' := 14) (ls' := [(2, .int 8), (0, .ref 2), (1, .int a2)]) (st' := [.int 300, .int 6]) rfl rfl ?_
      refine zy_b (q := (17, [])) (mr := zm_m33) rfl rfl rfl ?_
      refine zy_n 1 (mr := zm_m33) (pc' := 18) (ls' := [(2, .int 8), (0, .ref 2), (1, .int a2)]) (st' := [.ref 2]) rfl rfl ?_
      refine zy_h (mr := zm_m33) rfl rfl (zh_get (v := .ref 3) k17 rfl) ?_
      refine zy_n 2 (mr := zm_m33) (pc' := 23) (ls' := [(2, .int 8), (0, .ref 2), (1, .int a2)]) (st' := [.ref 2, .ref 2, .ref 3]) rfl rfl ?_
      refine zy_h (mr := zm_m33) rfl rfl (zh_get (v := .int 6) k17 rfl) ?_
      refine zy_n 3 (mr := zm_m33) (pc' := 29) (ls' := [(2, .int 8), (0, .ref 2), (1, .int a2)]) (st' := [.int 7, .ref 2, .int 6, .ref 3]) rfl rfl ?_
      refine zy_hS (x := .inr (7, [.ref 3, .int 7, .ref 4, .ref 5, .ref 6, .int 0, .int 0, .null, .int 0, .int (-1)])) (mr := zm_m33) rfl rfl (zh_put k17 rfl rfl) (fun he18 e18 => ?_)
      refine zy_n 5 (mr := zm_m33) (pc' := 39) (ls' := [(2, .int 8), (0, .ref 2), (1, .int a2)]) (st' := [.int ((a2 >>> (8 &&& 31)) &&& 255), .int 6, .ref 3]) rfl rfl ?_
      refine zy_hS (x := _) (mr := zm_m33) rfl rfl (zh_iast (zs_neE e18 (zs_eqE e16 k15) (by decide)) (by decide)) (fun he19 e19 => ?_)
      refine zy_n 3 (mr := zm_m33) (pc' := 4) (ls' := [(2, .int 0), (0, .ref 2), (1, .int a2)]) (st' := [.int 0]) rfl rfl ?_
      refine zy_b (q := (7, [])) (mr := zm_m33) rfl rfl rfl ?_
      refine zy_n 1 (mr := zm_m33) (pc' := 8) (ls' := [(2, .int 0), (0, .ref 2), (1, .int a2)]) (st' := [.ref 2]) rfl rfl ?_
      refine zy_h (mr := zm_m33) rfl rfl (zh_get (v := .int 7) (zs_neE e19 (zs_eqE e18 k17) (by decide)) rfl) ?_
      refine zy_n 1 (mr := zm_m33) (pc' := 14) (ls' := [(2, .int 0), (0, .ref 2), (1, .int a2)]) (st' := [.int 300, .int 7]) rfl rfl ?_
      refine zy_b (q := (17, [])) (mr := zm_m33) rfl rfl rfl ?_
      refine zy_n 1 (mr := zm_m33) (pc' := 18) (ls' := [(2, .int 0), (0, .ref 2), (1, .int a2)]) (st' := [.ref 2]) rfl rfl ?_
      refine zy_h (mr := zm_m33) rfl rfl (zh_get (v := .ref 3) (zs_neE e19 (zs_eqE e18 k17) (by decide)) rfl) ?_
      refine zy_n 2 (mr := zm_m33) (pc' := 23) (ls' := [(2, .int 0), (0, .ref 2), (1, .int a2)]) (st' := [.ref 2, .ref 2, .ref 3]) rfl rfl ?_
      refine zy_h (mr := zm_m33) rfl rfl (zh_get (v := .int 7) (zs_neE e19 (zs_eqE e18 k17) (by decide)) rfl) ?_
      refine zy_n 3 (mr := zm_m33) (pc' := 29) (ls' := [(2, .int 0), (0, .ref 2), (1, .int a2)]) (st' := [.int 8, .ref 2, .int 7, .ref 3]) rfl rfl ?_
      refine zy_hS (x := .inr (7, [.ref 3, .int 8, .ref 4, .ref 5, .ref 6, .int 0, .int 0, .null, .int 0, .int (-1)])) (mr := zm_m33) rfl rfl (zh_put (zs_neE e19 (zs_eqE e18 k17) (by decide)) rfl rfl) (fun he20 e20 => ?_)
      refine zy_n 5 (mr := zm_m33) (pc' := 39) (ls' := [(2, .int 0), (0, .ref 2), (1, .int a2)]) (st' := [.int ((a2 >>> (0 &&& 31)) &&& 255), .int 7, .ref 3]) rfl rfl ?_
      refine zy_hS (x := _) (mr := zm_m33) rfl rfl (zh_iast (zs_neE e20 (zs_eqE e19 (zs_neE e18 (zs_eqE e16 k15) (by decide))) (by decide)) (by decide)) (fun he21 e21 => ?_)
      refine zy_n 3 (mr := zm_m33) (pc' := 4) (ls' := [(2, .int (-8)), (0, .ref 2), (1, .int a2)]) (st' := [.int (-8)]) rfl rfl ?_
      refine zy_b (q := (46, [])) (mr := zm_m33) rfl rfl rfl ?_
      refine zy_r (mr := zm_m33) rfl rfl rfl ?_
      refine zy_n 1 (mr := zm_m31) (pc' := 31) (ls' := [(0, .ref 0), (1, .int a1), (2, .int a2), (3, .int a3), (4, .int a4), (5, .int a5)]) (st' := [.ref 0]) rfl rfl ?_
      have k22 := (zs_neE e21 (zs_neE e20 (zs_neE e19 (zs_neE e18 (zs_neE e16 (zs_neE e14 (zs_neE e13 (zs_neE e12 k11 (by decide)) (by decide)) (by decide)) (by decide)) (by decide)) (by decide)) (by decide)) (by decide))
      refine zy_h (mr := zm_m31) rfl rfl (zh_get (v := .ref 2) k22 rfl) ?_
      refine zy_n 1 (mr := zm_m31) (pc' := 35) (ls' := [(0, .ref 0), (1, .int a1), (2, .int a2), (3, .int a3), (4, .int a4), (5, .int a5)]) (st' := [.int a3, .ref 2]) rfl rfl ?_
      refine zy_c (mc := zm_m33) (mr := zm_m31) rfl rfl (zh_v rfl (zs_neE e21 (zs_eqE e20 (zs_neE e19 (zs_eqE e18 k17) (by decide))) (by decide)) rfl) rfl rfl ?_
      refine zy_n 3 (mr := zm_m33) (pc' := 4) (ls' := [(2, .int 24), (0, .ref 2), (1, .int a3)]) (st' := [.int 24]) rfl rfl ?_
      refine zy_b (q := (7, [])) (mr := zm_m33) rfl rfl rfl ?_
      refine zy_n 1 (mr := zm_m33) (pc' := 8) (ls' := [(2, .int 24), (0, .ref 2), (1, .int a3)]) (st' := [.ref 2]) rfl rfl ?_
      refine zy_h (mr := zm_m33) rfl rfl (zh_get (v := .int 8) (zs_neE e21 (zs_eqE e20 (zs_neE e19 (zs_eqE e18 k17) (by decide))) (by decide)) rfl) ?_
      refine zy_n 1 (mr := zm_m33) (pc' := 14) (ls' := [(2, .int 24), (0, .ref 2), (1, .int a3)]) (st' := [.int 300, .int 8]) rfl rfl ?_
      refine zy_b (q := (17, [])) (mr := zm_m33) rfl rfl rfl ?_
      refine zy_n 1 (mr := zm_m33) (pc' := 18) (ls' := [(2, .int 24), (0, .ref 2), (1, .int a3)]) (st' := [.ref 2]) rfl rfl ?_
      as_aux_lemma =>
        refine zy_h (mr := zm_m33) rfl rfl (zh_get (v := .ref 3) (zs_neE e21 (zs_eqE e20 (zs_neE e19 (zs_eqE e18 k17) (by decide))) (by decide)) rfl) ?_
        refine zy_n 2 (mr := zm_m33) (pc' := 23) (ls' := [(2, .int 24), (0, .ref 2), (1, .int a3)]) (st' := [.ref 2, .ref 2, .ref 3]) rfl rfl ?_
        refine zy_h (mr := zm_m33) rfl rfl (zh_get (v := .int 8) (zs_neE e21 (zs_eqE e20 (zs_neE e19 (zs_eqE e18 k17) (by decide))) (by decide)) rfl) ?_
        refine zy_n 3 (mr := zm_m33) (pc' := 29) (ls' := [(2, .int 24), (0, .ref 2), (1, .int a3)]) (st' := [.int 9, .ref 2, .int 8, .ref 3]) rfl rfl ?_
        refine zy_hS (x := .inr (7, [.ref 3, .int 9, .ref 4, .ref 5, .ref 6, .int 0, .int 0, .null, .int 0, .int (-1)])) (mr := zm_m33) rfl rfl (zh_put (zs_neE e21 (zs_eqE e20 (zs_neE e19 (zs_eqE e18 k17) (by decide))) (by decide)) rfl rfl) (fun he23 e23 => ?_)
        refine zy_n 5 (mr := zm_m33) (pc' := 39) (ls' := [(2, .int 24), (0, .ref 2), (1, .int a3)]) (st' := [.int ((a3 >>> (24 &&& 31)) &&& 255), .int 8, .ref 3]) rfl rfl ?_
        have k24 := (zs_neE e23 (zs_eqE e21 (zs_neE e20 (zs_eqE e19 (zs_neE e18 (zs_eqE e16 k15) (by decide))) (by decide))) (by decide))
        refine zy_hS (x := _) (mr := zm_m33) rfl rfl (zh_iast k24 (by decide)) (fun he25 e25 => ?_)
        refine zy_n 3 (mr := zm_m33) (pc' := 4) (ls' := [(2, .int 16), (0, .ref 2), (1, .int a3)]) (st' := [.int 16]) rfl rfl ?_
        refine zy_b (q := (7, [])) (mr := zm_m33) rfl rfl rfl ?_
        refine zy_n 1 (mr := zm_m33) (pc' := 8) (ls' := [(2, .int 16), (0, .ref 2), (1, .int a3)]) (st' := [.ref 2]) rfl rfl ?_
        have k26 := (zs_neE e25 (zs_eqE e23 (zs_neE e21 (zs_eqE e20 (zs_neE e19 (zs_eqE e18 k17) (by decide))) (by decide))) (by decide))
        refine zy_h (mr := zm_m33) rfl rfl (zh_get (v := .int 9) k26 rfl) ?_
        refine zy_n 1 (mr := zm_m33) (pc' := 14) (ls' := [(2, .int 16), (0, .ref 2), (1, .int a3)]) (st' := [.int 300, .int 9]) rfl rfl ?_
        refine zy_b (q := (17, [])) (mr := zm_m33) rfl rfl rfl ?_
        refine zy_n 1 (mr := zm_m33) (pc' := 18) (ls' := [(2, .int 16), (0, .ref 2), (1, .int a3)]) (st' := [.ref 2]) rfl rfl ?_
        refine zy_h (mr := zm_m33) rfl rfl (zh_get (v := .ref 3) k26 rfl) ?_
        refine zy_n 2 (mr := zm_m33) (pc' := 23) (ls' := [(2, .int 16), (0, .ref 2), (1, .int a3)]) (st' := [.ref 2, .ref 2, .ref 3]) rfl rfl ?_
        refine zy_h (mr := zm_m33) rfl rfl (zh_get (v := .int 9) k26 rfl) ?_
        refine zy_n 3 (mr := zm_m33) (pc' := 29) (ls' := [(2, .int 16), (0, .ref 2), (1, .int a3)]) (st' := [.int 10, .ref 2, .int 9, .ref 3]) rfl rfl ?_
        refine zy_hS (x := .inr (7, [.ref 3, .int 10, .ref 4, .ref 5, .ref 6, .int 0, .int 0, .null, .int 0, .int (-1)])) (mr := zm_m33) rfl rfl (zh_put k26 rfl rfl) (fun he27 e27 => ?_)
        refine zy_n 5 (mr := zm_m33) (pc' := 39) (ls' := [(2, .int 16), (0, .ref 2), (1, .int a3)]) (st' := [.int ((a3 >>> (16 &&& 31)) &&& 255), .int 9, .ref 3]) rfl rfl ?_
        refine zy_hS (x := _) (mr := zm_m33) rfl rfl (zh_iast (zs_neE e27 (zs_eqE e25 k24) (by decide)) (by decide)) (fun he28 e28 => ?_)
        refine zy_n 3 (mr := zm_m33) (pc' := 4) (ls' := [(2, .int 8), (0, .ref 2), (1, .int a3)]) (st' := [.int 8]) rfl rfl ?_
        refine zy_b (q := (7, [])) (mr := zm_m33) rfl rfl rfl ?_
        refine zy_n 1 (mr := zm_m33) (pc' := 8) (ls' := [(2, .int 8), (0, .ref 2), (1, .int a3)]) (st' := [.ref 2]) rfl rfl ?_
        refine zy_h (mr := zm_m33) rfl rfl (zh_get (v := .int 10) (zs_neE e28 (zs_eqE e27 k26) (by decide)) rfl) ?_
        refine zy_n 1 (mr := zm_m33) (pc' := 14) (ls' := [(2, .int 8), (0, .ref 2), (1, .int a3)]) (st' := [.int 300, .int 10]) rfl rfl ?_
        refine zy_b (q := (17, [])) (mr := zm_m33) rfl rfl rfl ?_
        refine zy_n 1 (mr := zm_m33) (pc' := 18) (ls' := [(2, .int 8), (0, .ref 2), (1, .int a3)]) (st' := [.ref 2]) rfl rfl ?_
        refine zy_h (mr := zm_m33) rfl rfl (zh_get (v := .ref 3) (zs_neE e28 (zs_eqE e27 k26) (by decide)) rfl) ?_
        refine zy_n 2 (mr := zm_m33) (pc' := 23) (ls' := [(2, .int 8), (0, .ref 2), (1, .int a3)]) (st' := [.ref 2, .ref 2, .ref 3]) rfl rfl ?_
        refine zy_h (mr := zm_m33) rfl rfl (zh_get (v := .int 10) (zs_neE e28 (zs_eqE e27 k26) (by decide)) rfl) ?_
        refine zy_n 3 (mr := zm_m33) (pc' := 29) (ls' := [(2, .int 8), (0, .ref 2), (1, .int a3)]) (st' := [.int 11, .ref 2, .int 10, .ref 3]) rfl rfl ?_
        refine zy_hS (x := .inr (7, [.ref 3, .int 11, .ref 4, .ref 5, .ref 6, .int 0, .int 0, .null, .int 0, .int (-1)])) (mr := zm_m33) rfl rfl (zh_put (zs_neE e28 (zs_eqE e27 k26) (by decide)) rfl rfl) (fun he29 e29 => ?_)
        refine zy_n 5 (mr := zm_m33) (pc' := 39) (ls' := [(2, .int 8), (0, .ref 2), (1, .int a3)]) (st' := [.int ((a3 >>> (8 &&& 31)) &&& 255), .int 10, .ref 3]) rfl rfl ?_
        refine zy_hS (x := _) (mr := zm_m33) rfl rfl (zh_iast (zs_neE e29 (zs_eqE e28 (zs_neE e27 (zs_eqE e25 k24) (by decide))) (by decide)) (by decide)) (fun he30 e30 => ?_)
        refine zy_n 3 (mr := zm_m33) (pc' := 4) (ls' := [(2, .int 0), (0, .ref 2), (1, .int a3)]) (st' := [.int 0]) rfl rfl ?_
        refine zy_b (q := (7, [])) (mr := zm_m33) rfl rfl rfl ?_
        refine zy_n 1 (mr := zm_m33) (pc' := 8) (ls' := [(2, .int 0), (0, .ref 2), (1, .int a3)]) (st' := [.ref 2]) rfl rfl ?_
        refine zy_h (mr := zm_m33) rfl rfl (zh_get (v := .int 11) (zs_neE e30 (zs_eqE e29 (zs_neE e28 (zs_eqE e27 k26) (by decide))) (by decide)) rfl) ?_
        refine zy_n 1 (mr := zm_m33) (pc' := 14) (ls' := [(2, .int 0), (0, .ref 2), (1, .int a3)]) (st' := [.int 300, .int 11]) rfl rfl ?_
        refine zy_b (q := (17, [])) (mr := zm_m33) rfl rfl rfl ?_
        refine zy_n 1 (mr := zm_m33) (pc' := 18) (ls' := [(2, .int 0), (0, .ref 2), (1, .int a3)]) (st' := [.ref 2]) rfl rfl ?_
        refine zy_h (mr := zm_m33) rfl rfl (zh_get (v := .ref 3) (zs_neE e30 (zs_eqE e29 (zs_neE e28 (zs_eqE e27 k26) (by decide))) (by decide)) rfl) ?_
        refine zy_n 2 (mr := zm_m33) (pc' := 23) (ls' := [(2, .int 0), (0, .ref 2), (1, .int a3)]) (st' := [.ref 2, .ref 2, .ref 3]) rfl rfl ?_
        refine zy_h (mr := zm_m33) rfl rfl (zh_get (v := .int 11) (zs_neE e30 (zs_eqE e29 (zs_neE e28 (zs_eqE e27 k26) (by decide))) (by decide)) rfl) ?_
        refine zy_n 3 (mr := zm_m33) (pc' := 29) (ls' := [(2, .int 0), (0, .ref 2), (1, .int a3)]) (st' := [.int 12, .ref 2, .int 11, .ref 3]) rfl rfl ?_
        refine zy_hS (x := .inr (7, [.ref 3, .int 12, .ref 4, .ref 5, .ref 6, .int 0, .int 0, .null, .int 0, .int (-1)])) (mr := zm_m33) rfl rfl (zh_put (zs_neE e30 (zs_eqE e29 (zs_neE e28 (zs_eqE e27 k26) (by decide))) (by decide)) rfl rfl) (fun he31 e31 => ?_)
        refine zy_n 5 (mr := zm_m33) (pc' := 39) (ls' := [(2, .int 0), (0, .ref 2), (1, .int a3)]) (st' := [.int ((a3 >>> (0 &&& 31)) &&& 255), .int 11, .ref 3]) rfl rfl ?_
        have k32 := (zs_neE e31 (zs_eqE e30 (zs_neE e29 (zs_eqE e28 (zs_neE e27 (zs_eqE e25 k24) (by decide))) (by decide))) (by decide))
        refine zy_hS (x := _) (mr := zm_m33) rfl rfl (zh_iast k32 (by decide)) (fun he33 e33 => ?_)
        refine zy_n 3 (mr := zm_m33) (pc' := 4) (ls' := [(2, .int (-8)), (0, .ref 2), (1, .int a3)]) (st' := [.int (-8)]) rfl rfl ?_
        as_aux_lemma =>
          refine zy_b (q := (46, [])) (mr := zm_m33) rfl rfl rfl ?_
          refine zy_r (mr := zm_m33) rfl rfl rfl ?_
          refine zy_n 1 (mr := zm_m31) (pc' := 39) (ls' := [(0, .ref 0), (1, .int a1), (2, .int a2), (3, .int a3), (4, .int a4), (5, .int a5)]) (st' := [.ref 0]) rfl rfl ?_
          have k34 := (zs_neE e33 (zs_neE e31 (zs_neE e30 (zs_neE e29 (zs_neE e28 (zs_neE e27 (zs_neE e25 (zs_neE e23 k22 (by decide)) (by decide)) (by decide)) (by decide)) (by decide)) (by decide)) (by decide)) (by decide))
          refine zy_h (mr := zm_m31) rfl rfl (zh_get (v := .ref 2) k34 rfl) ?_
          refine zy_n 1 (mr := zm_m31) (pc' := 44) (ls' := [(0, .ref 0), (1, .int a1), (2, .int a2), (3, .int a3), (4, .int a4), (5, .int a5)]) (st' := [.int a4, .ref 2]) rfl rfl ?_
          have k35 := (zs_neE e33 (zs_eqE e31 (zs_neE e30 (zs_eqE e29 (zs_neE e28 (zs_eqE e27 k26) (by decide))) (by decide))) (by decide))
          refine zy_c (mc := zm_m33) (mr := zm_m31) rfl rfl (zh_v rfl k35 rfl) rfl rfl ?_
          refine zy_n 3 (mr := zm_m33) (pc' := 4) (ls' := [(2, .int 24), (0, .ref 2), (1, .int a4)]) (st' := [.int 24]) rfl rfl ?_
          refine zy_b (q := (7, [])) (mr := zm_m33) rfl rfl rfl ?_
          refine zy_n 1 (mr := zm_m33) (pc' := 8) (ls' := [(2, .int 24), (0, .ref 2), (1, .int a4)]) (st' := [.ref 2]) rfl rfl ?_
          refine zy_h (mr := zm_m33) rfl rfl (zh_get (v := .int 12) k35 rfl) ?_
          refine zy_n 1 (mr := zm_m33) (pc' := 14) (ls' := [(2, .int 24), (0, .ref 2), (1, .int a4)]) (st' := [.int 300, .int 12]) rfl rfl ?_
          refine zy_b (q := (17, [])) (mr := zm_m33) rfl rfl rfl ?_
          refine zy_n 1 (mr := zm_m33) (pc' := 18) (ls' := [(2, .int 24), (0, .ref 2), (1, .int a4)]) (st' := [.ref 2]) rfl rfl ?_
          refine zy_h (mr := zm_m33) rfl rfl (zh_get (v := .ref 3) k35 rfl) ?_
          refine zy_n 2 (mr := zm_m33) (pc' := 23) (ls' := [(2, .int 24), (0, .ref 2), (1, .int a4)]) (st' := [.ref 2, .ref 2, .ref 3]) rfl rfl ?_
          refine zy_h (mr := zm_m33) rfl rfl (zh_get (v := .int 12) k35 rfl) ?_
          refine zy_n 3 (mr := zm_m33) (pc' := 29) (ls' := [(2, .int 24), (0, .ref 2), (1, .int a4)]) (st' := [.int 13, .ref 2, .int 12, .ref 3]) rfl rfl ?_
          refine zy_hS (x := .inr (7, [.ref 3, .int 13, .ref 4, .ref 5, .ref 6, .int 0, .int 0, .null, .int 0, .int (-1)])) (mr := zm_m33) rfl rfl (zh_put k35 rfl rfl) (fun he36 e36 => ?_)
          refine zy_n 5 (mr := zm_m33) (pc' := 39) (ls' := [(2, .int 24), (0, .ref 2), (1, .int a4)]) (st' := [.int ((a4 >>> (24 &&& 31)) &&& 255), .int 12, .ref 3]) rfl rfl ?_
          refine zy_hS (x := _) (mr := zm_m33) rfl rfl (zh_iast (zs_neE e36 (zs_eqE e33 k32) (by decide)) (by decide)) (fun he37 e37 => ?_)
          refine zy_n 3 (mr := zm_m33) (pc' := 4) (ls' := [(2, .int 16), (0, .ref 2), (1, .int a4)]) (st' := [.int 16]) rfl rfl ?_
          refine zy_b (q := (7, [])) (mr := zm_m33) rfl rfl rfl ?_
          refine zy_n 1 (mr := zm_m33) (pc' := 8) (ls' := [(2, .int 16), (0, .ref 2), (1, .int a4)]) (st' := [.ref 2]) rfl rfl ?_
          refine zy_h (mr := zm_m33) rfl rfl (zh_get (v := .int 13) (zs_neE e37 (zs_eqE e36 k35) (by decide)) rfl) ?_
          refine zy_n 1 (mr := zm_m33) (pc' := 14) (ls' := [(2, .int 16), (0, .ref 2), (1, .int a4)]) (st' := [.int 300, .int 13]) rfl rfl ?_
          refine zy_b (q := (17, [])) (mr := zm_m33) rfl rfl rfl ?_
          refine zy_n 1 (mr := zm_m33) (pc' := 18) (ls' := [(2, .int 16), (0, .ref 2), (1, .int a4)]) (st' := [.ref 2]) rfl rfl ?_
          refine zy_h (mr := zm_m33) rfl rfl (zh_get (v := .ref 3) (zs_neE e37 (zs_eqE e36 k35) (by decide)) rfl) ?_
          refine zy_n 2 (mr := zm_m33) (pc' := 23) (ls' := [(2, .int 16), (0, .ref 2), (1, .int a4)]) (st' := [.ref 2, .ref 2, .ref 3]) rfl rfl ?_
          refine zy_h (mr := zm_m33) rfl rfl (zh_get (v := .int 13) (zs_neE e37 (zs_eqE e36 k35) (by decide)) rfl) ?_
          refine zy_n 3 (mr := zm_m33) (pc' := 29) (ls' := [(2, .int 16), (0, .ref 2), (1, .int a4)]) (st' := [.int 14, .ref 2, .int 13, .ref 3]) rfl rfl ?_
          refine zy_hS (x := .inr (7, [.ref 3, .int 14, .ref 4, .ref 5, .ref 6, .int 0, .int 0, .null, .int 0, .int (-1)])) (mr := zm_m33) rfl rfl (zh_put (zs_neE e37 (zs_eqE e36 k35) (by decide)) rfl rfl) (fun he38 e38 => ?_)
          refine zy_n 5 (mr := zm_m33) (pc' := 39) (ls' := [(2, .int 16), (0, .ref 2), (1, .int a4)]) (st' := [.int ((a4 >>> (16 &&& 31)) &&& 255), .int 13, .ref 3]) rfl rfl ?_
          refine zy_hS (x := _) (mr := zm_m33) rfl rfl (zh_iast (zs_neE e38 (zs_eqE e37 (zs_neE e36 (zs_eqE e33 k32) (by decide))) (by decide)) (by decide)) (fun he39 e39 => ?_)
          refine zy_n 3 (mr := zm_m33) (pc' := 4) (ls' := [(2, .int 8), (0, .ref 2), (1, .int a4)]) (st' := [.int 8]) rfl rfl ?_
          refine zy_b (q := (7, [])) (mr := zm_m33) rfl rfl rfl ?_
          refine zy_n 1 (mr := zm_m33) (pc' := 8) (ls' := [(2, .int 8), (0, .ref 2), (1, .int a4)]) (st' := [.ref 2]) rfl rfl ?_
          refine zy_h (mr := zm_m33) rfl rfl (zh_get (v := .int 14) (zs_neE e39 (zs_eqE e38 (zs_neE e37 (zs_eqE e36 k35) (by decide))) (by decide)) rfl) ?_
          refine zy_n 1 (mr := zm_m33) (pc' := 14) (ls' := [(2, .int 8), (0, .ref 2), (1, .int a4)]) (st' := [.int 300, .int 14]) rfl rfl ?_
          refine zy_b (q := (17, [])) (mr := zm_m33) rfl rfl rfl ?_
          refine zy_n 1 (mr := zm_m33) (pc' := 18) (ls' := [(2, .int 8), (0, .ref 2), (1, .int a4)]) (st' := [.ref 2]) rfl rfl ?_
          refine zy_h (mr := zm_m33) rfl rfl (zh_get (v := .ref 3) (zs_neE e39 (zs_eqE e38 (zs_neE e37 (zs_eqE e36 k35) (by decide))) (by decide)) rfl) ?_
          refine zy_n 2 (mr := zm_m33) (pc' := 23) (ls' := [(2, .int 8), (0, .ref 2), (1, .int a4)]) (st' := [.ref 2, .ref 2, .ref 3]) rfl rfl ?_
          refine zy_h (mr := zm_m33) rfl rfl (zh_get (v := .int 14) (zs_neE e39 (zs_eqE e38 (zs_neE e37 (zs_eqE e36 k35) (by decide))) (by decide)) rfl) ?_
          refine zy_n 3 (mr := zm_m33) (pc' := 29) (ls' := [(2, .int 8), (0, .ref 2), (1, .int a4)]) (st' := [.int 15, .ref 2, .int 14, .ref 3]) rfl rfl ?_
          refine zy_hS (x := .inr (7, [.ref 3, .int 15, .ref 4, .ref 5, .ref 6, .int 0, .int 0, .null, .int 0, .int (-1)])) (mr := zm_m33) rfl rfl (zh_put (zs_neE e39 (zs_eqE e38 (zs_neE e37 (zs_eqE e36 k35) (by decide))) (by decide)) rfl rfl) (fun he40 e40 => ?_)
          refine zy_n 5 (mr := zm_m33) (pc' := 39) (ls' := [(2, .int 8), (0, .ref 2), (1, .int a4)]) (st' := [.int ((a4 >>> (8 &&& 31)) &&& 255), .int 14, .ref 3]) rfl rfl ?_
          have k41 := (zs_neE e40 (zs_eqE e39 (zs_neE e38 (zs_eqE e37 (zs_neE e36 (zs_eqE e33 k32) (by decide))) (by decide))) (by decide))
          refine zy_hS (x := _) (mr := zm_m33) rfl rfl (zh_iast k41 (by decide)) (fun he42 e42 => ?_)
          refine zy_n 3 (mr := zm_m33) (pc' := 4) (ls' := [(2, .int 0), (0, .ref 2), (1, .int a4)]) (st' := [.int 0]) rfl rfl ?_
          as_aux_lemma =>
            refine zy_b (q := (7, [])) (mr := zm_m33) rfl rfl rfl ?_
            refine zy_n 1 (mr := zm_m33) (pc' := 8) (ls' := [(2, .int 0), (0, .ref 2), (1, .int a4)]) (st' := [.ref 2]) rfl rfl ?_
            have k43 := (zs_neE e42 (zs_eqE e40 (zs_neE e39 (zs_eqE e38 (zs_neE e37 (zs_eqE e36 k35) (by decide))) (by decide))) (by decide))
            refine zy_h (mr := zm_m33) rfl rfl (zh_get (v := .int 15) k43 rfl) ?_
            refine zy_n 1 (mr := zm_m33) (pc' := 14) (ls' := [(2, .int 0), (0, .ref 2), (1, .int a4)]) (st' := [.int 300, .int 15]) rfl rfl ?_
            refine zy_b (q := (17, [])) (mr := zm_m33) rfl rfl rfl ?_
            refine zy_n 1 (mr := zm_m33) (pc' := 18) (ls' := [(2, .int 0), (0, .ref 2), (1, .int a4)]) (st' := [.ref 2]) rfl rfl ?_
            refine zy_h (mr := zm_m33) rfl rfl (zh_get (v := .ref 3) k43 rfl) ?_
            refine zy_n 2 (mr := zm_m33) (pc' := 23) (ls' := [(2, .int 0), (0, .ref 2), (1, .int a4)]) (st' := [.ref 2, .ref 2, .ref 3]) rfl rfl ?_
            refine zy_h (mr := zm_m33) rfl rfl (zh_get (v := .int 15) k43 rfl) ?_
            refine zy_n 3 (mr := zm_m33) (pc' := 29) (ls' := [(2, .int 0), (0, .ref 2), (1, .int a4)]) (st' := [.int 16, .ref 2, .int 15, .ref 3]) rfl rfl ?_
            refine zy_hS (x := .inr (7, [.ref 3, .int 16, .ref 4, .ref 5, .ref 6, .int 0, .int 0, .null, .int 0, .int (-1)])) (mr := zm_m33) rfl rfl (zh_put k43 rfl rfl) (fun he44 e44 => ?_)
            refine zy_n 5 (mr := zm_m33) (pc' := 39) (ls' := [(2, .int 0), (0, .ref 2), (1, .int a4)]) (st' := [.int ((a4 >>> (0 &&& 31)) &&& 255), .int 15, .ref 3]) rfl rfl ?_
            refine zy_hS (x := _) (mr := zm_m33) rfl rfl (zh_iast (zs_neE e44 (zs_eqE e42 k41) (by decide)) (by decide)) (fun he45 e45 => ?_)
            refine zy_n 3 (mr := zm_m33) (pc' := 4) (ls' := [(2, .int (-8)), (0, .ref 2), (1, .int a4)]) (st' := [.int (-8)]) rfl rfl ?_
            refine zy_b (q := (46, [])) (mr := zm_m33) rfl rfl rfl ?_
            refine zy_r (mr := zm_m33) rfl rfl rfl ?_
            refine zy_n 1 (mr := zm_m31) (pc' := 48) (ls' := [(0, .ref 0), (1, .int a1), (2, .int a2), (3, .int a3), (4, .int a4), (5, .int a5)]) (st' := [.ref 0]) rfl rfl ?_
            have k46 := (zs_neE e45 (zs_neE e44 (zs_neE e42 (zs_neE e40 (zs_neE e39 (zs_neE e38 (zs_neE e37 (zs_neE e36 k34 (by decide)) (by decide)) (by decide)) (by decide)) (by decide)) (by decide)) (by decide)) (by decide))
            refine zy_h (mr := zm_m31) rfl rfl (zh_get (v := .ref 2) k46 rfl) ?_
            refine zy_n 1 (mr := zm_m31) (pc' := 53) (ls' := [(0, .ref 0), (1, .int a1), (2, .int a2), (3, .int a3), (4, .int a4), (5, .int a5)]) (st' := [.int a5, .ref 2]) rfl rfl ?_
            refine zy_c (mc := zm_m33) (mr := zm_m31) rfl rfl (zh_v rfl (zs_neE e45 (zs_eqE e44 k43) (by decide)) rfl) rfl rfl ?_
            refine zy_n 3 (mr := zm_m33) (pc' := 4) (ls' := [(2, .int 24), (0, .ref 2), (1, .int a5)]) (st' := [.int 24]) rfl rfl ?_
            refine zy_b (q := (7, [])) (mr := zm_m33) rfl rfl rfl ?_
            refine zy_n 1 (mr := zm_m33) (pc' := 8) (ls' := [(2, .int 24), (0, .ref 2), (1, .int a5)]) (st' := [.ref 2]) rfl rfl ?_
            refine zy_h (mr := zm_m33) rfl rfl (zh_get (v := .int 16) (zs_neE e45 (zs_eqE e44 k43) (by decide)) rfl) ?_
            refine zy_n 1 (mr := zm_m33) (pc' := 14) (ls' := [(2, .int 24), (0, .ref 2), (1, .int a5)]) (st' := [.int 300, .int 16]) rfl rfl ?_
            refine zy_b (q := (17, [])) (mr := zm_m33) rfl rfl rfl ?_
            refine zy_n 1 (mr := zm_m33) (pc' := 18) (ls' := [(2, .int 24), (0, .ref 2), (1, .int a5)]) (st' := [.ref 2]) rfl rfl ?_
            refine zy_h (mr := zm_m33) rfl rfl (zh_get (v := .ref 3) (zs_neE e45 (zs_eqE e44 k43) (by decide)) rfl) ?_
            refine zy_n 2 (mr := zm_m33) (pc' := 23) (ls' := [(2, .int 24), (0, .ref 2), (1, .int a5)]) (st' := [.ref 2, .ref 2, .ref 3]) rfl rfl ?_
            refine zy_h (mr := zm_m33) rfl rfl (zh_get (v := .int 16) (zs_neE e45 (zs_eqE e44 k43) (by decide)) rfl) ?_
            refine zy_n 3 (mr := zm_m33) (pc' := 29) (ls' := [(2, .int 24), (0, .ref 2), (1, .int a5)]) (st' := [.int 17, .ref 2, .int 16, .ref 3]) rfl rfl ?_
            refine zy_hS (x := .inr (7, [.ref 3, .int 17, .ref 4, .ref 5, .ref 6, .int 0, .int 0, .null, .int 0, .int (-1)])) (mr := zm_m33) rfl rfl (zh_put (zs_neE e45 (zs_eqE e44 k43) (by decide)) rfl rfl) (fun he47 e47 => ?_)
            refine zy_n 5 (mr := zm_m33) (pc' := 39) (ls' := [(2, .int 24), (0, .ref 2), (1, .int a5)]) (st' := [.int ((a5 >>> (24 &&& 31)) &&& 255), .int 16, .ref 3]) rfl rfl ?_
            refine zy_hS (x := _) (mr := zm_m33) rfl rfl (zh_iast (zs_neE e47 (zs_eqE e45 (zs_neE e44 (zs_eqE e42 k41) (by decide))) (by decide)) (by decide)) (fun he48 e48 => ?_)
            refine zy_n 3 (mr := zm_m33) (pc' := 4) (ls' := [(2, .int 16), (0, .ref 2), (1, .int a5)]) (st' := [.int 16]) rfl rfl ?_
            refine zy_b (q := (7, [])) (mr := zm_m33) rfl rfl rfl ?_
            refine zy_n 1 (mr := zm_m33) (pc' := 8) (ls' := [(2, .int 16), (0, .ref 2), (1, .int a5)]) (st' := [.ref 2]) rfl rfl ?_
            refine zy_h (mr := zm_m33) rfl rfl (zh_get (v := .int 17) (zs_neE e48 (zs_eqE e47 (zs_neE e45 (zs_eqE e44 k43) (by decide))) (by decide)) rfl) ?_
            refine zy_n 1 (mr := zm_m33) (pc' := 14) (ls' := [(2, .int 16), (0, .ref 2), (1, .int a5)]) (st' := [.int 300, .int 17]) rfl rfl ?_
            refine zy_b (q := (17, [])) (mr := zm_m33) rfl rfl rfl ?_
            refine zy_n 1 (mr := zm_m33) (pc' := 18) (ls' := [(2, .int 16), (0, .ref 2), (1, .int a5)]) (st' := [.ref 2]) rfl rfl ?_
            refine zy_h (mr := zm_m33) rfl rfl (zh_get (v := .ref 3) (zs_neE e48 (zs_eqE e47 (zs_neE e45 (zs_eqE e44 k43) (by decide))) (by decide)) rfl) ?_
            refine zy_n 2 (mr := zm_m33) (pc' := 23) (ls' := [(2, .int 16), (0, .ref 2), (1, .int a5)]) (st' := [.ref 2, .ref 2, .ref 3]) rfl rfl ?_
            refine zy_h (mr := zm_m33) rfl rfl (zh_get (v := .int 17) (zs_neE e48 (zs_eqE e47 (zs_neE e45 (zs_eqE e44 k43) (by decide))) (by decide)) rfl) ?_
            refine zy_n 3 (mr := zm_m33) (pc' := 29) (ls' := [(2, .int 16), (0, .ref 2), (1, .int a5)]) (st' := [.int 18, .ref 2, .int 17, .ref 3]) rfl rfl ?_
            refine zy_hS (x := .inr (7, [.ref 3, .int 18, .ref 4, .ref 5, .ref 6, .int 0, .int 0, .null, .int 0, .int (-1)])) (mr := zm_m33) rfl rfl (zh_put (zs_neE e48 (zs_eqE e47 (zs_neE e45 (zs_eqE e44 k43) (by decide))) (by decide)) rfl rfl) (fun he49 e49 => ?_)
            refine zy_n 5 (mr := zm_m33) (pc' := 39) (ls' := [(2, .int 16), (0, .ref 2), (1, .int a5)]) (st' := [.int ((a5 >>> (16 &&& 31)) &&& 255), .int 17, .ref 3]) rfl rfl ?_
            have k50 := (zs_neE e49 (zs_eqE e48 (zs_neE e47 (zs_eqE e45 (zs_neE e44 (zs_eqE e42 k41) (by decide))) (by decide))) (by decide))
            refine zy_hS (x := _) (mr := zm_m33) rfl rfl (zh_iast k50 (by decide)) (fun he51 e51 => ?_)
            refine zy_n 3 (mr := zm_m33) (pc' := 4) (ls' := [(2, .int 8), (0, .ref 2), (1, .int a5)]) (st' := [.int 8]) rfl rfl ?_
            as_aux_lemma =>
              refine zy_b (q := (7, [])) (mr := zm_m33) rfl rfl rfl ?_
              refine zy_n 1 (mr := zm_m33) (pc' := 8) (ls' := [(2, .int 8), (0, .ref 2), (1, .int a5)]) (st' := [.ref 2]) rfl rfl ?_
              have k52 := (zs_neE e51 (zs_eqE e49 (zs_neE e48 (zs_eqE e47 (zs_neE e45 (zs_eqE e44 k43) (by decide))) (by decide))) (by decide))
              refine zy_h (mr := zm_m33) rfl rfl (zh_get (v := .int 18) k52 rfl) ?_
              refine zy_n 1 (mr := zm_m33) (pc' := 14) (ls' := [(2, .int 8), (0, .ref 2), (1, .int a5)]) (st' := [.int 300, .int 18]) rfl rfl ?_
              refine zy_b (q := (17, [])) (mr := zm_m33) rfl rfl rfl ?_
              refine zy_n 1 (mr := zm_m33) (pc' := 18) (ls' := [(2, .int 8), (0, .ref 2), (1, .int a5)]) (st' := [.ref 2]) rfl rfl ?_
              refine zy_h (mr := zm_m33) rfl rfl (zh_get (v := .ref 3) k52 rfl) ?_
              refine zy_n 2 (mr := zm_m33) (pc' := 23) (ls' := [(2, .int 8), (0, .ref 2), (1, .int a5)]) (st' := [.ref 2, .ref 2, .ref 3]) rfl rfl ?_
              refine zy_h (mr := zm_m33) rfl rfl (zh_get (v := .int 18) k52 rfl) ?_
              refine zy_n 3 (mr := zm_m33) (pc' := 29) (ls' := [(2, .int 8), (0, .ref 2), (1, .int a5)]) (st' := [.int 19, .ref 2, .int 18, .ref 3]) rfl rfl ?_
              refine zy_hS (x := .inr (7, [.ref 3, .int 19, .ref 4, .ref 5, .ref 6, .int 0, .int 0, .null, .int 0, .int (-1)])) (mr := zm_m33) rfl rfl (zh_put k52 rfl rfl) (fun he53 e53 => ?_)
              refine zy_n 5 (mr := zm_m33) (pc' := 39) (ls' := [(2, .int 8), (0, .ref 2), (1, .int a5)]) (st' := [.int ((a5 >>> (8 &&& 31)) &&& 255), .int 18, .ref 3]) rfl rfl ?_
              refine zy_hS (x := _) (mr := zm_m33) rfl rfl (zh_iast (zs_neE e53 (zs_eqE e51 k50) (by decide)) (by decide)) (fun he54 e54 => ?_)
              refine zy_n 3 (mr := zm_m33) (pc' := 4) (ls' := [(2, .int 0), (0, .ref 2), (1, .int a5)]) (st' := [.int 0]) rfl rfl ?_
              refine zy_b (q := (7, [])) (mr := zm_m33) rfl rfl rfl ?_
              refine zy_n 1 (mr := zm_m33) (pc' := 8) (ls' := [(2, .int 0), (0, .ref 2), (1, .int a5)]) (st' := [.ref 2]) rfl rfl ?_
              refine zy_h (mr := zm_m33) rfl rfl (zh_get (v := .int 19) (zs_neE e54 (zs_eqE e53 k52) (by decide)) rfl) ?_
              refine zy_n 1 (mr := zm_m33) (pc' := 14) (ls' := [(2, .int 0), (0, .ref 2), (1, .int a5)]) (st' := [.int 300, .int 19]) rfl rfl ?_
              refine zy_b (q := (17, [])) (mr := zm_m33) rfl rfl rfl ?_
              refine zy_n 1 (mr := zm_m33) (pc' := 18) (ls' := [(2, .int 0), (0, .ref 2), (1, .int a5)]) (st' := [.ref 2]) rfl rfl ?_
              refine zy_h (mr := zm_m33) rfl rfl (zh_get (v := .ref 3) (zs_neE e54 (zs_eqE e53 k52) (by decide)) rfl) ?_
              refine zy_n 2 (mr := zm_m33) (pc' := 23) (ls' := [(2, .int 0), (0, .ref 2), (1, .int a5)]) (st' := [.ref 2, .ref 2, .ref 3]) rfl rfl ?_
              refine zy_h (mr := zm_m33) rfl rfl (zh_get (v := .int 19) (zs_neE e54 (zs_eqE e53 k52) (by decide)) rfl) ?_
              refine zy_n 3 (mr := zm_m33) (pc' := 29) (ls' := [(2, .int 0), (0, .ref 2), (1, .int a5)]) (st' := [.int 20, .ref 2, .int 19, .ref 3]) rfl rfl ?_
              refine zy_hS (x := .inr (7, [.ref 3, .int 20, .ref 4, .ref 5, .ref 6, .int 0, .int 0, .null, .int 0, .int (-1)])) (mr := zm_m33) rfl rfl (zh_put (zs_neE e54 (zs_eqE e53 k52) (by decide)) rfl rfl) (fun he55 e55 => ?_)
              refine zy_n 5 (mr := zm_m33) (pc' := 39) (ls' := [(2, .int 0), (0, .ref 2), (1, .int a5)]) (st' := [.int ((a5 >>> (0 &&& 31)) &&& 255), .int 19, .ref 3]) rfl rfl ?_
              refine zy_hS (x := _) (mr := zm_m33) rfl rfl (zh_iast (zs_neE e55 (zs_eqE e54 (zs_neE e53 (zs_eqE e51 k50) (by decide))) (by decide)) (by decide)) (fun he56 e56 => ?_)
              refine zy_n 3 (mr := zm_m33) (pc' := 4) (ls' := [(2, .int (-8)), (0, .ref 2), (1, .int a5)]) (st' := [.int (-8)]) rfl rfl ?_
              refine zy_b (q := (46, [])) (mr := zm_m33) rfl rfl rfl ?_
              refine zy_r (mr := zm_m33) rfl rfl rfl ?_
              refine zy_n 1 (mr := zm_m31) (pc' := 57) (ls' := [(0, .ref 0), (1, .int a1), (2, .int a2), (3, .int a3), (4, .int a4), (5, .int a5)]) (st' := [.ref 0]) rfl rfl ?_
              have k57 := (zs_neE e56 (zs_neE e55 (zs_neE e54 (zs_neE e53 (zs_neE e51 (zs_neE e49 (zs_neE e48 (zs_neE e47 k46 (by decide)) (by decide)) (by decide)) (by decide)) (by decide)) (by decide)) (by decide)) (by decide))
              refine zy_h (mr := zm_m31) rfl rfl (zh_get (v := .ref 2) k57 rfl) ?_
              refine zy_h (mr := zm_m31) rfl rfl (zh_get (v := .int 20) (zs_neE e56 (zs_eqE e55 (zs_neE e54 (zs_eqE e53 k52) (by decide))) (by decide)) rfl) ?_
              refine zy_r (mr := zm_m31) rfl rfl rfl ?_
              have k58 := (zs_lsetE e56 (zs_lsetE e55 (zs_lsetE e54 (zs_lsetE e53 (zs_lsetE e51 (zs_lsetE e49 (zs_lsetE e48 (zs_lsetE e47 (zs_lsetE e45 (zs_lsetE e44 (zs_lsetE e42 (zs_lsetE e40 (zs_lsetE e39 (zs_lsetE e38 (zs_lsetE e37 (zs_lsetE e36 (zs_lsetE e33 (zs_lsetE e31 (zs_lsetE e30 (zs_lsetE e29 (zs_lsetE e28 (zs_lsetE e27 (zs_lsetE e25 (zs_lsetE e23 (zs_lsetE e21 (zs_lsetE e20 (zs_lsetE e19 (zs_lsetE e18 (zs_lsetE e16 (zs_lsetE e14 (zs_lsetE e13 (zs_lsetE e12 (zs_lsetE e10 (zs_lsetE e9 (zs_lsetE e7 (zs_lsetE e5 (zs_lsetE e4 (zs_lsetE e3 (zs_lsetE e2 (zs_lsetE e1 (zp_len F).1))))))))))))))))))))))))))))))))))))))))
              refine ⟨⟨_, rfl, ?_⟩, fun k hk1 hk2 => ((zs_kE e56 (by omega)).trans ((zs_kE e55 (by omega)).trans ((zs_kE e54 (by omega)).trans ((zs_kE e53 (by omega)).trans ((zs_kE e51 (by omega)).trans ((zs_kE e49 (by omega)).trans ((zs_kE e48 (by omega)).trans ((zs_kE e47 (by omega)).trans ((zs_kE e45 (by omega)).trans ((zs_kE e44 (by omega)).trans ((zs_kE e42 (by omega)).trans ((zs_kE e40 (by omega)).trans ((zs_kE e39 (by omega)).trans ((zs_kE e38 (by omega)).trans ((zs_kE e37 (by omega)).trans ((zs_kE e36 (by omega)).trans ((zs_kE e33 (by omega)).trans ((zs_kE e31 (by omega)).trans ((zs_kE e30 (by omega)).trans ((zs_kE e29 (by omega)).trans ((zs_kE e28 (by omega)).trans ((zs_kE e27 (by omega)).trans ((zs_kE e25 (by omega)).trans ((zs_kE e23 (by omega)).trans ((zs_kE e21 (by omega)).trans ((zs_kE e20 (by omega)).trans ((zs_kE e19 (by omega)).trans ((zs_kE e18 (by omega)).trans ((zs_kE e16 (by omega)).trans ((zs_kE e14 (by omega)).trans ((zs_kE e13 (by omega)).trans ((zs_kE e12 (by omega)).trans ((zs_kE e10 (by omega)).trans ((zs_kE e9 (by omega)).trans ((zs_kE e7 (by omega)).trans ((zs_kE e5 (by omega)).trans ((zs_kE e4 (by omega)).trans ((zs_kE e3 (by omega)).trans ((zs_kE e2 (by omega)).trans ((zs_kE e1 (by omega)).trans rfl)))))))))))))))))))))))))))))))))))))))), Nat.le_trans (Nat.le_of_eq k58) (by decide), Nat.le_trans (Nat.le_of_eq (zs_szsetE (w := 300) e56 (zs_neE e55 (zs_eqE e54 (zs_neE e53 (zs_eqE e51 k50) (by decide))) (by decide)) rfl rfl (zs_szsetE (w := 10) e55 (zs_neE e54 (zs_eqE e53 k52) (by decide)) rfl rfl (zs_szsetE (w := 300) e54 (zs_neE e53 (zs_eqE e51 k50) (by decide)) rfl rfl (zs_szsetE (w := 10) e53 k52 rfl rfl (zs_szsetE (w := 300) e51 k50 rfl rfl (zs_szsetE (w := 10) e49 (zs_neE e48 (zs_eqE e47 (zs_neE e45 (zs_eqE e44 k43) (by decide))) (by decide)) rfl rfl (zs_szsetE (w := 300) e48 (zs_neE e47 (zs_eqE e45 (zs_neE e44 (zs_eqE e42 k41) (by decide))) (by decide)) rfl rfl (zs_szsetE (w := 10) e47 (zs_neE e45 (zs_eqE e44 k43) (by decide)) rfl rfl (zs_szsetE (w := 300) e45 (zs_neE e44 (zs_eqE e42 k41) (by decide)) rfl rfl (zs_szsetE (w := 10) e44 k43 rfl rfl (zs_szsetE (w := 300) e42 k41 rfl rfl (zs_szsetE (w := 10) e40 (zs_neE e39 (zs_eqE e38 (zs_neE e37 (zs_eqE e36 k35) (by decide))) (by decide)) rfl rfl (zs_szsetE (w := 300) e39 (zs_neE e38 (zs_eqE e37 (zs_neE e36 (zs_eqE e33 k32) (by decide))) (by decide)) rfl rfl (zs_szsetE (w := 10) e38 (zs_neE e37 (zs_eqE e36 k35) (by decide)) rfl rfl (zs_szsetE (w := 300) e37 (zs_neE e36 (zs_eqE e33 k32) (by decide)) rfl rfl (zs_szsetE (w := 10) e36 k35 rfl rfl (zs_szsetE (w := 300) e33 k32 rfl rfl (zs_szsetE (w := 10) e31 (zs_neE e30 (zs_eqE e29 (zs_neE e28 (zs_eqE e27 k26) (by decide))) (by decide)) rfl rfl (zs_szsetE (w := 300) e30 (zs_neE e29 (zs_eqE e28 (zs_neE e27 (zs_eqE e25 k24) (by decide))) (by decide)) rfl rfl (zs_szsetE (w := 10) e29 (zs_neE e28 (zs_eqE e27 k26) (by decide)) rfl rfl (zs_szsetE (w := 300) e28 (zs_neE e27 (zs_eqE e25 k24) (by decide)) rfl rfl (zs_szsetE (w := 10) e27 k26 rfl rfl (zs_szsetE (w := 300) e25 k24 rfl rfl (zs_szsetE (w := 10) e23 (zs_neE e21 (zs_eqE e20 (zs_neE e19 (zs_eqE e18 k17) (by decide))) (by decide)) rfl rfl (zs_szsetE (w := 300) e21 (zs_neE e20 (zs_eqE e19 (zs_neE e18 (zs_eqE e16 k15) (by decide))) (by decide)) rfl rfl (zs_szsetE (w := 10) e20 (zs_neE e19 (zs_eqE e18 k17) (by decide)) rfl rfl (zs_szsetE (w := 300) e19 (zs_neE e18 (zs_eqE e16 k15) (by decide)) rfl rfl (zs_szsetE (w := 10) e18 k17 rfl rfl (zs_szsetE (w := 300) e16 k15 rfl rfl (zs_szsetE (w := 10) e14 (zs_neE e13 (zs_eqE e12 (zs_neE e10 (zs_eqE e9 k8) (by decide))) (by decide)) rfl rfl (zs_szsetE (w := 300) e13 (zs_neE e12 (zs_eqE e10 (zs_neE e9 (zs_eqE e7 k6) (by decide))) (by decide)) rfl rfl (zs_szsetE (w := 10) e12 (zs_neE e10 (zs_eqE e9 k8) (by decide)) rfl rfl (zs_szsetE (w := 300) e10 (zs_neE e9 (zs_eqE e7 k6) (by decide)) rfl rfl (zs_szsetE (w := 10) e9 k8 rfl rfl (zs_szsetE (w := 300) e7 k6 rfl rfl (zs_szsetE (w := 10) e5 (zs_neE e4 (zs_eqE e3 (zs_neE e2 (zs_eqE e1 (zp_o F 1 rfl)) (by decide))) (by decide)) rfl rfl (zs_szsetE (w := 300) e4 (zs_neE e3 (zs_eqE e2 (zs_neE e1 (zp_i F 0 rfl) (by decide))) (by decide)) rfl rfl (zs_szsetE (w := 10) e3 (zs_neE e2 (zs_eqE e1 (zp_o F 1 rfl)) (by decide)) rfl rfl (zs_szsetE (w := 300) e2 (zs_neE e1 (zp_i F 0 rfl) (by decide)) rfl rfl (zs_szsetE (w := 10) e1 (zp_o F 1 rfl) rfl rfl (zp_len F).2))))))))))))))))))))))))))))))))))))))))) (by decide)⟩
              simp [zf_8]
set_option maxHeartbeats 4000000 in
set_option maxRecDepth 20000 in
theorem zx_9 {og : Nat → Option zm_C} {h : zm_H} (F : zp_ck h = true) (a1 : Int32) : zm_Y og 30 34 0 [(0, .ref 0), (1, .int a1)] [] h (fun r h1 => (∃ v, r = some (.int v) ∧ zf_9 a1 v) ∧ (∀ k : Nat, 55 ≤ k → k < 117 → h1[k]? = h[k]?) ∧ h1.length ≤ 200 ∧ zm_szs h1 ≤ 90000) := by
  refine zy_n 3 (mr := zm_m34) (pc' := 3) (ls' := [(0, .ref 0), (1, .int a1)]) (st' := [.ref 0, .int 0, .int a1]) rfl rfl ?_
  refine zy_h (mr := zm_m34) rfl rfl (zh_get (v := .ref 2) (zp_o F 0 rfl) rfl) ?_
  refine zy_h (mr := zm_m34) rfl rfl (zh_get (v := .int 0) (zp_o F 1 rfl) rfl) ?_
  refine zy_c (mc := zm_m10) (mr := zm_m34) rfl rfl rfl rfl rfl (zm_Y.mono (zk_within a1 0 0) ?_)
  rintro r h1 ⟨rfl, ⟨rfl, hc1⟩ | ⟨rfl, hc1⟩⟩
  · skip
    refine zy_b (q := (17, [])) (mr := zm_m34) rfl rfl rfl ?_
    refine zy_n 1 (mr := zm_m34) (pc' := 18) (ls' := [(0, .ref 0), (1, .int a1)]) (st' := [.ref 0]) rfl rfl ?_
    refine zy_h (mr := zm_m34) rfl rfl (zh_get (v := .ref 2) (zp_o F 0 rfl) rfl) ?_
    refine zy_n 1 (mr := zm_m34) (pc' := 22) (ls' := [(0, .ref 0), (1, .int a1)]) (st' := [.int a1, .ref 2]) rfl rfl ?_
    refine zy_hS (x := .inr (7, [.ref 3, .int a1, .ref 4, .ref 5, .ref 6, .int 0, .int 0, .null, .int 0, .int (-1)])) (mr := zm_m34) rfl rfl (zh_put (zp_o F 1 rfl) rfl rfl) (fun he2 e2 => ?_)
    refine zy_n 1 (mr := zm_m34) (pc' := 26) (ls' := [(0, .ref 0), (1, .int a1)]) (st' := [.int a1]) rfl rfl ?_
    refine zy_r (mr := zm_m34) rfl rfl rfl ?_
    refine ⟨⟨_, rfl, ?_⟩, fun k hk1 hk2 => ((zs_kE e2 (by omega)).trans rfl), Nat.le_trans (Nat.le_of_eq (zs_lsetE e2 (zp_len F).1)) (by decide), Nat.le_trans (Nat.le_of_eq (zs_szsetE (w := 10) e2 (zp_o F 1 rfl) rfl rfl (zp_len F).2)) (by decide)⟩
    simp [zf_9, hc1]
  · skip
    refine zy_b (q := (15, [])) (mr := zm_m34) rfl rfl rfl ?_
    refine zy_n 1 (mr := zm_m34) (pc' := 16) (ls' := [(0, .ref 0), (1, .int a1)]) (st' := [.int (-1)]) rfl rfl ?_
    refine zy_r (mr := zm_m34) rfl rfl rfl ?_
    refine ⟨⟨_, rfl, ?_⟩, fun k hk1 hk2 => rfl, Nat.le_trans (Nat.le_of_eq (zp_len F).1) (by decide), Nat.le_trans (Nat.le_of_eq (zp_len F).2) (by decide)⟩
    simp [zf_9, hc1]
