set_option maxHeartbeats 4000000 in
set_option maxRecDepth 20000 in
theorem zx_10 {og : Nat → Option zm_C} {h : zm_H} (F : zp_ck h = true) (a1 : Int32) : zm_Y og 30 35 0 [(0, .ref 0), (1, .int a1)] [] h (fun r h1 => (∃ v, r = some (.int v) ∧ zf_10 a1 v) ∧ (∀ k : Nat, 55 ≤ k → k < 117 → h1[k]? = h[k]?) ∧ h1.length ≤ 200 ∧ zm_szs h1 ≤ 90000) := by
  refine zy_n 1 (mr := zm_m35) (pc' := 1) (ls' := [(0, .ref 0), (1, .int a1)]) (st' := [.int a1]) rfl rfl ?_
  refine zy_c (mc := zm_m36) (mr := zm_m35) rfl rfl rfl rfl rfl ?_
  refine zy_n 3 (mr := zm_m36) (pc' := 4) (ls' := [(0, .int a1)]) (st' := [.int 99, .int 0, .int a1]) rfl rfl ?_
  refine zy_c (mc := zm_m10) (mr := zm_m36) rfl rfl rfl rfl rfl (zm_Y.mono (zk_within a1 0 99) ?_)
  rintro r h1 ⟨rfl, ⟨rfl, hc1⟩ | ⟨rfl, hc1⟩⟩
  · skip
    refine zy_r (mr := zm_m36) rfl rfl rfl ?_
    refine zy_b (q := (7, [])) (mr := zm_m35) rfl rfl rfl ?_
    refine zy_n 1 (mr := zm_m35) (pc' := 8) (ls' := [(0, .ref 0), (1, .int a1)]) (st' := [.ref 0]) rfl rfl ?_
    refine zy_h (mr := zm_m35) rfl rfl (zh_get (v := .ref 7) (zp_o F 0 rfl) rfl) ?_
    refine zy_c (mc := zm_m37) (mr := zm_m35) rfl rfl (zh_v rfl (zp_o F 2 rfl) rfl) rfl rfl ?_
    refine zy_n 1 (mr := zm_m37) (pc' := 1) (ls' := [(0, .ref 7)]) (st' := [.ref 7]) rfl rfl ?_
    refine zy_h (mr := zm_m37) rfl rfl (zh_get (v := .int 0) (zp_o F 2 rfl) rfl) ?_
    refine zy_n 1 (mr := zm_m37) (pc' := 6) (ls' := [(0, .ref 7)]) (st' := [.int 12, .int 0]) rfl rfl ?_
    refine zy_b (q := (13, [])) (mr := zm_m37) rfl rfl rfl ?_
    refine zy_n 1 (mr := zm_m37) (pc' := 14) (ls' := [(0, .ref 7)]) (st' := [.int 0]) rfl rfl ?_
    refine zy_r (mr := zm_m37) rfl rfl rfl ?_
    refine zy_b (q := (20, [])) (mr := zm_m35) rfl rfl rfl ?_
    refine zy_n 2 (mr := zm_m35) (pc' := 22) (ls' := [(0, .ref 0), (1, .int a1)]) (st' := [.ref 0, .ref 0]) rfl rfl ?_
    refine zy_h (mr := zm_m35) rfl rfl (zh_get (v := .ref 2) (zp_o F 0 rfl) rfl) ?_
    refine zy_n 1 (mr := zm_m35) (pc' := 26) (ls' := [(0, .ref 0), (1, .int a1)]) (st' := [.ref 0, .ref 2, .ref 0]) rfl rfl ?_
    refine zy_h (mr := zm_m35) rfl rfl (zh_get (v := .ref 7) (zp_o F 0 rfl) rfl) ?_
    refine zy_h (mr := zm_m35) rfl rfl (zh_get (v := .ref 9) (zp_o F 2 rfl) rfl) ?_
    refine zy_c (mc := zm_m38) (mr := zm_m35) rfl rfl (zh_v rfl (zp_o F 1 rfl) rfl) rfl rfl ?_
    refine zy_n 3 (mr := zm_m38) (pc' := 3) (ls' := [(0, .ref 2), (1, .ref 9)]) (st' := [.int 0, .ref 9, .ref 2]) rfl rfl ?_
    refine zy_c (mc := zm_m39) (mr := zm_m38) rfl rfl (zh_v rfl (zp_o F 1 rfl) rfl) rfl rfl ?_
    refine zy_n 2 (mr := zm_m39) (pc' := 2) (ls' := [(0, .ref 2), (1, .ref 9), (2, .int 0)]) (st' := [.ref 9, .ref 2]) rfl rfl ?_
    refine zy_hS (x := .inr (7, [.ref 3, .int 0, .ref 4, .ref 5, .ref 6, .int 0, .int 0, .ref 9, .int 0, .int (-1)])) (mr := zm_m39) rfl rfl (zh_put (zp_o F 1 rfl) rfl rfl) (fun he2 e2 => ?_)
    refine zy_n 1 (mr := zm_m39) (pc' := 6) (ls' := [(0, .ref 2), (1, .ref 9), (2, .int 0)]) (st' := [.ref 2]) rfl rfl ?_
    refine zy_h (mr := zm_m39) rfl rfl (zh_get (v := .ref 9) (zs_eqE e2 (zp_o F 1 rfl)) rfl) ?_
    refine zy_c (mc := zm_m40) (mr := zm_m39) rfl rfl (zh_v rfl (zs_neE e2 (zp_o F 3 rfl) (by decide)) rfl) rfl rfl ?_
    refine zy_n 2 (mr := zm_m40) (pc' := 2) (ls' := [(0, .ref 9)]) (st' := [.int 0, .ref 9]) rfl rfl ?_
    refine zy_hS (x := .inr (9, [.ref 10, .int 0, .ref 11, .ref 12, .ref 13, .ref 14, .ref 15, .int 0, .int 0, .null])) (mr := zm_m40) rfl rfl (zh_put (zs_neE e2 (zp_o F 3 rfl) (by decide)) rfl rfl) (fun he3 e3 => ?_)
    refine zy_n 2 (mr := zm_m40) (pc' := 7) (ls' := [(0, .ref 9)]) (st' := [.int 0, .ref 9]) rfl rfl ?_
    refine zy_hS (x := .inr (9, [.ref 10, .int 0, .ref 11, .ref 12, .ref 13, .ref 14, .ref 15, .int 0, .int 0, .null])) (mr := zm_m40) rfl rfl (zh_put (zs_eqE e3 (zs_neE e2 (zp_o F 3 rfl) (by decide))) rfl rfl) (fun he4 e4 => ?_)
    refine zy_n 2 (mr := zm_m40) (pc' := 12) (ls' := [(0, .ref 9)]) (st' := [.null, .ref 9]) rfl rfl ?_
    refine zy_hS (x := .inr (9, [.ref 10, .int 0, .ref 11, .ref 12, .ref 13, .ref 14, .ref 15, .int 0, .int 0, .null])) (mr := zm_m40) rfl rfl (zh_put (zs_eqE e4 (zs_eqE e3 (zs_neE e2 (zp_o F 3 rfl) (by decide)))) rfl rfl) (fun he5 e5 => ?_)
    refine zy_r (mr := zm_m40) rfl rfl rfl ?_
    refine zy_n 2 (mr := zm_m39) (pc' := 14) (ls' := [(0, .ref 2), (1, .ref 9), (2, .int 0)]) (st' := [.int 0, .ref 2]) rfl rfl ?_
    have k6 := (zs_neE e5 (zs_neE e4 (zs_neE e3 (zs_eqE e2 (zp_o F 1 rfl)) (by decide)) (by decide)) (by decide))
    refine zy_hS (x := .inr (7, [.ref 3, .int 0, .ref 4, .ref 5, .ref 6, .int 0, .int 0, .ref 9, .int 0, .int (-1)])) (mr := zm_m39) rfl rfl (zh_put k6 rfl (by decide)) (fun he7 e7 => ?_)
    refine zy_n 2 (mr := zm_m39) (pc' := 19) (ls' := [(0, .ref 2), (1, .ref 9), (2, .int 0)]) (st' := [.int (-1), .ref 2]) rfl rfl ?_
    have k8 := (zs_eqE e7 (zs_neE e5 (zs_neE e4 (zs_neE e3 (zs_eqE e2 (zp_o F 1 rfl)) (by decide)) (by decide)) (by decide)))
    refine zy_hS (x := .inr (7, [.ref 3, .int 0, .ref 4, .ref 5, .ref 6, .int 0, .int 0, .ref 9, .int 0, .int (-1)])) (mr := zm_m39) rfl rfl (zh_put k8 rfl rfl) (fun he9 e9 => ?_)
    refine zy_n 2 (mr := zm_m39) (pc' := 24) (ls' := [(0, .ref 2), (1, .ref 9), (2, .int 0)]) (st' := [.int 0, .ref 2]) rfl rfl ?_
    have k10 := (zs_eqE e9 (zs_eqE e7 (zs_neE e5 (zs_neE e4 (zs_neE e3 (zs_eqE e2 (zp_o F 1 rfl)) (by decide)) (by decide)) (by decide))))
    refine zy_hS (x := .inr (7, [.ref 3, .int 0, .ref 4, .ref 5, .ref 6, .int 0, .int 0, .ref 9, .int 0, .int (-1)])) (mr := zm_m39) rfl rfl (zh_put k10 rfl rfl) (fun he11 e11 => ?_)
    refine zy_n 2 (mr := zm_m39) (pc' := 29) (ls' := [(0, .ref 2), (1, .ref 9), (2, .int 0)]) (st' := [.int 0, .ref 2]) rfl rfl ?_
    have k12 := (zs_eqE e11 (zs_eqE e9 (zs_eqE e7 (zs_neE e5 (zs_neE e4 (zs_neE e3 (zs_eqE e2 (zp_o F 1 rfl)) (by decide)) (by decide)) (by decide)))))
    refine zy_hS (x := .inr (7, [.ref 3, .int 0, .ref 4, .ref 5, .ref 6, .int 0, .int 0, .ref 9, .int 0, .int (-1)])) (mr := zm_m39) rfl rfl (zh_put k12 rfl rfl) (fun he13 e13 => ?_)
    refine zy_n 6 (mr := zm_m39) (pc' := 42) (ls' := [(4, .int 0), (3, .int 0), (0, .ref 2), (1, .ref 9), (2, .int 0)]) (st' := [.int 300, .int 0]) rfl rfl ?_
    as_aux_lemma =>
      refine zy_b (q := (45, [])) (mr := zm_m39) rfl rfl rfl ?_
      refine zy_n 2 (mr := zm_m39) (pc' := 47) (ls' := [(4, .int 0), (3, .int 0), (0, .ref 2), (1, .ref 9), (2, .int 0)]) (st' := [.ref 2, .int 0]) rfl rfl ?_
      have k14 := (zs_eqE e13 (zs_eqE e11 (zs_eqE e9 (zs_eqE e7 (zs_neE e5 (zs_neE e4 (zs_neE e3 (zs_eqE e2 (zp_o F 1 rfl)) (by decide)) (by decide)) (by decide))))))
      refine zy_h (mr := zm_m39) rfl rfl (zh_get (v := .int 0) k14 rfl) ?_
      refine zy_b (q := (65, [])) (mr := zm_m39) rfl rfl rfl ?_
      refine zy_n 3 (mr := zm_m39) (pc' := 68) (ls' := [(4, .int 0), (3, .int 0), (0, .ref 2), (1, .ref 9), (2, .int 0)]) (st' := [.ref 2, .int 0, .ref 2]) rfl rfl ?_
      refine zy_h (mr := zm_m39) rfl rfl (zh_get (v := .int 0) k14 rfl) ?_
      refine zy_n 1 (mr := zm_m39) (pc' := 72) (ls' := [(4, .int 0), (3, .int 0), (0, .ref 2), (1, .ref 9), (2, .int 0)]) (st' := [.int 0, .int 0, .int 0, .ref 2]) rfl rfl ?_
      refine zy_c (mc := zm_m45) (mr := zm_m39) rfl rfl (zh_v rfl k14 rfl) rfl rfl ?_
      refine zy_n 1 (mr := zm_m45) (pc' := 1) (ls' := [(0, .ref 2), (1, .int 0), (2, .int 0), (3, .int 0)]) (st' := [.ref 2]) rfl rfl ?_
      refine zy_h (mr := zm_m45) rfl rfl (zh_get (v := .int 0) k14 rfl) ?_
      refine zy_n 1 (mr := zm_m45) (pc' := 5) (ls' := [(0, .ref 2), (1, .int 0), (2, .int 0), (3, .int 0)]) (st' := [.ref 2, .int 0]) rfl rfl ?_
      refine zy_h (mr := zm_m45) rfl rfl (zh_get (v := .ref 4) k14 rfl) ?_
      have k15 := (zs_neE e13 (zs_neE e11 (zs_neE e9 (zs_neE e7 (zs_neE e5 (zs_neE e4 (zs_neE e3 (zs_neE e2 (zp_i F 1 rfl) (by decide)) (by decide)) (by decide)) (by decide)) (by decide)) (by decide)) (by decide)) (by decide))
      refine zy_h (q := (.int 301 :: [.int 0], _)) (mr := zm_m45) rfl rfl (zh_alen k15) ?_
      refine zy_b (q := (12, [])) (mr := zm_m45) rfl rfl rfl ?_
      refine zy_n 1 (mr := zm_m45) (pc' := 13) (ls' := [(0, .ref 2), (1, .int 0), (2, .int 0), (3, .int 0)]) (st' := [.ref 2]) rfl rfl ?_
      refine zy_h (mr := zm_m45) rfl rfl (zh_get (v := .ref 4) k14 rfl) ?_
      refine zy_n 1 (mr := zm_m45) (pc' := 17) (ls' := [(0, .ref 2), (1, .int 0), (2, .int 0), (3, .int 0)]) (st' := [.ref 2, .ref 4]) rfl rfl ?_
      refine zy_h (mr := zm_m45) rfl rfl (zh_get (v := .int 0) k14 rfl) ?_
      refine zy_n 1 (mr := zm_m45) (pc' := 21) (ls' := [(0, .ref 2), (1, .int 0), (2, .int 0), (3, .int 0)]) (st' := [.int 0, .int 0, .ref 4]) rfl rfl ?_
      refine zy_hS (x := _) (mr := zm_m45) rfl rfl (zh_iast k15 (by decide)) (fun he16 e16 => ?_)
      refine zy_n 1 (mr := zm_m45) (pc' := 23) (ls' := [(0, .ref 2), (1, .int 0), (2, .int 0), (3, .int 0)]) (st' := [.ref 2]) rfl rfl ?_
      refine zy_h (mr := zm_m45) rfl rfl (zh_get (v := .ref 5) (zs_neE e16 k14 (by decide)) rfl) ?_
      refine zy_n 1 (mr := zm_m45) (pc' := 27) (ls' := [(0, .ref 2), (1, .int 0), (2, .int 0), (3, .int 0)]) (st' := [.ref 2, .ref 5]) rfl rfl ?_
      refine zy_h (mr := zm_m45) rfl rfl (zh_get (v := .int 0) (zs_neE e16 k14 (by decide)) rfl) ?_
      refine zy_n 1 (mr := zm_m45) (pc' := 31) (ls' := [(0, .ref 2), (1, .int 0), (2, .int 0), (3, .int 0)]) (st' := [.int 0, .int 0, .ref 5]) rfl rfl ?_
      have k17 := (zs_neE e16 (zs_neE e13 (zs_neE e11 (zs_neE e9 (zs_neE e7 (zs_neE e5 (zs_neE e4 (zs_neE e3 (zs_neE e2 (zp_i F 2 rfl) (by decide)) (by decide)) (by decide)) (by decide)) (by decide)) (by decide)) (by decide)) (by decide)) (by decide))
      refine zy_hS (x := _) (mr := zm_m45) rfl rfl (zh_iast k17 (by decide)) (fun he18 e18 => ?_)
      refine zy_n 1 (mr := zm_m45) (pc' := 33) (ls' := [(0, .ref 2), (1, .int 0), (2, .int 0), (3, .int 0)]) (st' := [.ref 2]) rfl rfl ?_
      refine zy_h (mr := zm_m45) rfl rfl (zh_get (v := .ref 6) (zs_neE e18 (zs_neE e16 k14 (by decide)) (by decide)) rfl) ?_
      refine zy_n 1 (mr := zm_m45) (pc' := 37) (ls' := [(0, .ref 2), (1, .int 0), (2, .int 0), (3, .int 0)]) (st' := [.ref 2, .ref 6]) rfl rfl ?_
      refine zy_h (mr := zm_m45) rfl rfl (zh_get (v := .int 0) (zs_neE e18 (zs_neE e16 k14 (by decide)) (by decide)) rfl) ?_
      refine zy_n 1 (mr := zm_m45) (pc' := 41) (ls' := [(0, .ref 2), (1, .int 0), (2, .int 0), (3, .int 0)]) (st' := [.int 0, .int 0, .ref 6]) rfl rfl ?_
      have k19 := (zs_neE e18 (zs_neE e16 (zs_neE e13 (zs_neE e11 (zs_neE e9 (zs_neE e7 (zs_neE e5 (zs_neE e4 (zs_neE e3 (zs_neE e2 (zp_i F 3 rfl) (by decide)) (by decide)) (by decide)) (by decide)) (by decide)) (by decide)) (by decide)) (by decide)) (by decide)) (by decide))
      refine zy_hS (x := _) (mr := zm_m45) rfl rfl (zh_iast k19 (by decide)) (fun he20 e20 => ?_)
      refine zy_n 2 (mr := zm_m45) (pc' := 44) (ls' := [(0, .ref 2), (1, .int 0), (2, .int 0), (3, .int 0)]) (st' := [.ref 2, .ref 2]) rfl rfl ?_
      refine zy_h (mr := zm_m45) rfl rfl (zh_get (v := .int 0) (zs_neE e20 (zs_neE e18 (zs_neE e16 k14 (by decide)) (by decide)) (by decide)) rfl) ?_
      refine zy_n 2 (mr := zm_m45) (pc' := 49) (ls' := [(0, .ref 2), (1, .int 0), (2, .int 0), (3, .int 0)]) (st' := [.int 1, .ref 2]) rfl rfl ?_
      refine zy_hS (x := .inr (7, [.ref 3, .int 0, .ref 4, .ref 5, .ref 6, .int 1, .int 0, .ref 9, .int 0, .int (-1)])) (mr := zm_m45) rfl rfl (zh_put (zs_neE e20 (zs_neE e18 (zs_neE e16 k14 (by decide)) (by decide)) (by decide)) rfl rfl) (fun he21 e21 => ?_)
      refine zy_r (mr := zm_m45) rfl rfl rfl ?_
      refine zy_r (mr := zm_m39) rfl rfl rfl ?_
      refine zy_n 2 (mr := zm_m38) (pc' := 8) (ls' := [(0, .ref 2), (1, .ref 9)]) (st' := [.int 0, .ref 2]) rfl rfl ?_
      have k22 := (zs_eqE e21 (zs_neE e20 (zs_neE e18 (zs_neE e16 k14 (by decide)) (by decide)) (by decide)))
      refine zy_c (mc := zm_m49) (mr := zm_m38) rfl rfl (zh_v rfl k22 rfl) rfl rfl ?_
      refine zy_n 1 (mr := zm_m49) (pc' := 1) (ls' := [(0, .ref 2), (1, .int 0)]) (st' := [.ref 2]) rfl rfl ?_
      refine zy_h (mr := zm_m49) rfl rfl (zh_get (v := .int (-1)) k22 rfl) ?_
      refine zy_n 1 (mr := zm_m49) (pc' := 5) (ls' := [(0, .ref 2), (1, .int 0)]) (st' := [.int (-1), .int (-1)]) rfl rfl ?_
      refine zy_b (q := (8, [])) (mr := zm_m49) rfl rfl rfl ?_
      refine zy_n 1 (mr := zm_m49) (pc' := 9) (ls' := [(0, .ref 2), (1, .int 0)]) (st' := [.ref 2]) rfl rfl ?_
      refine zy_h (mr := zm_m49) rfl rfl (zh_get (v := .ref 4) k22 rfl) ?_
      refine zy_n 1 (mr := zm_m49) (pc' := 13) (ls' := [(0, .ref 2), (1, .int 0)]) (st' := [.ref 2, .ref 4]) rfl rfl ?_
      as_aux_lemma =>
        refine zy_h (mr := zm_m49) rfl rfl (zh_get (v := .int 0) k22 rfl) ?_
        have k23 := (zs_neE e21 (zs_neE e20 (zs_neE e18 (zs_eqE e16 k15) (by decide)) (by decide)) (by decide))
        refine zy_h (mr := zm_m49) rfl rfl (zh_iald (v := 0) k23 (by decide) rfl) ?_
        refine zy_n 1 (mr := zm_m49) (pc' := 18) (ls' := [(0, .ref 2), (1, .int 0)]) (st' := [.int 0, .int 0]) rfl rfl ?_
        refine zy_b (q := (21, [])) (mr := zm_m49) rfl rfl rfl ?_
        refine zy_n 2 (mr := zm_m49) (pc' := 26) (ls' := [(0, .ref 2), (1, .int 0)]) (st' := [.int 1]) rfl rfl ?_
        refine zy_r (mr := zm_m49) rfl rfl rfl ?_
        refine zy_b (q := (18, [])) (mr := zm_m38) rfl rfl rfl ?_
        refine zy_n 4 (mr := zm_m38) (pc' := 24) (ls' := [(2, .int 0), (0, .ref 2), (1, .ref 9)]) (st' := [.int 300, .int 0]) rfl rfl ?_
        refine zy_b (q := (27, [])) (mr := zm_m38) rfl rfl rfl ?_
        refine zy_n 2 (mr := zm_m38) (pc' := 30) (ls' := [(2, .int 0), (0, .ref 2), (1, .ref 9)]) (st' := [.int 59, .ref 2]) rfl rfl ?_
        refine zy_c (mc := zm_m61) (mr := zm_m38) rfl rfl (zh_v rfl k22 rfl) rfl rfl ?_
        refine zy_n 1 (mr := zm_m61) (pc' := 1) (ls' := [(0, .ref 2), (1, .int 59)]) (st' := [.int 59]) rfl rfl ?_
        refine zy_b (q := (4, [])) (mr := zm_m61) rfl rfl rfl ?_
        refine zy_n 2 (mr := zm_m61) (pc' := 6) (ls' := [(0, .ref 2), (1, .int 59)]) (st' := [.int 59, .ref 2]) rfl rfl ?_
        refine zy_c (mc := zm_m49) (mr := zm_m61) rfl rfl (zh_v rfl k22 rfl) rfl rfl ?_
        refine zy_n 1 (mr := zm_m49) (pc' := 1) (ls' := [(0, .ref 2), (1, .int 59)]) (st' := [.ref 2]) rfl rfl ?_
        refine zy_h (mr := zm_m49) rfl rfl (zh_get (v := .int (-1)) k22 rfl) ?_
        refine zy_n 1 (mr := zm_m49) (pc' := 5) (ls' := [(0, .ref 2), (1, .int 59)]) (st' := [.int (-1), .int (-1)]) rfl rfl ?_
        refine zy_b (q := (8, [])) (mr := zm_m49) rfl rfl rfl ?_
        refine zy_n 1 (mr := zm_m49) (pc' := 9) (ls' := [(0, .ref 2), (1, .int 59)]) (st' := [.ref 2]) rfl rfl ?_
        refine zy_h (mr := zm_m49) rfl rfl (zh_get (v := .ref 4) k22 rfl) ?_
        refine zy_n 1 (mr := zm_m49) (pc' := 13) (ls' := [(0, .ref 2), (1, .int 59)]) (st' := [.ref 2, .ref 4]) rfl rfl ?_
        refine zy_h (mr := zm_m49) rfl rfl (zh_get (v := .int 0) k22 rfl) ?_
        refine zy_h (mr := zm_m49) rfl rfl (zh_iald (v := 0) k23 (by decide) rfl) ?_
        refine zy_n 1 (mr := zm_m49) (pc' := 18) (ls' := [(0, .ref 2), (1, .int 59)]) (st' := [.int 59, .int 0]) rfl rfl ?_
        refine zy_b (q := (25, [])) (mr := zm_m49) rfl rfl rfl ?_
        refine zy_n 1 (mr := zm_m49) (pc' := 26) (ls' := [(0, .ref 2), (1, .int 59)]) (st' := [.int 0]) rfl rfl ?_
        refine zy_r (mr := zm_m49) rfl rfl rfl ?_
        refine zy_b (q := (12, [])) (mr := zm_m61) rfl rfl rfl ?_
        refine zy_n 1 (mr := zm_m61) (pc' := 13) (ls' := [(0, .ref 2), (1, .int 59)]) (st' := [.int 0]) rfl rfl ?_
        refine zy_r (mr := zm_m61) rfl rfl rfl ?_
        refine zy_b (q := (46, [])) (mr := zm_m38) rfl rfl rfl ?_
        refine zy_n 1 (mr := zm_m38) (pc' := 47) (ls' := [(2, .int 0), (0, .ref 2), (1, .ref 9)]) (st' := [.ref 2]) rfl rfl ?_
        refine zy_c (mc := zm_m71) (mr := zm_m38) rfl rfl (zh_v rfl k22 rfl) rfl rfl ?_
        refine zy_n 2 (mr := zm_m71) (pc' := 2) (ls' := [(0, .ref 2)]) (st' := [.int 0, .ref 2]) rfl rfl ?_
        refine zy_c (mc := zm_m49) (mr := zm_m71) rfl rfl (zh_v rfl k22 rfl) rfl rfl ?_
        refine zy_n 1 (mr := zm_m49) (pc' := 1) (ls' := [(0, .ref 2), (1, .int 0)]) (st' := [.ref 2]) rfl rfl ?_
        refine zy_h (mr := zm_m49) rfl rfl (zh_get (v := .int (-1)) k22 rfl) ?_
        refine zy_n 1 (mr := zm_m49) (pc' := 5) (ls' := [(0, .ref 2), (1, .int 0)]) (st' := [.int (-1), .int (-1)]) rfl rfl ?_
        refine zy_b (q := (8, [])) (mr := zm_m49) rfl rfl rfl ?_
        refine zy_n 1 (mr := zm_m49) (pc' := 9) (ls' := [(0, .ref 2), (1, .int 0)]) (st' := [.ref 2]) rfl rfl ?_
        refine zy_h (mr := zm_m49) rfl rfl (zh_get (v := .ref 4) k22 rfl) ?_
        refine zy_n 1 (mr := zm_m49) (pc' := 13) (ls' := [(0, .ref 2), (1, .int 0)]) (st' := [.ref 2, .ref 4]) rfl rfl ?_
        refine zy_h (mr := zm_m49) rfl rfl (zh_get (v := .int 0) k22 rfl) ?_
        refine zy_h (mr := zm_m49) rfl rfl (zh_iald (v := 0) k23 (by decide) rfl) ?_
        refine zy_n 1 (mr := zm_m49) (pc' := 18) (ls' := [(0, .ref 2), (1, .int 0)]) (st' := [.int 0, .int 0]) rfl rfl ?_
        refine zy_b (q := (21, [])) (mr := zm_m49) rfl rfl rfl ?_
        refine zy_n 2 (mr := zm_m49) (pc' := 26) (ls' := [(0, .ref 2), (1, .int 0)]) (st' := [.int 1]) rfl rfl ?_
        refine zy_r (mr := zm_m49) rfl rfl rfl ?_
        refine zy_b (q := (12, [])) (mr := zm_m71) rfl rfl rfl ?_
        refine zy_n 2 (mr := zm_m71) (pc' := 14) (ls' := [(0, .ref 2)]) (st' := [.int 0, .ref 2]) rfl rfl ?_
        as_aux_lemma =>
          refine zy_hS (x := .inr (7, [.ref 3, .int 0, .ref 4, .ref 5, .ref 6, .int 1, .int 0, .ref 9, .int 0, .int (-1)])) (mr := zm_m71) rfl rfl (zh_put k22 rfl rfl) (fun he24 e24 => ?_)
          refine zy_n 1 (mr := zm_m71) (pc' := 18) (ls' := [(0, .ref 2)]) (st' := [.ref 2]) rfl rfl ?_
          refine zy_h (mr := zm_m71) rfl rfl (zh_get (v := .int (-1)) (zs_eqE e24 k22) rfl) ?_
          refine zy_r (mr := zm_m71) rfl rfl rfl ?_
          refine zy_r (mr := zm_m38) rfl rfl rfl ?_
          have k25 := (zs_neE e24 (zs_neE e21 (zs_neE e20 (zs_neE e18 (zs_neE e16 (zs_neE e13 (zs_neE e11 (zs_neE e9 (zs_neE e7 (zs_neE e5 (zs_neE e4 (zs_neE e3 (zs_neE e2 (zp_o F 0 rfl) (by decide)) (by decide)) (by decide)) (by decide)) (by decide)) (by decide)) (by decide)) (by decide)) (by decide)) (by decide)) (by decide)) (by decide)) (by decide))
          refine zy_hS (x := .inr (10, [.ref 1, .int 0, .int 0, .int 0, .int 2, .int (-1), .ref 2, .ref 7, .ref 25, .ref 27, .ref 36, .ref 41, .ref 45, .ref 54, .null, .null])) (mr := zm_m35) rfl rfl (zh_put k25 rfl rfl) (fun he26 e26 => ?_)
          refine zy_n 1 (mr := zm_m35) (pc' := 39) (ls' := [(0, .ref 0), (1, .int a1)]) (st' := [.ref 0]) rfl rfl ?_
          have k27 := (zs_eqE e26 (zs_neE e24 (zs_neE e21 (zs_neE e20 (zs_neE e18 (zs_neE e16 (zs_neE e13 (zs_neE e11 (zs_neE e9 (zs_neE e7 (zs_neE e5 (zs_neE e4 (zs_neE e3 (zs_neE e2 (zp_o F 0 rfl) (by decide)) (by decide)) (by decide)) (by decide)) (by decide)) (by decide)) (by decide)) (by decide)) (by decide)) (by decide)) (by decide)) (by decide)) (by decide)))
          refine zy_h (mr := zm_m35) rfl rfl (zh_get (v := .int (-1)) k27 rfl) ?_
          refine zy_n 1 (mr := zm_m35) (pc' := 43) (ls' := [(0, .ref 0), (1, .int a1)]) (st' := [.int (-1), .int (-1)]) rfl rfl ?_
          refine zy_b (q := (49, [])) (mr := zm_m35) rfl rfl rfl ?_
          refine zy_n 1 (mr := zm_m35) (pc' := 50) (ls' := [(0, .ref 0), (1, .int a1)]) (st' := [.ref 0]) rfl rfl ?_
          refine zy_h (mr := zm_m35) rfl rfl (zh_get (v := .ref 36) k27 rfl) ?_
          refine zy_n 1 (mr := zm_m35) (pc' := 54) (ls' := [(0, .ref 0), (1, .int a1)]) (st' := [.int 0, .ref 36]) rfl rfl ?_
          have k28 := (zs_neE e26 (zs_neE e24 (zs_neE e21 (zs_neE e20 (zs_neE e18 (zs_neE e16 (zs_neE e13 (zs_neE e11 (zs_neE e9 (zs_neE e7 (zs_neE e5 (zs_neE e4 (zs_neE e3 (zs_neE e2 (zp_o F 7 rfl) (by decide)) (by decide)) (by decide)) (by decide)) (by decide)) (by decide)) (by decide)) (by decide)) (by decide)) (by decide)) (by decide)) (by decide)) (by decide)) (by decide))
          refine zy_hS (x := .inr (6, [.ref 7, .ref 37, .ref 38, .int 20, .int 30, .ref 39, .ref 40, .int 0, .null, .int 0, .null, .null, .null, .null, .null])) (mr := zm_m35) rfl rfl (zh_put k28 rfl (by decide)) (fun he29 e29 => ?_)
          refine zy_n 1 (mr := zm_m35) (pc' := 58) (ls' := [(0, .ref 0), (1, .int a1)]) (st' := [.ref 0]) rfl rfl ?_
          refine zy_h (mr := zm_m35) rfl rfl (zh_get (v := .ref 7) (zs_neE e29 k27 (by decide)) rfl) ?_
          refine zy_n 1 (mr := zm_m35) (pc' := 62) (ls' := [(0, .ref 0), (1, .int a1)]) (st' := [.int a1, .ref 7]) rfl rfl ?_
          have k30 := (zs_neE e29 (zs_neE e26 (zs_neE e24 (zs_neE e21 (zs_neE e20 (zs_neE e18 (zs_neE e16 (zs_neE e13 (zs_neE e11 (zs_neE e9 (zs_neE e7 (zs_neE e5 (zs_neE e4 (zs_neE e3 (zs_neE e2 (zp_o F 2 rfl) (by decide)) (by decide)) (by decide)) (by decide)) (by decide)) (by decide)) (by decide)) (by decide)) (by decide)) (by decide)) (by decide)) (by decide)) (by decide)) (by decide)) (by decide))
          refine zy_c (mc := zm_m72) (mr := zm_m35) rfl rfl (zh_v rfl k30 rfl) rfl rfl ?_
          refine zy_n 1 (mr := zm_m72) (pc' := 1) (ls' := [(0, .ref 7), (1, .int a1)]) (st' := [.ref 7]) rfl rfl ?_
          refine zy_h (mr := zm_m72) rfl rfl (zh_get (v := .ref 9) k30 rfl) ?_
          refine zy_n 3 (mr := zm_m72) (pc' := 7) (ls' := [(2, .ref 9), (0, .ref 7), (1, .int a1)]) (st' := [.int a1, .ref 9]) rfl rfl ?_
          have k31 := (zs_neE e29 (zs_neE e26 (zs_neE e24 (zs_neE e21 (zs_neE e20 (zs_neE e18 (zs_neE e16 (zs_neE e13 (zs_neE e11 (zs_neE e9 (zs_neE e7 (zs_eqE e5 (zs_eqE e4 (zs_eqE e3 (zs_neE e2 (zp_o F 3 rfl) (by decide))))) (by decide)) (by decide)) (by decide)) (by decide)) (by decide)) (by decide)) (by decide)) (by decide)) (by decide)) (by decide)) (by decide))
          refine zy_hS (x := .inr (9, [.ref 10, .int 0, .ref 11, .ref 12, .ref 13, .ref 14, .ref 15, .int 0, .int a1, .null])) (mr := zm_m72) rfl rfl (zh_put k31 rfl rfl) (fun he32 e32 => ?_)
          refine zy_n 4 (mr := zm_m72) (pc' := 14) (ls' := [(3, .int 0), (2, .ref 9), (0, .ref 7), (1, .int a1)]) (st' := [.ref 7, .int 0]) rfl rfl ?_
          refine zy_h (mr := zm_m72) rfl rfl (zh_get (v := .int 0) (zs_neE e32 k30 (by decide)) rfl) ?_
          refine zy_b (q := (61, [])) (mr := zm_m72) rfl rfl rfl ?_
          refine zy_n 1 (mr := zm_m72) (pc' := 62) (ls' := [(3, .int 0), (2, .ref 9), (0, .ref 7), (1, .int a1)]) (st' := [.ref 7]) rfl rfl ?_
          refine zy_h (mr := zm_m72) rfl rfl (zh_get (v := .int 0) (zs_neE e32 k30 (by decide)) rfl) ?_
          refine zy_n 1 (mr := zm_m72) (pc' := 67) (ls' := [(3, .int 0), (2, .ref 9), (0, .ref 7), (1, .int a1)]) (st' := [.int 12, .int 0]) rfl rfl ?_
          refine zy_b (q := (70, [])) (mr := zm_m72) rfl rfl rfl ?_
          refine zy_n 1 (mr := zm_m72) (pc' := 71) (ls' := [(3, .int 0), (2, .ref 9), (0, .ref 7), (1, .int a1)]) (st' := [.ref 7]) rfl rfl ?_
          refine zy_h (mr := zm_m72) rfl rfl (zh_get (v := .ref 8) (zs_neE e32 k30 (by decide)) rfl) ?_
          refine zy_n 2 (mr := zm_m72) (pc' := 76) (ls' := [(3, .int 0), (2, .ref 9), (0, .ref 7), (1, .int a1)]) (st' := [.ref 7, .ref 7, .ref 8]) rfl rfl ?_
          refine zy_h (mr := zm_m72) rfl rfl (zh_get (v := .int 0) (zs_neE e32 k30 (by decide)) rfl) ?_
          refine zy_n 3 (mr := zm_m72) (pc' := 82) (ls' := [(3, .int 0), (2, .ref 9), (0, .ref 7), (1, .int a1)]) (st' := [.int 1, .ref 7, .int 0, .ref 8]) rfl rfl ?_
          refine zy_hS (x := .inr (3, [.ref 8, .int 1, .ref 9, .ref 16, .ref 23, .ref 24])) (mr := zm_m72) rfl rfl (zh_put (zs_neE e32 k30 (by decide)) rfl rfl) (fun he33 e33 => ?_)
          refine zy_n 1 (mr := zm_m72) (pc' := 86) (ls' := [(3, .int 0), (2, .ref 9), (0, .ref 7), (1, .int a1)]) (st' := [.ref 9, .int 0, .ref 8]) rfl rfl ?_
          have k34 := (zs_neE e33 (zs_neE e32 (zs_neE e29 (zs_neE e26 (zs_neE e24 (zs_neE e21 (zs_neE e20 (zs_neE e18 (zs_neE e16 (zs_neE e13 (zs_neE e11 (zs_neE e9 (zs_neE e7 (zs_neE e5 (zs_neE e4 (zs_neE e3 (zs_neE e2 (zp_r F 1 rfl) (by decide)) (by decide)) (by decide)) (by decide)) (by decide)) (by decide)) (by decide)) (by decide)) (by decide)) (by decide)) (by decide)) (by decide)) (by decide)) (by decide)) (by decide)) (by decide)) (by decide))
          have k35 := (zs_neE e33 (zs_eqE e32 (zs_neE e29 (zs_neE e26 (zs_neE e24 (zs_neE e21 (zs_neE e20 (zs_neE e18 (zs_neE e16 (zs_neE e13 (zs_neE e11 (zs_neE e9 (zs_neE e7 (zs_eqE e5 (zs_eqE e4 (zs_eqE e3 (zs_neE e2 (zp_o F 3 rfl) (by decide))))) (by decide)) (by decide)) (by decide)) (by decide)) (by decide)) (by decide)) (by decide)) (by decide)) (by decide)) (by decide)) (by decide))) (by decide))
          refine zy_hS (x := _) (mr := zm_m72) rfl rfl (zh_aast k34 k35 rfl (by decide)) (fun he36 e36 => ?_)
          refine zy_n 1 (mr := zm_m72) (pc' := 88) (ls' := [(3, .int 0), (2, .ref 9), (0, .ref 7), (1, .int a1)]) (st' := [.ref 7]) rfl rfl ?_
          have k37 := (zs_lsetE e36 (zs_lsetE e33 (zs_lsetE e32 (zs_lsetE e29 (zs_lsetE e26 (zs_lsetE e24 (zs_lsetE e21 (zs_lsetE e20 (zs_lsetE e18 (zs_lsetE e16 (zs_lsetE e13 (zs_lsetE e11 (zs_lsetE e9 (zs_lsetE e7 (zs_lsetE e5 (zs_lsetE e4 (zs_lsetE e3 (zs_lsetE e2 (zp_len F).1))))))))))))))))))
          refine zy_hE (mr := zm_m72) rfl rfl (zh_new k37) (fun he38 e38 => ?_)
          refine zy_n 3 (mr := zm_m72) (pc' := 97) (ls' := [(3, .int 0), (2, .ref 9), (0, .ref 7), (1, .int a1)]) (st' := [.int 12, .int 300, .ref 117, .ref 117, .ref 7]) rfl rfl ?_
          refine zy_c (mc := zm_m3) (mr := zm_m72) rfl rfl rfl rfl rfl ?_
          refine zy_n 1 (mr := zm_m3) (pc' := 1) (ls' := [(0, .ref 117), (1, .int 300), (2, .int 12)]) (st' := [.ref 117]) rfl rfl ?_
          refine zy_h (mr := zm_m3) rfl rfl (zh_oinit) ?_
          refine zy_n 2 (mr := zm_m3) (pc' := 6) (ls' := [(0, .ref 117), (1, .int 300), (2, .int 12)]) (st' := [.int 0, .ref 117]) rfl rfl ?_
          as_aux_lemma =>
            refine zy_hS (x := .inr (9, [.null, .int 0, .null, .null, .null, .null, .null, .int 0, .int 0, .null])) (mr := zm_m3) rfl rfl (zh_put (zs_newE (k := 0) e38 k37 rfl) rfl rfl) (fun he39 e39 => ?_)
            refine zy_n 2 (mr := zm_m3) (pc' := 11) (ls' := [(0, .ref 117), (1, .int 300), (2, .int 12)]) (st' := [.int 0, .ref 117]) rfl rfl ?_
            refine zy_hS (x := .inr (9, [.null, .int 0, .null, .null, .null, .null, .null, .int 0, .int 0, .null])) (mr := zm_m3) rfl rfl (zh_put (zs_eqE e39 (zs_newE (k := 0) e38 k37 rfl)) rfl rfl) (fun he40 e40 => ?_)
            refine zy_n 2 (mr := zm_m3) (pc' := 16) (ls' := [(0, .ref 117), (1, .int 300), (2, .int 12)]) (st' := [.int 0, .ref 117]) rfl rfl ?_
            refine zy_hS (x := .inr (9, [.null, .int 0, .null, .null, .null, .null, .null, .int 0, .int 0, .null])) (mr := zm_m3) rfl rfl (zh_put (zs_eqE e40 (zs_eqE e39 (zs_newE (k := 0) e38 k37 rfl))) rfl rfl) (fun he41 e41 => ?_)
            refine zy_n 2 (mr := zm_m3) (pc' := 21) (ls' := [(0, .ref 117), (1, .int 300), (2, .int 12)]) (st' := [.null, .ref 117]) rfl rfl ?_
            refine zy_hS (x := .inr (9, [.null, .int 0, .null, .null, .null, .null, .null, .int 0, .int 0, .null])) (mr := zm_m3) rfl rfl (zh_put (zs_eqE e41 (zs_eqE e40 (zs_eqE e39 (zs_newE (k := 0) e38 k37 rfl)))) rfl rfl) (fun he42 e42 => ?_)
            refine zy_n 2 (mr := zm_m3) (pc' := 26) (ls' := [(0, .ref 117), (1, .int 300), (2, .int 12)]) (st' := [.int 300, .ref 117]) rfl rfl ?_
            refine zy_hE (mr := zm_m3) rfl rfl (zh_newa (N := 300) (zs_lsetE e42 (zs_lsetE e41 (zs_lsetE e40 (zs_lsetE e39 (zs_lappE e38 k37 rfl))))) (by decide) (by decide)) (fun he43 e43 => ?_)
            have k44 := (zs_appE e43 (zs_eqE e42 (zs_eqE e41 (zs_eqE e40 (zs_eqE e39 (zs_newE (k := 0) e38 k37 rfl))))))
            refine zy_hS (x := .inr (9, [.ref 118, .int 0, .null, .null, .null, .null, .null, .int 0, .int 0, .null])) (mr := zm_m3) rfl rfl (zh_put k44 rfl rfl) (fun he45 e45 => ?_)
            refine zy_n 2 (mr := zm_m3) (pc' := 33) (ls' := [(0, .ref 117), (1, .int 300), (2, .int 12)]) (st' := [.int 12, .ref 117]) rfl rfl ?_
            have k46 := (zs_lsetE e45 (zs_lappE e43 (zs_lsetE e42 (zs_lsetE e41 (zs_lsetE e40 (zs_lsetE e39 (zs_lappE e38 k37 rfl))))) rfl))
            refine zy_hE (mr := zm_m3) rfl rfl (zh_newa (N := 12) k46 (by decide) (by decide)) (fun he47 e47 => ?_)
            have k48 := (zs_appE e47 (zs_eqE e45 (zs_appE e43 (zs_eqE e42 (zs_eqE e41 (zs_eqE e40 (zs_eqE e39 (zs_newE (k := 0) e38 k37 rfl))))))))
            refine zy_hS (x := .inr (9, [.ref 118, .int 0, .ref 119, .null, .null, .null, .null, .int 0, .int 0, .null])) (mr := zm_m3) rfl rfl (zh_put k48 rfl rfl) (fun he49 e49 => ?_)
            refine zy_n 2 (mr := zm_m3) (pc' := 40) (ls' := [(0, .ref 117), (1, .int 300), (2, .int 12)]) (st' := [.int 12, .ref 117]) rfl rfl ?_
            refine zy_hE (mr := zm_m3) rfl rfl (zh_newa (N := 12) (zs_lsetE e49 (zs_lappE e47 k46 rfl)) (by decide) (by decide)) (fun he50 e50 => ?_)
            have k51 := (zs_appE e50 (zs_eqE e49 (zs_appE e47 (zs_eqE e45 (zs_appE e43 (zs_eqE e42 (zs_eqE e41 (zs_eqE e40 (zs_eqE e39 (zs_newE (k := 0) e38 k37 rfl))))))))))
            refine zy_hS (x := .inr (9, [.ref 118, .int 0, .ref 119, .ref 120, .null, .null, .null, .int 0, .int 0, .null])) (mr := zm_m3) rfl rfl (zh_put k51 rfl rfl) (fun he52 e52 => ?_)
            refine zy_n 2 (mr := zm_m3) (pc' := 47) (ls' := [(0, .ref 117), (1, .int 300), (2, .int 12)]) (st' := [.int 12, .ref 117]) rfl rfl ?_
            refine zy_hE (mr := zm_m3) rfl rfl (zh_newa (N := 12) (zs_lsetE e52 (zs_lappE e50 (zs_lsetE e49 (zs_lappE e47 k46 rfl)) rfl)) (by decide) (by decide)) (fun he53 e53 => ?_)
            have k54 := (zs_appE e53 (zs_eqE e52 (zs_appE e50 (zs_eqE e49 (zs_appE e47 (zs_eqE e45 (zs_appE e43 (zs_eqE e42 (zs_eqE e41 (zs_eqE e40 (zs_eqE e39 (zs_newE (k := 0) e38 k37 rfl))))))))))))
            refine zy_hS (x := .inr (9, [.ref 118, .int 0, .ref 119, .ref 120, .ref 121, .null, .null, .int 0, .int 0, .null])) (mr := zm_m3) rfl rfl (zh_put k54 rfl rfl) (fun he55 e55 => ?_)
            refine zy_n 2 (mr := zm_m3) (pc' := 54) (ls' := [(0, .ref 117), (1, .int 300), (2, .int 12)]) (st' := [.int 12, .ref 117]) rfl rfl ?_
            have k56 := (zs_lsetE e55 (zs_lappE e53 (zs_lsetE e52 (zs_lappE e50 (zs_lsetE e49 (zs_lappE e47 k46 rfl)) rfl)) rfl))
            refine zy_hE (mr := zm_m3) rfl rfl (zh_newa (N := 12) k56 (by decide) (by decide)) (fun he57 e57 => ?_)
            have k58 := (zs_appE e57 (zs_eqE e55 (zs_appE e53 (zs_eqE e52 (zs_appE e50 (zs_eqE e49 (zs_appE e47 (zs_eqE e45 (zs_appE e43 (zs_eqE e42 (zs_eqE e41 (zs_eqE e40 (zs_eqE e39 (zs_newE (k := 0) e38 k37 rfl))))))))))))))
            refine zy_hS (x := .inr (9, [.ref 118, .int 0, .ref 119, .ref 120, .ref 121, .ref 122, .null, .int 0, .int 0, .null])) (mr := zm_m3) rfl rfl (zh_put k58 rfl rfl) (fun he59 e59 => ?_)
            refine zy_n 2 (mr := zm_m3) (pc' := 61) (ls' := [(0, .ref 117), (1, .int 300), (2, .int 12)]) (st' := [.int 12, .ref 117]) rfl rfl ?_
            refine zy_hE (mr := zm_m3) rfl rfl (zh_newa (N := 12) (zs_lsetE e59 (zs_lappE e57 k56 rfl)) (by decide) (by decide)) (fun he60 e60 => ?_)
            have k61 := (zs_appE e60 (zs_eqE e59 (zs_appE e57 (zs_eqE e55 (zs_appE e53 (zs_eqE e52 (zs_appE e50 (zs_eqE e49 (zs_appE e47 (zs_eqE e45 (zs_appE e43 (zs_eqE e42 (zs_eqE e41 (zs_eqE e40 (zs_eqE e39 (zs_newE (k := 0) e38 k37 rfl))))))))))))))))
            refine zy_hS (x := .inr (9, [.ref 118, .int 0, .ref 119, .ref 120, .ref 121, .ref 122, .ref 123, .int 0, .int 0, .null])) (mr := zm_m3) rfl rfl (zh_put k61 rfl rfl) (fun he62 e62 => ?_)
            refine zy_r (mr := zm_m3) rfl rfl rfl ?_
            have k63 := (zs_neE e62 (zs_appE e60 (zs_neE e59 (zs_appE e57 (zs_neE e55 (zs_appE e53 (zs_neE e52 (zs_appE e50 (zs_neE e49 (zs_appE e47 (zs_neE e45 (zs_appE e43 (zs_neE e42 (zs_neE e41 (zs_neE e40 (zs_neE e39 (zs_appE e38 (zs_neE e36 (zs_eqE e33 (zs_neE e32 k30 (by decide))) (by decide))) (by decide)) (by decide)) (by decide)) (by decide))) (by decide))) (by decide))) (by decide))) (by decide))) (by decide))) (by decide))
            refine zy_hS (x := .inr (3, [.ref 8, .int 1, .ref 117, .ref 16, .ref 23, .ref 24])) (mr := zm_m72) rfl rfl (zh_put k63 rfl rfl) (fun he64 e64 => ?_)
            refine zy_n 1 (mr := zm_m72) (pc' := 104) (ls' := [(3, .int 0), (2, .ref 9), (0, .ref 7), (1, .int a1)]) (st' := [.ref 9]) rfl rfl ?_
            have k65 := (zs_neE e64 (zs_neE e62 (zs_appE e60 (zs_neE e59 (zs_appE e57 (zs_neE e55 (zs_appE e53 (zs_neE e52 (zs_appE e50 (zs_neE e49 (zs_appE e47 (zs_neE e45 (zs_appE e43 (zs_neE e42 (zs_neE e41 (zs_neE e40 (zs_neE e39 (zs_appE e38 (zs_neE e36 k35 (by decide))) (by decide)) (by decide)) (by decide)) (by decide))) (by decide))) (by decide))) (by decide))) (by decide))) (by decide))) (by decide)) (by decide))
            refine zy_h (mr := zm_m72) rfl rfl (zh_get (v := .int 0) k65 rfl) ?_
            refine zy_r (mr := zm_m72) rfl rfl rfl ?_
            refine zy_r (mr := zm_m35) rfl rfl rfl ?_
            refine ⟨⟨_, rfl, ?_⟩, fun k hk1 hk2 => ((zs_kE e64 (by omega)).trans ((zs_kE e62 (by omega)).trans ((zs_kappE e60 (zs_lsetE e59 (zs_lappE e57 k56 rfl)) (by omega)).trans ((zs_kE e59 (by omega)).trans ((zs_kappE e57 k56 (by omega)).trans ((zs_kE e55 (by omega)).trans ((zs_kappE e53 (zs_lsetE e52 (zs_lappE e50 (zs_lsetE e49 (zs_lappE e47 k46 rfl)) rfl)) (by omega)).trans ((zs_kE e52 (by omega)).trans ((zs_kappE e50 (zs_lsetE e49 (zs_lappE e47 k46 rfl)) (by omega)).trans ((zs_kE e49 (by omega)).trans ((zs_kappE e47 k46 (by omega)).trans ((zs_kE e45 (by omega)).trans ((zs_kappE e43 (zs_lsetE e42 (zs_lsetE e41 (zs_lsetE e40 (zs_lsetE e39 (zs_lappE e38 k37 rfl))))) (by omega)).trans ((zs_kE e42 (by omega)).trans ((zs_kE e41 (by omega)).trans ((zs_kE e40 (by omega)).trans ((zs_kE e39 (by omega)).trans ((zs_kappE e38 k37 (by omega)).trans ((zs_kE e36 (by omega)).trans ((zs_kE e33 (by omega)).trans ((zs_kE e32 (by omega)).trans ((zs_kE e29 (by omega)).trans ((zs_kE e26 (by omega)).trans ((zs_kE e24 (by omega)).trans ((zs_kE e21 (by omega)).trans ((zs_kE e20 (by omega)).trans ((zs_kE e18 (by omega)).trans ((zs_kE e16 (by omega)).trans ((zs_kE e13 (by omega)).trans ((zs_kE e11 (by omega)).trans ((zs_kE e9 (by omega)).trans ((zs_kE e7 (by omega)).trans ((zs_kE e5 (by omega)).trans ((zs_kE e4 (by omega)).trans ((zs_kE e3 (by omega)).trans ((zs_kE e2 (by omega)).trans rfl)))))))))))))))))))))))))))))))))))), Nat.le_trans (Nat.le_of_eq (zs_lsetE e64 (zs_lsetE e62 (zs_lappE e60 (zs_lsetE e59 (zs_lappE e57 k56 rfl)) rfl)))) (by decide), Nat.le_trans (Nat.le_of_eq (zs_szsetE (w := 6) e64 (zs_neE e62 (zs_appE e60 (zs_neE e59 (zs_appE e57 (zs_neE e55 (zs_appE e53 (zs_neE e52 (zs_appE e50 (zs_neE e49 (zs_appE e47 (zs_neE e45 (zs_appE e43 (zs_neE e42 (zs_neE e41 (zs_neE e40 (zs_neE e39 (zs_appE e38 (zs_neE e36 (zs_eqE e33 (zs_neE e32 k30 (by decide))) (by decide))) (by decide)) (by decide)) (by decide)) (by decide))) (by decide))) (by decide))) (by decide))) (by decide))) (by decide))) (by decide)) rfl rfl (zs_szsetE (w := 10) e62 (zs_appE e60 (zs_eqE e59 (zs_appE e57 (zs_eqE e55 (zs_appE e53 (zs_eqE e52 (zs_appE e50 (zs_eqE e49 (zs_appE e47 (zs_eqE e45 (zs_appE e43 (zs_eqE e42 (zs_eqE e41 (zs_eqE e40 (zs_eqE e39 (zs_newE (k := 0) e38 k37 rfl)))))))))))))))) rfl rfl (zs_szappE e60 (zs_szsetE (w := 10) e59 (zs_appE e57 (zs_eqE e55 (zs_appE e53 (zs_eqE e52 (zs_appE e50 (zs_eqE e49 (zs_appE e47 (zs_eqE e45 (zs_appE e43 (zs_eqE e42 (zs_eqE e41 (zs_eqE e40 (zs_eqE e39 (zs_newE (k := 0) e38 k37 rfl)))))))))))))) rfl rfl (zs_szappE e57 (zs_szsetE (w := 10) e55 (zs_appE e53 (zs_eqE e52 (zs_appE e50 (zs_eqE e49 (zs_appE e47 (zs_eqE e45 (zs_appE e43 (zs_eqE e42 (zs_eqE e41 (zs_eqE e40 (zs_eqE e39 (zs_newE (k := 0) e38 k37 rfl)))))))))))) rfl rfl (zs_szappE e53 (zs_szsetE (w := 10) e52 (zs_appE e50 (zs_eqE e49 (zs_appE e47 (zs_eqE e45 (zs_appE e43 (zs_eqE e42 (zs_eqE e41 (zs_eqE e40 (zs_eqE e39 (zs_newE (k := 0) e38 k37 rfl)))))))))) rfl rfl (zs_szappE e50 (zs_szsetE (w := 10) e49 (zs_appE e47 (zs_eqE e45 (zs_appE e43 (zs_eqE e42 (zs_eqE e41 (zs_eqE e40 (zs_eqE e39 (zs_newE (k := 0) e38 k37 rfl)))))))) rfl rfl (zs_szappE e47 (zs_szsetE (w := 10) e45 (zs_appE e43 (zs_eqE e42 (zs_eqE e41 (zs_eqE e40 (zs_eqE e39 (zs_newE (k := 0) e38 k37 rfl)))))) rfl rfl (zs_szappE e43 (zs_szsetE (w := 10) e42 (zs_eqE e41 (zs_eqE e40 (zs_eqE e39 (zs_newE (k := 0) e38 k37 rfl)))) rfl rfl (zs_szsetE (w := 10) e41 (zs_eqE e40 (zs_eqE e39 (zs_newE (k := 0) e38 k37 rfl))) rfl rfl (zs_szsetE (w := 10) e40 (zs_eqE e39 (zs_newE (k := 0) e38 k37 rfl)) rfl rfl (zs_szsetE (w := 10) e39 (zs_newE (k := 0) e38 k37 rfl) rfl rfl (zs_szappE e38 (zs_szsetE (w := 12) e36 k34 rfl rfl (zs_szsetE (w := 6) e33 (zs_neE e32 k30 (by decide)) rfl rfl (zs_szsetE (w := 10) e32 (zs_neE e29 (zs_neE e26 (zs_neE e24 (zs_neE e21 (zs_neE e20 (zs_neE e18 (zs_neE e16 (zs_neE e13 (zs_neE e11 (zs_neE e9 (zs_neE e7 (zs_eqE e5 (zs_eqE e4 (zs_eqE e3 (zs_neE e2 (zp_o F 3 rfl) (by decide))))) (by decide)) (by decide)) (by decide)) (by decide)) (by decide)) (by decide)) (by decide)) (by decide)) (by decide)) (by decide)) (by decide)) rfl rfl (zs_szsetE (w := 15) e29 (zs_neE e26 (zs_neE e24 (zs_neE e21 (zs_neE e20 (zs_neE e18 (zs_neE e16 (zs_neE e13 (zs_neE e11 (zs_neE e9 (zs_neE e7 (zs_neE e5 (zs_neE e4 (zs_neE e3 (zs_neE e2 (zp_o F 7 rfl) (by decide)) (by decide)) (by decide)) (by decide)) (by decide)) (by decide)) (by decide)) (by decide)) (by decide)) (by decide)) (by decide)) (by decide)) (by decide)) (by decide)) rfl rfl (zs_szsetE (w := 16) e26 (zs_neE e24 (zs_neE e21 (zs_neE e20 (zs_neE e18 (zs_neE e16 (zs_neE e13 (zs_neE e11 (zs_neE e9 (zs_neE e7 (zs_neE e5 (zs_neE e4 (zs_neE e3 (zs_neE e2 (zp_o F 0 rfl) (by decide)) (by decide)) (by decide)) (by decide)) (by decide)) (by decide)) (by decide)) (by decide)) (by decide)) (by decide)) (by decide)) (by decide)) (by decide)) rfl rfl (zs_szsetE (w := 10) e24 k22 rfl rfl (zs_szsetE (w := 10) e21 (zs_neE e20 (zs_neE e18 (zs_neE e16 k14 (by decide)) (by decide)) (by decide)) rfl rfl (zs_szsetE (w := 301) e20 k19 rfl rfl (zs_szsetE (w := 301) e18 k17 rfl rfl (zs_szsetE (w := 301) e16 k15 rfl rfl (zs_szsetE (w := 10) e13 (zs_eqE e11 (zs_eqE e9 (zs_eqE e7 (zs_neE e5 (zs_neE e4 (zs_neE e3 (zs_eqE e2 (zp_o F 1 rfl)) (by decide)) (by decide)) (by decide))))) rfl rfl (zs_szsetE (w := 10) e11 (zs_eqE e9 (zs_eqE e7 (zs_neE e5 (zs_neE e4 (zs_neE e3 (zs_eqE e2 (zp_o F 1 rfl)) (by decide)) (by decide)) (by decide)))) rfl rfl (zs_szsetE (w := 10) e9 (zs_eqE e7 (zs_neE e5 (zs_neE e4 (zs_neE e3 (zs_eqE e2 (zp_o F 1 rfl)) (by decide)) (by decide)) (by decide))) rfl rfl (zs_szsetE (w := 10) e7 (zs_neE e5 (zs_neE e4 (zs_neE e3 (zs_eqE e2 (zp_o F 1 rfl)) (by decide)) (by decide)) (by decide)) rfl rfl (zs_szsetE (w := 10) e5 (zs_eqE e4 (zs_eqE e3 (zs_neE e2 (zp_o F 3 rfl) (by decide)))) rfl rfl (zs_szsetE (w := 10) e4 (zs_eqE e3 (zs_neE e2 (zp_o F 3 rfl) (by decide))) rfl rfl (zs_szsetE (w := 10) e3 (zs_neE e2 (zp_o F 3 rfl) (by decide)) rfl rfl (zs_szsetE (w := 10) e2 (zp_o F 1 rfl) rfl rfl (zp_len F).2)))))))))))))))))) rfl))))) rfl)) rfl)) rfl)) rfl)) rfl)) rfl)))) (by decide)⟩
            simp [zf_10, hc1]
  · skip
    refine zy_r (mr := zm_m36) rfl rfl rfl ?_
    refine zy_b (q := (17, [])) (mr := zm_m35) rfl rfl rfl ?_
    refine zy_n 1 (mr := zm_m35) (pc' := 19) (ls' := [(0, .ref 0), (1, .int a1)]) (st' := [.int (-2)]) rfl rfl ?_
    refine zy_r (mr := zm_m35) rfl rfl rfl ?_
    refine ⟨⟨_, rfl, ?_⟩, fun k hk1 hk2 => rfl, Nat.le_trans (Nat.le_of_eq (zp_len F).1) (by decide), Nat.le_trans (Nat.le_of_eq (zp_len F).2) (by decide)⟩
    simp [zf_10, hc1]
set_option maxHeartbeats 4000000 in
set_option maxRecDepth 20000 in
theorem zx_11 {og : Nat → Option zm_C} {h : zm_H} (F : zp_ck h = true)  : zm_Y og 30 73 0 [(0, .ref 0)] [] h (fun r h1 => (∃ v, r = some (.int v) ∧ zf_11 v) ∧ (∀ k : Nat, 55 ≤ k → k < 117 → h1[k]? = h[k]?) ∧ h1.length ≤ 200 ∧ zm_szs h1 ≤ 90000) := by
  refine zy_n 1 (mr := zm_m73) (pc' := 1) (ls' := [(0, .ref 0)]) (st' := [.ref 0]) rfl rfl ?_
  refine zy_h (mr := zm_m73) rfl rfl (zh_get (v := .int (-1)) (zp_o F 0 rfl) rfl) ?_
  refine zy_r (mr := zm_m73) rfl rfl rfl ?_
  refine ⟨⟨_, rfl, ?_⟩, fun k hk1 hk2 => rfl, Nat.le_trans (Nat.le_of_eq (zp_len F).1) (by decide), Nat.le_trans (Nat.le_of_eq (zp_len F).2) (by decide)⟩
  simp [zf_11]
set_option maxHeartbeats 4000000 in
set_option maxRecDepth 20000 in
theorem zx_12 {og : Nat → Option zm_C} {h : zm_H} (F : zp_ck h = true) (a1 : Int32) (a2 : Int32) (a3 : Int32) : zm_Y og 30 74 0 [(0, .ref 0), (1, .int a1), (2, .int a2), (3, .int a3)] [] h (fun r h1 => (∃ v, r = some (.int v) ∧ zf_12 a1 a2 a3 v) ∧ (∀ k : Nat, 55 ≤ k → k < 117 → h1[k]? = h[k]?) ∧ h1.length ≤ 200 ∧ zm_szs h1 ≤ 90000) := by
  refine zy_n 3 (mr := zm_m74) (pc' := 3) (ls' := [(0, .ref 0), (1, .int a1), (2, .int a2), (3, .int a3)]) (st' := [.int a2, .int a1, .ref 0]) rfl rfl ?_
  refine zy_c (mc := zm_m27) (mr := zm_m74) rfl rfl (zh_v rfl (zp_o F 0 rfl) rfl) rfl rfl ?_
  refine zy_n 2 (mr := zm_m27) (pc' := 2) (ls' := [(0, .ref 0), (1, .int a1), (2, .int a2)]) (st' := [.int a1, .ref 0]) rfl rfl ?_
  refine zy_c (mc := zm_m18) (mr := zm_m27) rfl rfl (zh_v rfl (zp_o F 0 rfl) rfl) rfl rfl ?_
  refine zy_n 3 (mr := zm_m18) (pc' := 3) (ls' := [(0, .ref 0), (1, .int a1)]) (st' := [.ref 0, .int 0, .int a1]) rfl rfl ?_
  refine zy_h (mr := zm_m18) rfl rfl (zh_get (v := .int 0) (zp_o F 0 rfl) rfl) ?_
  refine zy_n 2 (mr := zm_m18) (pc' := 8) (ls' := [(0, .ref 0), (1, .int a1)]) (st' := [.int (-1), .int 0, .int a1]) rfl rfl ?_
  refine zy_c (mc := zm_m10) (mr := zm_m18) rfl rfl rfl rfl rfl (zm_Y.mono (zk_within a1 0 (-1)) ?_)
  rintro r h1 ⟨rfl, ⟨rfl, hc1⟩ | ⟨rfl, hc1⟩⟩
  · exact absurd hc1 (zl_emp (by decide))
  refine zy_r (mr := zm_m18) rfl rfl rfl ?_
  refine zy_b (q := (31, [])) (mr := zm_m27) rfl rfl rfl ?_
  refine zy_n 1 (mr := zm_m27) (pc' := 32) (ls' := [(0, .ref 0), (1, .int a1), (2, .int a2)]) (st' := [.int 0]) rfl rfl ?_
  refine zy_r (mr := zm_m27) rfl rfl rfl ?_
  refine zy_b (q := (16, [])) (mr := zm_m74) rfl rfl rfl ?_
  refine zy_n 1 (mr := zm_m74) (pc' := 18) (ls' := [(0, .ref 0), (1, .int a1), (2, .int a2), (3, .int a3)]) (st' := [.int (-2)]) rfl rfl ?_
  refine zy_r (mr := zm_m74) rfl rfl rfl ?_
  refine ⟨⟨_, rfl, ?_⟩, fun k hk1 hk2 => rfl, Nat.le_trans (Nat.le_of_eq (zp_len F).1) (by decide), Nat.le_trans (Nat.le_of_eq (zp_len F).2) (by decide)⟩
  simp [zf_12]
set_option maxHeartbeats 4000000 in
set_option maxRecDepth 20000 in
theorem zx_13 {og : Nat → Option zm_C} {h : zm_H} (F : zp_ck h = true) (a1 : Int32) (a2 : Int32) (a3 : Int32) : zm_Y og 30 84 0 [(0, .ref 0), (1, .int a1), (2, .int a2), (3, .int a3)] [] h (fun r h1 => (∃ v, r = some (.int v) ∧ zf_13 a1 a2 a3 v) ∧ (∀ k : Nat, 55 ≤ k → k < 117 → h1[k]? = h[k]?) ∧ h1.length ≤ 200 ∧ zm_szs h1 ≤ 90000) := by
  refine zy_n 2 (mr := zm_m84) (pc' := 2) (ls' := [(0, .ref 0), (1, .int a1), (2, .int a2), (3, .int a3)]) (st' := [.int a1, .ref 0]) rfl rfl ?_
  refine zy_c (mc := zm_m18) (mr := zm_m84) rfl rfl (zh_v rfl (zp_o F 0 rfl) rfl) rfl rfl ?_
  refine zy_n 3 (mr := zm_m18) (pc' := 3) (ls' := [(0, .ref 0), (1, .int a1)]) (st' := [.ref 0, .int 0, .int a1]) rfl rfl ?_
  refine zy_h (mr := zm_m18) rfl rfl (zh_get (v := .int 0) (zp_o F 0 rfl) rfl) ?_
  refine zy_n 2 (mr := zm_m18) (pc' := 8) (ls' := [(0, .ref 0), (1, .int a1)]) (st' := [.int (-1), .int 0, .int a1]) rfl rfl ?_
  refine zy_c (mc := zm_m10) (mr := zm_m18) rfl rfl rfl rfl rfl (zm_Y.mono (zk_within a1 0 (-1)) ?_)
  rintro r h1 ⟨rfl, ⟨rfl, hc1⟩ | ⟨rfl, hc1⟩⟩
  · exact absurd hc1 (zl_emp (by decide))
  refine zy_r (mr := zm_m18) rfl rfl rfl ?_
  refine zy_b (q := (24, [])) (mr := zm_m84) rfl rfl rfl ?_
  refine zy_n 1 (mr := zm_m84) (pc' := 26) (ls' := [(0, .ref 0), (1, .int a1), (2, .int a2), (3, .int a3)]) (st' := [.int (-2)]) rfl rfl ?_
  refine zy_r (mr := zm_m84) rfl rfl rfl ?_
  refine ⟨⟨_, rfl, ?_⟩, fun k hk1 hk2 => rfl, Nat.le_trans (Nat.le_of_eq (zp_len F).1) (by decide), Nat.le_trans (Nat.le_of_eq (zp_len F).2) (by decide)⟩
  simp [zf_13]
set_option maxHeartbeats 4000000 in
set_option maxRecDepth 20000 in
theorem zx_14 {og : Nat → Option zm_C} {h : zm_H} (F : zp_ck h = true) (a1 : Int32) (a2 : Int32) (a3 : Int32) : zm_Y og 30 89 0 [(0, .ref 0), (1, .int a1), (2, .int a2), (3, .int a3)] [] h (fun r h1 => (∃ v, r = some (.long v) ∧ zf_14 a1 a2 a3 v) ∧ (∀ k : Nat, 55 ≤ k → k < 117 → h1[k]? = h[k]?) ∧ h1.length ≤ 200 ∧ zm_szs h1 ≤ 90000) := by
  refine zy_n 2 (mr := zm_m89) (pc' := 2) (ls' := [(0, .ref 0), (1, .int a1), (2, .int a2), (3, .int a3)]) (st' := [.int a1, .ref 0]) rfl rfl ?_
  refine zy_c (mc := zm_m18) (mr := zm_m89) rfl rfl (zh_v rfl (zp_o F 0 rfl) rfl) rfl rfl ?_
  refine zy_n 3 (mr := zm_m18) (pc' := 3) (ls' := [(0, .ref 0), (1, .int a1)]) (st' := [.ref 0, .int 0, .int a1]) rfl rfl ?_
  refine zy_h (mr := zm_m18) rfl rfl (zh_get (v := .int 0) (zp_o F 0 rfl) rfl) ?_
  refine zy_n 2 (mr := zm_m18) (pc' := 8) (ls' := [(0, .ref 0), (1, .int a1)]) (st' := [.int (-1), .int 0, .int a1]) rfl rfl ?_
  refine zy_c (mc := zm_m10) (mr := zm_m18) rfl rfl rfl rfl rfl (zm_Y.mono (zk_within a1 0 (-1)) ?_)
  rintro r h1 ⟨rfl, ⟨rfl, hc1⟩ | ⟨rfl, hc1⟩⟩
  · exact absurd hc1 (zl_emp (by decide))
  refine zy_r (mr := zm_m18) rfl rfl rfl ?_
  refine zy_b (q := (26, [])) (mr := zm_m89) rfl rfl rfl ?_
  refine zy_n 1 (mr := zm_m89) (pc' := 29) (ls' := [(0, .ref 0), (1, .int a1), (2, .int a2), (3, .int a3)]) (st' := [.long (-2)]) rfl rfl ?_
  refine zy_r (mr := zm_m89) rfl rfl rfl ?_
  refine ⟨⟨_, rfl, ?_⟩, fun k hk1 hk2 => rfl, Nat.le_trans (Nat.le_of_eq (zp_len F).1) (by decide), Nat.le_trans (Nat.le_of_eq (zp_len F).2) (by decide)⟩
  simp [zf_14]
set_option maxHeartbeats 4000000 in
set_option maxRecDepth 20000 in
theorem zx_15 {og : Nat → Option zm_C} {h : zm_H} (F : zp_ck h = true) (a1 : Int32) : zm_Y og 30 92 0 [(0, .ref 0), (1, .int a1)] [] h (fun r h1 => (∃ v, r = some (.long v) ∧ zf_15 a1 v) ∧ (∀ k : Nat, 55 ≤ k → k < 117 → h1[k]? = h[k]?) ∧ h1.length ≤ 200 ∧ zm_szs h1 ≤ 90000) := by
  refine zy_n 2 (mr := zm_m92) (pc' := 2) (ls' := [(0, .ref 0), (1, .int a1)]) (st' := [.int a1, .ref 0]) rfl rfl ?_
  refine zy_c (mc := zm_m18) (mr := zm_m92) rfl rfl (zh_v rfl (zp_o F 0 rfl) rfl) rfl rfl ?_
  refine zy_n 3 (mr := zm_m18) (pc' := 3) (ls' := [(0, .ref 0), (1, .int a1)]) (st' := [.ref 0, .int 0, .int a1]) rfl rfl ?_
  refine zy_h (mr := zm_m18) rfl rfl (zh_get (v := .int 0) (zp_o F 0 rfl) rfl) ?_
  refine zy_n 2 (mr := zm_m18) (pc' := 8) (ls' := [(0, .ref 0), (1, .int a1)]) (st' := [.int (-1), .int 0, .int a1]) rfl rfl ?_
  refine zy_c (mc := zm_m10) (mr := zm_m18) rfl rfl rfl rfl rfl (zm_Y.mono (zk_within a1 0 (-1)) ?_)
  rintro r h1 ⟨rfl, ⟨rfl, hc1⟩ | ⟨rfl, hc1⟩⟩
  · exact absurd hc1 (zl_emp (by decide))
  refine zy_r (mr := zm_m18) rfl rfl rfl ?_
  refine zy_b (q := (8, [])) (mr := zm_m92) rfl rfl rfl ?_
  refine zy_n 1 (mr := zm_m92) (pc' := 11) (ls' := [(0, .ref 0), (1, .int a1)]) (st' := [.long (-2)]) rfl rfl ?_
  refine zy_r (mr := zm_m92) rfl rfl rfl ?_
  refine ⟨⟨_, rfl, ?_⟩, fun k hk1 hk2 => rfl, Nat.le_trans (Nat.le_of_eq (zp_len F).1) (by decide), Nat.le_trans (Nat.le_of_eq (zp_len F).2) (by decide)⟩
  simp [zf_15]
set_option maxHeartbeats 4000000 in
set_option maxRecDepth 20000 in
theorem zx_16 {og : Nat → Option zm_C} {h : zm_H} (F : zp_ck h = true) (a1 : Int32) (a2 : Int32) : zm_Y og 30 95 0 [(0, .ref 0), (1, .int a1), (2, .int a2)] [] h (fun r h1 => (∃ v, r = some (.long v) ∧ zf_16 a1 a2 v) ∧ (∀ k : Nat, 55 ≤ k → k < 117 → h1[k]? = h[k]?) ∧ h1.length ≤ 200 ∧ zm_szs h1 ≤ 90000) := by
  refine zy_n 2 (mr := zm_m95) (pc' := 2) (ls' := [(0, .ref 0), (1, .int a1), (2, .int a2)]) (st' := [.int a1, .ref 0]) rfl rfl ?_
  refine zy_c (mc := zm_m17) (mr := zm_m95) rfl rfl (zh_v rfl (zp_o F 0 rfl) rfl) rfl rfl ?_
  refine zy_n 2 (mr := zm_m17) (pc' := 2) (ls' := [(0, .ref 0), (1, .int a1)]) (st' := [.int a1, .ref 0]) rfl rfl ?_
  refine zy_c (mc := zm_m18) (mr := zm_m17) rfl rfl (zh_v rfl (zp_o F 0 rfl) rfl) rfl rfl ?_
  refine zy_n 3 (mr := zm_m18) (pc' := 3) (ls' := [(0, .ref 0), (1, .int a1)]) (st' := [.ref 0, .int 0, .int a1]) rfl rfl ?_
  refine zy_h (mr := zm_m18) rfl rfl (zh_get (v := .int 0) (zp_o F 0 rfl) rfl) ?_
  refine zy_n 2 (mr := zm_m18) (pc' := 8) (ls' := [(0, .ref 0), (1, .int a1)]) (st' := [.int (-1), .int 0, .int a1]) rfl rfl ?_
  refine zy_c (mc := zm_m10) (mr := zm_m18) rfl rfl rfl rfl rfl (zm_Y.mono (zk_within a1 0 (-1)) ?_)
  rintro r h1 ⟨rfl, ⟨rfl, hc1⟩ | ⟨rfl, hc1⟩⟩
  · exact absurd hc1 (zl_emp (by decide))
  refine zy_r (mr := zm_m18) rfl rfl rfl ?_
  refine zy_b (q := (24, [])) (mr := zm_m17) rfl rfl rfl ?_
  refine zy_n 1 (mr := zm_m17) (pc' := 25) (ls' := [(0, .ref 0), (1, .int a1)]) (st' := [.int 0]) rfl rfl ?_
  refine zy_r (mr := zm_m17) rfl rfl rfl ?_
  refine zy_b (q := (18, [])) (mr := zm_m95) rfl rfl rfl ?_
  refine zy_n 1 (mr := zm_m95) (pc' := 21) (ls' := [(0, .ref 0), (1, .int a1), (2, .int a2)]) (st' := [.long (-1000000)]) rfl rfl ?_
  refine zy_r (mr := zm_m95) rfl rfl rfl ?_
  refine ⟨⟨_, rfl, ?_⟩, fun k hk1 hk2 => rfl, Nat.le_trans (Nat.le_of_eq (zp_len F).1) (by decide), Nat.le_trans (Nat.le_of_eq (zp_len F).2) (by decide)⟩
  simp [zf_16]
set_option maxHeartbeats 4000000 in
set_option maxRecDepth 20000 in
theorem zx_17 {og : Nat → Option zm_C} {h : zm_H} (F : zp_ck h = true) (a1 : Int32) : zm_Y og 30 104 0 [(0, .ref 0), (1, .int a1)] [] h (fun r h1 => (∃ v, r = some (.int v) ∧ zf_17 a1 v) ∧ (∀ k : Nat, 55 ≤ k → k < 117 → h1[k]? = h[k]?) ∧ h1.length ≤ 200 ∧ zm_szs h1 ≤ 90000) := by
  refine zy_n 3 (mr := zm_m104) (pc' := 3) (ls' := [(0, .ref 0), (1, .int a1)]) (st' := [.ref 0, .int 0, .int a1]) rfl rfl ?_
  refine zy_h (mr := zm_m104) rfl rfl (zh_get (v := .ref 36) (zp_o F 0 rfl) rfl) ?_
  refine zy_h (mr := zm_m104) rfl rfl (zh_get (v := .int 0) (zp_o F 7 rfl) rfl) ?_
  refine zy_n 2 (mr := zm_m104) (pc' := 11) (ls' := [(0, .ref 0), (1, .int a1)]) (st' := [.int (-1), .int 0, .int a1]) rfl rfl ?_
  refine zy_c (mc := zm_m10) (mr := zm_m104) rfl rfl rfl rfl rfl (zm_Y.mono (zk_within a1 0 (-1)) ?_)
  rintro r h1 ⟨rfl, ⟨rfl, hc1⟩ | ⟨rfl, hc1⟩⟩
  · exact absurd hc1 (zl_emp (by decide))
  refine zy_b (q := (29, [])) (mr := zm_m104) rfl rfl rfl ?_
  refine zy_n 1 (mr := zm_m104) (pc' := 30) (ls' := [(0, .ref 0), (1, .int a1)]) (st' := [.int (-1)]) rfl rfl ?_
  refine zy_r (mr := zm_m104) rfl rfl rfl ?_
  refine ⟨⟨_, rfl, ?_⟩, fun k hk1 hk2 => rfl, Nat.le_trans (Nat.le_of_eq (zp_len F).1) (by decide), Nat.le_trans (Nat.le_of_eq (zp_len F).2) (by decide)⟩
  simp [zf_17]
set_option maxHeartbeats 4000000 in
set_option maxRecDepth 20000 in
theorem zx_18 {og : Nat → Option zm_C} {h : zm_H} (F : zp_ck h = true)  : zm_Y og 30 105 0 [(0, .ref 0)] [] h (fun r h1 => (∃ v, r = some (.int v) ∧ zf_18 v) ∧ (∀ k : Nat, 55 ≤ k → k < 117 → h1[k]? = h[k]?) ∧ h1.length ≤ 200 ∧ zm_szs h1 ≤ 90000) := by
  refine zy_n 1 (mr := zm_m105) (pc' := 1) (ls' := [(0, .ref 0)]) (st' := [.ref 0]) rfl rfl ?_
  refine zy_h (mr := zm_m105) rfl rfl (zh_get (v := .ref 36) (zp_o F 0 rfl) rfl) ?_
  refine zy_h (mr := zm_m105) rfl rfl (zh_get (v := .int 0) (zp_o F 7 rfl) rfl) ?_
  refine zy_b (q := (20, [])) (mr := zm_m105) rfl rfl rfl ?_
  refine zy_n 1 (mr := zm_m105) (pc' := 21) (ls' := [(0, .ref 0)]) (st' := [.int (-1)]) rfl rfl ?_
  refine zy_r (mr := zm_m105) rfl rfl rfl ?_
  refine ⟨⟨_, rfl, ?_⟩, fun k hk1 hk2 => rfl, Nat.le_trans (Nat.le_of_eq (zp_len F).1) (by decide), Nat.le_trans (Nat.le_of_eq (zp_len F).2) (by decide)⟩
  simp [zf_18]
set_option maxHeartbeats 4000000 in
set_option maxRecDepth 20000 in
theorem zx_19 {og : Nat → Option zm_C} {h : zm_H} (F : zp_ck h = true) (a1 : Int32) (a2 : Int32) (a3 : Int32) (a4 : Int32) (a5 : Int32) (a6 : Int32) : zm_Y og 30 107 0 [(0, .ref 0), (1, .int a1), (2, .int a2), (3, .int a3), (4, .int a4), (5, .int a5), (6, .int a6)] [] h (fun r h1 => (∃ v, r = some (.int v) ∧ zf_19 a1 a2 a3 a4 a5 a6 v) ∧ (∀ k : Nat, 55 ≤ k → k < 117 → h1[k]? = h[k]?) ∧ h1.length ≤ 200 ∧ zm_szs h1 ≤ 90000) := by
  refine zy_n 3 (mr := zm_m107) (pc' := 3) (ls' := [(0, .ref 0), (1, .int a1), (2, .int a2), (3, .int a3), (4, .int a4), (5, .int a5), (6, .int a6)]) (st' := [.int 3, .int 0, .int a1]) rfl rfl ?_
  refine zy_c (mc := zm_m10) (mr := zm_m107) rfl rfl rfl rfl rfl (zm_Y.mono (zk_within a1 0 3) ?_)
  rintro r h1 ⟨rfl, ⟨rfl, hc1⟩ | ⟨rfl, hc1⟩⟩
  · skip
    refine zy_b (q := (9, [])) (mr := zm_m107) rfl rfl rfl ?_
    refine zy_n 3 (mr := zm_m107) (pc' := 13) (ls' := [(0, .ref 0), (1, .int a1), (2, .int a2), (3, .int a3), (4, .int a4), (5, .int a5), (6, .int a6)]) (st' := [.int 30, .int 1, .int a2]) rfl rfl ?_
    refine zy_c (mc := zm_m10) (mr := zm_m107) rfl rfl rfl rfl rfl (zm_Y.mono (zk_within a2 1 30) ?_)
    rintro r h1 ⟨rfl, ⟨rfl, hc2⟩ | ⟨rfl, hc2⟩⟩
    · skip
      refine zy_b (q := (19, [])) (mr := zm_m107) rfl rfl rfl ?_
      refine zy_n 3 (mr := zm_m107) (pc' := 22) (ls' := [(0, .ref 0), (1, .int a1), (2, .int a2), (3, .int a3), (4, .int a4), (5, .int a5), (6, .int a6)]) (st' := [.int 5, .int 0, .int a3]) rfl rfl ?_
      refine zy_c (mc := zm_m10) (mr := zm_m107) rfl rfl rfl rfl rfl (zm_Y.mono (zk_within a3 0 5) ?_)
      rintro r h1 ⟨rfl, ⟨rfl, hc3⟩ | ⟨rfl, hc3⟩⟩
      · skip
        refine zy_b (q := (31, [])) (mr := zm_m107) rfl rfl rfl ?_
        refine zy_n 1 (mr := zm_m107) (pc' := 32) (ls' := [(0, .ref 0), (1, .int a1), (2, .int a2), (3, .int a3), (4, .int a4), (5, .int a5), (6, .int a6)]) (st' := [.ref 0]) rfl rfl ?_
        refine zy_h (mr := zm_m107) rfl rfl (zh_get (v := .ref 25) (zp_o F 0 rfl) rfl) ?_
        refine zy_c (mc := zm_m108) (mr := zm_m107) rfl rfl (zh_v rfl (zp_o F 5 rfl) rfl) rfl rfl ?_
        refine zy_n 1 (mr := zm_m108) (pc' := 1) (ls' := [(0, .ref 25)]) (st' := [.ref 25]) rfl rfl ?_
        refine zy_h (mr := zm_m108) rfl rfl (zh_get (v := .int 0) (zp_o F 5 rfl) rfl) ?_
        refine zy_n 1 (mr := zm_m108) (pc' := 6) (ls' := [(0, .ref 25)]) (st' := [.int 60, .int 0]) rfl rfl ?_
        refine zy_b (q := (13, [])) (mr := zm_m108) rfl rfl rfl ?_
        refine zy_n 1 (mr := zm_m108) (pc' := 14) (ls' := [(0, .ref 25)]) (st' := [.int 0]) rfl rfl ?_
        refine zy_r (mr := zm_m108) rfl rfl rfl ?_
        refine zy_b (q := (44, [])) (mr := zm_m107) rfl rfl rfl ?_
        refine zy_n 1 (mr := zm_m107) (pc' := 45) (ls' := [(0, .ref 0), (1, .int a1), (2, .int a2), (3, .int a3), (4, .int a4), (5, .int a5), (6, .int a6)]) (st' := [.ref 0]) rfl rfl ?_
        refine zy_h (mr := zm_m107) rfl rfl (zh_get (v := .ref 36) (zp_o F 0 rfl) rfl) ?_
        refine zy_n 1 (mr := zm_m107) (pc' := 49) (ls' := [(0, .ref 0), (1, .int a1), (2, .int a2), (3, .int a3), (4, .int a4), (5, .int a5), (6, .int a6)]) (st' := [.int 0, .ref 36]) rfl rfl ?_
        refine zy_hS (x := .inr (6, [.ref 7, .ref 37, .ref 38, .int 20, .int 30, .ref 39, .ref 40, .int 0, .null, .int 0, .null, .null, .null, .null, .null])) (mr := zm_m107) rfl rfl (zh_put (zp_o F 7 rfl) rfl (by decide)) (fun he4 e4 => ?_)
        refine zy_n 1 (mr := zm_m107) (pc' := 53) (ls' := [(0, .ref 0), (1, .int a1), (2, .int a2), (3, .int a3), (4, .int a4), (5, .int a5), (6, .int a6)]) (st' := [.ref 0]) rfl rfl ?_
        refine zy_h (mr := zm_m107) rfl rfl (zh_get (v := .ref 25) (zs_neE e4 (zp_o F 0 rfl) (by decide)) rfl) ?_
        refine zy_hE (mr := zm_m107) rfl rfl (zh_new (zs_lsetE e4 (zp_len F).1)) (fun he5 e5 => ?_)
        refine zy_n 7 (mr := zm_m107) (pc' := 68) (ls' := [(0, .ref 0), (1, .int a1), (2, .int a2), (3, .int a3), (4, .int a4), (5, .int a5), (6, .int a6)]) (st' := [.int a5, .int a4, .int a2, .int a3, .int a1, .int 0, .ref 117, .ref 117, .ref 25]) rfl rfl ?_
        refine zy_c (mc := zm_m24) (mr := zm_m107) rfl rfl rfl rfl rfl ?_
        refine zy_n 1 (mr := zm_m24) (pc' := 1) (ls' := [(0, .ref 117), (1, .int 0), (2, .int a1), (3, .int a3), (4, .int a2), (5, .int a4), (6, .int a5)]) (st' := [.ref 117]) rfl rfl ?_
        refine zy_h (mr := zm_m24) rfl rfl (zh_oinit) ?_
        refine zy_n 2 (mr := zm_m24) (pc' := 6) (ls' := [(0, .ref 117), (1, .int 0), (2, .int a1), (3, .int a3), (4, .int a2), (5, .int a4), (6, .int a5)]) (st' := [.int 0, .ref 117]) rfl rfl ?_
        refine zy_hS (x := .inr (5, [.int 0, .int 0, .int 0, .int 0, .int 0, .int 0, .int 0, .int 0])) (mr := zm_m24) rfl rfl (zh_put (zs_newE (k := 0) e5 (zs_lsetE e4 (zp_len F).1) rfl) rfl rfl) (fun he6 e6 => ?_)
        refine zy_n 2 (mr := zm_m24) (pc' := 11) (ls' := [(0, .ref 117), (1, .int 0), (2, .int a1), (3, .int a3), (4, .int a2), (5, .int a4), (6, .int a5)]) (st' := [.int (-1), .ref 117]) rfl rfl ?_
        refine zy_hS (x := .inr (5, [.int 0, .int 0, .int 0, .int 0, .int 0, .int 0, .int 0, .int (-1)])) (mr := zm_m24) rfl rfl (zh_put (zs_eqE e6 (zs_newE (k := 0) e5 (zs_lsetE e4 (zp_len F).1) rfl)) rfl rfl) (fun he7 e7 => ?_)
        refine zy_n 2 (mr := zm_m24) (pc' := 16) (ls' := [(0, .ref 117), (1, .int 0), (2, .int a1), (3, .int a3), (4, .int a2), (5, .int a4), (6, .int a5)]) (st' := [.int 0, .ref 117]) rfl rfl ?_
        refine zy_hS (x := .inr (5, [.int 0, .int 0, .int 0, .int 0, .int 0, .int 0, .int 0, .int (-1)])) (mr := zm_m24) rfl rfl (zh_put (zs_eqE e7 (zs_eqE e6 (zs_newE (k := 0) e5 (zs_lsetE e4 (zp_len F).1) rfl))) rfl rfl) (fun he8 e8 => ?_)
        refine zy_n 2 (mr := zm_m24) (pc' := 21) (ls' := [(0, .ref 117), (1, .int 0), (2, .int a1), (3, .int a3), (4, .int a2), (5, .int a4), (6, .int a5)]) (st' := [.int a1, .ref 117]) rfl rfl ?_
        refine zy_hS (x := .inr (5, [.int 0, .int a1, .int 0, .int 0, .int 0, .int 0, .int 0, .int (-1)])) (mr := zm_m24) rfl rfl (zh_put (zs_eqE e8 (zs_eqE e7 (zs_eqE e6 (zs_newE (k := 0) e5 (zs_lsetE e4 (zp_len F).1) rfl)))) rfl rfl) (fun he9 e9 => ?_)
        refine zy_n 2 (mr := zm_m24) (pc' := 26) (ls' := [(0, .ref 117), (1, .int 0), (2, .int a1), (3, .int a3), (4, .int a2), (5, .int a4), (6, .int a5)]) (st' := [.int a3, .ref 117]) rfl rfl ?_
        have k10 := (zs_eqE e9 (zs_eqE e8 (zs_eqE e7 (zs_eqE e6 (zs_newE (k := 0) e5 (zs_lsetE e4 (zp_len F).1) rfl)))))
        refine zy_hS (x := .inr (5, [.int 0, .int a1, .int a3, .int 0, .int 0, .int 0, .int 0, .int (-1)])) (mr := zm_m24) rfl rfl (zh_put k10 rfl rfl) (fun he11 e11 => ?_)
        refine zy_n 2 (mr := zm_m24) (pc' := 32) (ls' := [(0, .ref 117), (1, .int 0), (2, .int a1), (3, .int a3), (4, .int a2), (5, .int a4), (6, .int a5)]) (st' := [.int a2, .ref 117]) rfl rfl ?_
        have k12 := (zs_eqE e11 (zs_eqE e9 (zs_eqE e8 (zs_eqE e7 (zs_eqE e6 (zs_newE (k := 0) e5 (zs_lsetE e4 (zp_len F).1) rfl))))))
        refine zy_hS (x := .inr (5, [.int 0, .int a1, .int a3, .int a2, .int 0, .int 0, .int 0, .int (-1)])) (mr := zm_m24) rfl rfl (zh_put k12 rfl rfl) (fun he13 e13 => ?_)
        refine zy_n 2 (mr := zm_m24) (pc' := 38) (ls' := [(0, .ref 117), (1, .int 0), (2, .int a1), (3, .int a3), (4, .int a2), (5, .int a4), (6, .int a5)]) (st' := [.int a4, .ref 117]) rfl rfl ?_
        as_aux_lemma =>
          refine zy_b (mr := zm_m24) rfl rfl rfl (zi_eq (fun hc14 => ?_) (fun hc14 => ?_))
          · skip
            refine zy_n 1 (mr := zm_m24) (pc' := 46) (ls' := [(0, .ref 117), (1, .int 0), (2, .int a1), (3, .int a3), (4, .int a2), (5, .int a4), (6, .int a5)]) (st' := [.int 0, .ref 117]) rfl rfl ?_
            have k15 := (zs_eqE e13 (zs_eqE e11 (zs_eqE e9 (zs_eqE e8 (zs_eqE e7 (zs_eqE e6 (zs_newE (k := 0) e5 (zs_lsetE e4 (zp_len F).1) rfl)))))))
            refine zy_hS (x := .inr (5, [.int 0, .int a1, .int a3, .int a2, .int 0, .int 0, .int 0, .int (-1)])) (mr := zm_m24) rfl rfl (zh_put k15 rfl rfl) (fun he16 e16 => ?_)
            refine zy_n 2 (mr := zm_m24) (pc' := 52) (ls' := [(0, .ref 117), (1, .int 0), (2, .int a1), (3, .int a3), (4, .int a2), (5, .int a4), (6, .int a5)]) (st' := [.int a5, .ref 117]) rfl rfl ?_
            refine zy_b (mr := zm_m24) rfl rfl rfl (zi_eq (fun hc17 => ?_) (fun hc17 => ?_))
            · skip
              refine zy_n 1 (mr := zm_m24) (pc' := 60) (ls' := [(0, .ref 117), (1, .int 0), (2, .int a1), (3, .int a3), (4, .int a2), (5, .int a4), (6, .int a5)]) (st' := [.int 0, .ref 117]) rfl rfl ?_
              have k18 := (zs_eqE e16 (zs_eqE e13 (zs_eqE e11 (zs_eqE e9 (zs_eqE e8 (zs_eqE e7 (zs_eqE e6 (zs_newE (k := 0) e5 (zs_lsetE e4 (zp_len F).1) rfl))))))))
              refine zy_hS (x := .inr (5, [.int 0, .int a1, .int a3, .int a2, .int 0, .int 0, .int 0, .int (-1)])) (mr := zm_m24) rfl rfl (zh_put k18 rfl rfl) (fun he19 e19 => ?_)
              refine zy_r (mr := zm_m24) rfl rfl rfl ?_
              refine zy_n 2 (mr := zm_m107) (pc' := 74) (ls' := [(0, .ref 0), (1, .int a1), (2, .int a2), (3, .int a3), (4, .int a4), (5, .int a5), (6, .int a6)]) (st' := [.int (-1), .int a6, .ref 117, .ref 25]) rfl rfl ?_
              have k20 := (zs_neE e19 (zs_neE e16 (zs_neE e13 (zs_neE e11 (zs_neE e9 (zs_neE e8 (zs_neE e7 (zs_neE e6 (zs_appE e5 (zs_neE e4 (zp_o F 5 rfl) (by decide))) (by decide)) (by decide)) (by decide)) (by decide)) (by decide)) (by decide)) (by decide)) (by decide))
              refine zy_c (mc := zm_m109) (mr := zm_m107) rfl rfl (zh_v rfl k20 rfl) rfl rfl ?_
              refine zy_n 1 (mr := zm_m109) (pc' := 1) (ls' := [(0, .ref 25), (1, .ref 117), (2, .int a6), (3, .int (-1))]) (st' := [.ref 25]) rfl rfl ?_
              refine zy_c (mc := zm_m108) (mr := zm_m109) rfl rfl (zh_v rfl k20 rfl) rfl rfl ?_
              refine zy_n 1 (mr := zm_m108) (pc' := 1) (ls' := [(0, .ref 25)]) (st' := [.ref 25]) rfl rfl ?_
              refine zy_h (mr := zm_m108) rfl rfl (zh_get (v := .int 0) k20 rfl) ?_
              refine zy_n 1 (mr := zm_m108) (pc' := 6) (ls' := [(0, .ref 25)]) (st' := [.int 60, .int 0]) rfl rfl ?_
              refine zy_b (q := (13, [])) (mr := zm_m108) rfl rfl rfl ?_
              refine zy_n 1 (mr := zm_m108) (pc' := 14) (ls' := [(0, .ref 25)]) (st' := [.int 0]) rfl rfl ?_
              refine zy_r (mr := zm_m108) rfl rfl rfl ?_
              refine zy_b (q := (10, [])) (mr := zm_m109) rfl rfl rfl ?_
              refine zy_n 1 (mr := zm_m109) (pc' := 11) (ls' := [(0, .ref 25), (1, .ref 117), (2, .int a6), (3, .int (-1))]) (st' := [.ref 25]) rfl rfl ?_
              refine zy_h (mr := zm_m109) rfl rfl (zh_get (v := .int 0) k20 rfl) ?_
              refine zy_n 4 (mr := zm_m109) (pc' := 20) (ls' := [(4, .int 0), (0, .ref 25), (1, .ref 117), (2, .int a6), (3, .int (-1))]) (st' := [.ref 25]) rfl rfl ?_
              refine zy_h (mr := zm_m109) rfl rfl (zh_get (v := .ref 26) k20 rfl) ?_
              refine zy_n 4 (mr := zm_m109) (pc' := 28) (ls' := [(4, .int 0), (0, .ref 25), (1, .ref 117), (2, .int a6), (3, .int (-1))]) (st' := [.ref 117, .int 0, .ref 26]) rfl rfl ?_
              have k21 := (zs_eqE e19 (zs_eqE e16 (zs_eqE e13 (zs_eqE e11 (zs_eqE e9 (zs_eqE e8 (zs_eqE e7 (zs_eqE e6 (zs_newE (k := 0) e5 (zs_lsetE e4 (zp_len F).1) rfl)))))))))
              refine zy_h (mr := zm_m109) rfl rfl (zh_get (v := .int a1) k21 rfl) ?_
              have k22 := (zs_neE e19 (zs_neE e16 (zs_neE e13 (zs_neE e11 (zs_neE e9 (zs_neE e8 (zs_neE e7 (zs_neE e6 (zs_appE e5 (zs_neE e4 (zp_i F 16 rfl) (by decide))) (by decide)) (by decide)) (by decide)) (by decide)) (by decide)) (by decide)) (by decide)) (by decide))
              refine zy_hS (x := _) (mr := zm_m109) rfl rfl (zh_iast k22 (by decide)) (fun he23 e23 => ?_)
              refine zy_n 1 (mr := zm_m109) (pc' := 33) (ls' := [(4, .int 0), (0, .ref 25), (1, .ref 117), (2, .int a6), (3, .int (-1))]) (st' := [.ref 25]) rfl rfl ?_
              refine zy_h (mr := zm_m109) rfl rfl (zh_get (v := .ref 26) (zs_neE e23 k20 (by decide)) rfl) ?_
              refine zy_n 4 (mr := zm_m109) (pc' := 41) (ls' := [(4, .int 0), (0, .ref 25), (1, .ref 117), (2, .int a6), (3, .int (-1))]) (st' := [.ref 117, .int 1, .ref 26]) rfl rfl ?_
              refine zy_h (mr := zm_m109) rfl rfl (zh_get (v := .int a2) (zs_neE e23 k21 (by decide)) rfl) ?_
              refine zy_hS (x := _) (mr := zm_m109) rfl rfl (zh_iast (zs_eqE e23 k22) (by decide)) (fun he24 e24 => ?_)
              refine zy_n 1 (mr := zm_m109) (pc' := 46) (ls' := [(4, .int 0), (0, .ref 25), (1, .ref 117), (2, .int a6), (3, .int (-1))]) (st' := [.ref 25]) rfl rfl ?_
              refine zy_h (mr := zm_m109) rfl rfl (zh_get (v := .ref 26) (zs_neE e24 (zs_neE e23 k20 (by decide)) (by decide)) rfl) ?_
              refine zy_n 4 (mr := zm_m109) (pc' := 54) (ls' := [(4, .int 0), (0, .ref 25), (1, .ref 117), (2, .int a6), (3, .int (-1))]) (st' := [.ref 117, .int 2, .ref 26]) rfl rfl ?_
              refine zy_h (mr := zm_m109) rfl rfl (zh_get (v := .int a3) (zs_neE e24 (zs_neE e23 k21 (by decide)) (by decide)) rfl) ?_
              refine zy_hS (x := _) (mr := zm_m109) rfl rfl (zh_iast (zs_eqE e24 (zs_eqE e23 k22)) (by decide)) (fun he25 e25 => ?_)
              refine zy_n 1 (mr := zm_m109) (pc' := 59) (ls' := [(4, .int 0), (0, .ref 25), (1, .ref 117), (2, .int a6), (3, .int (-1))]) (st' := [.ref 25]) rfl rfl ?_
              refine zy_h (mr := zm_m109) rfl rfl (zh_get (v := .ref 26) (zs_neE e25 (zs_neE e24 (zs_neE e23 k20 (by decide)) (by decide)) (by decide)) rfl) ?_
              refine zy_n 4 (mr := zm_m109) (pc' := 67) (ls' := [(4, .int 0), (0, .ref 25), (1, .ref 117), (2, .int a6), (3, .int (-1))]) (st' := [.ref 117, .int 3, .ref 26]) rfl rfl ?_
              refine zy_h (mr := zm_m109) rfl rfl (zh_get (v := .int 0) (zs_neE e25 (zs_neE e24 (zs_neE e23 k21 (by decide)) (by decide)) (by decide)) rfl) ?_
              refine zy_hS (x := _) (mr := zm_m109) rfl rfl (zh_iast (zs_eqE e25 (zs_eqE e24 (zs_eqE e23 k22))) (by decide)) (fun he26 e26 => ?_)
              refine zy_n 1 (mr := zm_m109) (pc' := 72) (ls' := [(4, .int 0), (0, .ref 25), (1, .ref 117), (2, .int a6), (3, .int (-1))]) (st' := [.ref 25]) rfl rfl ?_
              have k27 := (zs_neE e26 (zs_neE e25 (zs_neE e24 (zs_neE e23 k20 (by decide)) (by decide)) (by decide)) (by decide))
              refine zy_h (mr := zm_m109) rfl rfl (zh_get (v := .ref 26) k27 rfl) ?_
              refine zy_n 4 (mr := zm_m109) (pc' := 80) (ls' := [(4, .int 0), (0, .ref 25), (1, .ref 117), (2, .int a6), (3, .int (-1))]) (st' := [.ref 117, .int 4, .ref 26]) rfl rfl ?_
              as_aux_lemma =>
                have k28 := (zs_neE e26 (zs_neE e25 (zs_neE e24 (zs_neE e23 k21 (by decide)) (by decide)) (by decide)) (by decide))
                refine zy_h (mr := zm_m109) rfl rfl (zh_get (v := .int 0) k28 rfl) ?_
                refine zy_hS (x := _) (mr := zm_m109) rfl rfl (zh_iast (zs_eqE e26 (zs_eqE e25 (zs_eqE e24 (zs_eqE e23 k22)))) (by decide)) (fun he29 e29 => ?_)
                refine zy_n 1 (mr := zm_m109) (pc' := 85) (ls' := [(4, .int 0), (0, .ref 25), (1, .ref 117), (2, .int a6), (3, .int (-1))]) (st' := [.ref 25]) rfl rfl ?_
                refine zy_h (mr := zm_m109) rfl rfl (zh_get (v := .ref 26) (zs_neE e29 k27 (by decide)) rfl) ?_
                refine zy_n 4 (mr := zm_m109) (pc' := 93) (ls' := [(4, .int 0), (0, .ref 25), (1, .ref 117), (2, .int a6), (3, .int (-1))]) (st' := [.int a6, .int 5, .ref 26]) rfl rfl ?_
                refine zy_b (mr := zm_m109) rfl rfl rfl (zi_eq (fun hc30 => ?_) (fun hc30 => ?_))
                · skip
                  refine zy_n 1 (mr := zm_m109) (pc' := 101) (ls' := [(4, .int 0), (0, .ref 25), (1, .ref 117), (2, .int a6), (3, .int (-1))]) (st' := [.int 0, .int 5, .ref 26]) rfl rfl ?_
                  refine zy_hS (x := _) (mr := zm_m109) rfl rfl (zh_iast (zs_eqE e29 (zs_eqE e26 (zs_eqE e25 (zs_eqE e24 (zs_eqE e23 k22))))) (by decide)) (fun he31 e31 => ?_)
                  refine zy_n 1 (mr := zm_m109) (pc' := 103) (ls' := [(4, .int 0), (0, .ref 25), (1, .ref 117), (2, .int a6), (3, .int (-1))]) (st' := [.ref 25]) rfl rfl ?_
                  refine zy_h (mr := zm_m109) rfl rfl (zh_get (v := .ref 26) (zs_neE e31 (zs_neE e29 k27 (by decide)) (by decide)) rfl) ?_
                  refine zy_n 4 (mr := zm_m109) (pc' := 112) (ls' := [(4, .int 0), (0, .ref 25), (1, .ref 117), (2, .int a6), (3, .int (-1))]) (st' := [.int (-1), .int 6, .ref 26]) rfl rfl ?_
                  refine zy_hS (x := _) (mr := zm_m109) rfl rfl (zh_iast (zs_eqE e31 (zs_eqE e29 (zs_eqE e26 (zs_eqE e25 (zs_eqE e24 (zs_eqE e23 k22)))))) (by decide)) (fun he32 e32 => ?_)
                  refine zy_n 1 (mr := zm_m109) (pc' := 114) (ls' := [(4, .int 0), (0, .ref 25), (1, .ref 117), (2, .int a6), (3, .int (-1))]) (st' := [.ref 25]) rfl rfl ?_
                  refine zy_h (mr := zm_m109) rfl rfl (zh_get (v := .ref 26) (zs_neE e32 (zs_neE e31 (zs_neE e29 k27 (by decide)) (by decide)) (by decide)) rfl) ?_
                  refine zy_n 4 (mr := zm_m109) (pc' := 123) (ls' := [(4, .int 0), (0, .ref 25), (1, .ref 117), (2, .int a6), (3, .int (-1))]) (st' := [.int 1, .int 7, .ref 26]) rfl rfl ?_
                  have k33 := (zs_eqE e32 (zs_eqE e31 (zs_eqE e29 (zs_eqE e26 (zs_eqE e25 (zs_eqE e24 (zs_eqE e23 k22)))))))
                  refine zy_hS (x := _) (mr := zm_m109) rfl rfl (zh_iast k33 (by decide)) (fun he34 e34 => ?_)
                  refine zy_n 2 (mr := zm_m109) (pc' := 126) (ls' := [(4, .int 0), (0, .ref 25), (1, .ref 117), (2, .int a6), (3, .int (-1))]) (st' := [.ref 25, .ref 25]) rfl rfl ?_
                  have k35 := (zs_neE e34 (zs_neE e32 (zs_neE e31 (zs_neE e29 k27 (by decide)) (by decide)) (by decide)) (by decide))
                  refine zy_h (mr := zm_m109) rfl rfl (zh_get (v := .int 0) k35 rfl) ?_
                  refine zy_n 3 (mr := zm_m109) (pc' := 132) (ls' := [(4, .int 0), (0, .ref 25), (1, .ref 117), (2, .int a6), (3, .int (-1))]) (st' := [.int 1, .ref 25, .int 0]) rfl rfl ?_
                  refine zy_hS (x := .inr (1, [.int 5, .int 1, .ref 26])) (mr := zm_m109) rfl rfl (zh_put k35 rfl rfl) (fun he36 e36 => ?_)
                  refine zy_r (mr := zm_m109) rfl rfl rfl ?_
                  refine zy_r (mr := zm_m107) rfl rfl rfl ?_
                  have k37 := (zs_lsetE e36 (zs_lsetE e34 (zs_lsetE e32 (zs_lsetE e31 (zs_lsetE e29 (zs_lsetE e26 (zs_lsetE e25 (zs_lsetE e24 (zs_lsetE e23 (zs_lsetE e19 (zs_lsetE e16 (zs_lsetE e13 (zs_lsetE e11 (zs_lsetE e9 (zs_lsetE e8 (zs_lsetE e7 (zs_lsetE e6 (zs_lappE e5 (zs_lsetE e4 (zp_len F).1) rfl))))))))))))))))))
                  refine ⟨⟨_, rfl, ?_⟩, fun k hk1 hk2 => ((zs_kE e36 (by omega)).trans ((zs_kE e34 (by omega)).trans ((zs_kE e32 (by omega)).trans ((zs_kE e31 (by omega)).trans ((zs_kE e29 (by omega)).trans ((zs_kE e26 (by omega)).trans ((zs_kE e25 (by omega)).trans ((zs_kE e24 (by omega)).trans ((zs_kE e23 (by omega)).trans ((zs_kE e19 (by omega)).trans ((zs_kE e16 (by omega)).trans ((zs_kE e13 (by omega)).trans ((zs_kE e11 (by omega)).trans ((zs_kE e9 (by omega)).trans ((zs_kE e8 (by omega)).trans ((zs_kE e7 (by omega)).trans ((zs_kE e6 (by omega)).trans ((zs_kappE e5 (zs_lsetE e4 (zp_len F).1) (by omega)).trans ((zs_kE e4 (by omega)).trans rfl))))))))))))))))))), Nat.le_trans (Nat.le_of_eq k37) (by decide), Nat.le_trans (Nat.le_of_eq (zs_szsetE (w := 3) e36 k35 rfl rfl (zs_szsetE (w := 480) e34 k33 rfl rfl (zs_szsetE (w := 480) e32 (zs_eqE e31 (zs_eqE e29 (zs_eqE e26 (zs_eqE e25 (zs_eqE e24 (zs_eqE e23 k22)))))) rfl rfl (zs_szsetE (w := 480) e31 (zs_eqE e29 (zs_eqE e26 (zs_eqE e25 (zs_eqE e24 (zs_eqE e23 k22))))) rfl rfl (zs_szsetE (w := 480) e29 (zs_eqE e26 (zs_eqE e25 (zs_eqE e24 (zs_eqE e23 k22)))) rfl rfl (zs_szsetE (w := 480) e26 (zs_eqE e25 (zs_eqE e24 (zs_eqE e23 k22))) rfl rfl (zs_szsetE (w := 480) e25 (zs_eqE e24 (zs_eqE e23 k22)) rfl rfl (zs_szsetE (w := 480) e24 (zs_eqE e23 k22) rfl rfl (zs_szsetE (w := 480) e23 k22 rfl rfl (zs_szsetE (w := 8) e19 (zs_eqE e16 (zs_eqE e13 (zs_eqE e11 (zs_eqE e9 (zs_eqE e8 (zs_eqE e7 (zs_eqE e6 (zs_newE (k := 0) e5 (zs_lsetE e4 (zp_len F).1) rfl)))))))) rfl rfl (zs_szsetE (w := 8) e16 (zs_eqE e13 (zs_eqE e11 (zs_eqE e9 (zs_eqE e8 (zs_eqE e7 (zs_eqE e6 (zs_newE (k := 0) e5 (zs_lsetE e4 (zp_len F).1) rfl))))))) rfl rfl (zs_szsetE (w := 8) e13 (zs_eqE e11 (zs_eqE e9 (zs_eqE e8 (zs_eqE e7 (zs_eqE e6 (zs_newE (k := 0) e5 (zs_lsetE e4 (zp_len F).1) rfl)))))) rfl rfl (zs_szsetE (w := 8) e11 (zs_eqE e9 (zs_eqE e8 (zs_eqE e7 (zs_eqE e6 (zs_newE (k := 0) e5 (zs_lsetE e4 (zp_len F).1) rfl))))) rfl rfl (zs_szsetE (w := 8) e9 (zs_eqE e8 (zs_eqE e7 (zs_eqE e6 (zs_newE (k := 0) e5 (zs_lsetE e4 (zp_len F).1) rfl)))) rfl rfl (zs_szsetE (w := 8) e8 (zs_eqE e7 (zs_eqE e6 (zs_newE (k := 0) e5 (zs_lsetE e4 (zp_len F).1) rfl))) rfl rfl (zs_szsetE (w := 8) e7 (zs_eqE e6 (zs_newE (k := 0) e5 (zs_lsetE e4 (zp_len F).1) rfl)) rfl rfl (zs_szsetE (w := 8) e6 (zs_newE (k := 0) e5 (zs_lsetE e4 (zp_len F).1) rfl) rfl rfl (zs_szappE e5 (zs_szsetE (w := 15) e4 (zp_o F 7 rfl) rfl rfl (zp_len F).2) rfl))))))))))))))))))) (by decide)⟩
                  simp [zf_19, hc1, hc2, hc3, hc14, hc17, hc30]
                · skip
                  refine zy_n 2 (mr := zm_m109) (pc' := 101) (ls' := [(4, .int 0), (0, .ref 25), (1, .ref 117), (2, .int a6), (3, .int (-1))]) (st' := [.int 1, .int 5, .ref 26]) rfl rfl ?_
                  refine zy_hS (x := _) (mr := zm_m109) rfl rfl (zh_iast (zs_eqE e29 (zs_eqE e26 (zs_eqE e25 (zs_eqE e24 (zs_eqE e23 k22))))) (by decide)) (fun he38 e38 => ?_)
                  refine zy_n 1 (mr := zm_m109) (pc' := 103) (ls' := [(4, .int 0), (0, .ref 25), (1, .ref 117), (2, .int a6), (3, .int (-1))]) (st' := [.ref 25]) rfl rfl ?_
                  refine zy_h (mr := zm_m109) rfl rfl (zh_get (v := .ref 26) (zs_neE e38 (zs_neE e29 k27 (by decide)) (by decide)) rfl) ?_
                  refine zy_n 4 (mr := zm_m109) (pc' := 112) (ls' := [(4, .int 0), (0, .ref 25), (1, .ref 117), (2, .int a6), (3, .int (-1))]) (st' := [.int (-1), .int 6, .ref 26]) rfl rfl ?_
                  refine zy_hS (x := _) (mr := zm_m109) rfl rfl (zh_iast (zs_eqE e38 (zs_eqE e29 (zs_eqE e26 (zs_eqE e25 (zs_eqE e24 (zs_eqE e23 k22)))))) (by decide)) (fun he39 e39 => ?_)
                  refine zy_n 1 (mr := zm_m109) (pc' := 114) (ls' := [(4, .int 0), (0, .ref 25), (1, .ref 117), (2, .int a6), (3, .int (-1))]) (st' := [.ref 25]) rfl rfl ?_
                  refine zy_h (mr := zm_m109) rfl rfl (zh_get (v := .ref 26) (zs_neE e39 (zs_neE e38 (zs_neE e29 k27 (by decide)) (by decide)) (by decide)) rfl) ?_
                  refine zy_n 4 (mr := zm_m109) (pc' := 123) (ls' := [(4, .int 0), (0, .ref 25), (1, .ref 117), (2, .int a6), (3, .int (-1))]) (st' := [.int 1, .int 7, .ref 26]) rfl rfl ?_
                  have k40 := (zs_eqE e39 (zs_eqE e38 (zs_eqE e29 (zs_eqE e26 (zs_eqE e25 (zs_eqE e24 (zs_eqE e23 k22)))))))
                  refine zy_hS (x := _) (mr := zm_m109) rfl rfl (zh_iast k40 (by decide)) (fun he41 e41 => ?_)
                  refine zy_n 2 (mr := zm_m109) (pc' := 126) (ls' := [(4, .int 0), (0, .ref 25), (1, .ref 117), (2, .int a6), (3, .int (-1))]) (st' := [.ref 25, .ref 25]) rfl rfl ?_
                  have k42 := (zs_neE e41 (zs_neE e39 (zs_neE e38 (zs_neE e29 k27 (by decide)) (by decide)) (by decide)) (by decide))
                  refine zy_h (mr := zm_m109) rfl rfl (zh_get (v := .int 0) k42 rfl) ?_
                  refine zy_n 3 (mr := zm_m109) (pc' := 132) (ls' := [(4, .int 0), (0, .ref 25), (1, .ref 117), (2, .int a6), (3, .int (-1))]) (st' := [.int 1, .ref 25, .int 0]) rfl rfl ?_
                  refine zy_hS (x := .inr (1, [.int 5, .int 1, .ref 26])) (mr := zm_m109) rfl rfl (zh_put k42 rfl rfl) (fun he43 e43 => ?_)
                  refine zy_r (mr := zm_m109) rfl rfl rfl ?_
                  refine zy_r (mr := zm_m107) rfl rfl rfl ?_
                  have k44 := (zs_lsetE e43 (zs_lsetE e41 (zs_lsetE e39 (zs_lsetE e38 (zs_lsetE e29 (zs_lsetE e26 (zs_lsetE e25 (zs_lsetE e24 (zs_lsetE e23 (zs_lsetE e19 (zs_lsetE e16 (zs_lsetE e13 (zs_lsetE e11 (zs_lsetE e9 (zs_lsetE e8 (zs_lsetE e7 (zs_lsetE e6 (zs_lappE e5 (zs_lsetE e4 (zp_len F).1) rfl))))))))))))))))))
                  refine ⟨⟨_, rfl, ?_⟩, fun k hk1 hk2 => ((zs_kE e43 (by omega)).trans ((zs_kE e41 (by omega)).trans ((zs_kE e39 (by omega)).trans ((zs_kE e38 (by omega)).trans ((zs_kE e29 (by omega)).trans ((zs_kE e26 (by omega)).trans ((zs_kE e25 (by omega)).trans ((zs_kE e24 (by omega)).trans ((zs_kE e23 (by omega)).trans ((zs_kE e19 (by omega)).trans ((zs_kE e16 (by omega)).trans ((zs_kE e13 (by omega)).trans ((zs_kE e11 (by omega)).trans ((zs_kE e9 (by omega)).trans ((zs_kE e8 (by omega)).trans ((zs_kE e7 (by omega)).trans ((zs_kE e6 (by omega)).trans ((zs_kappE e5 (zs_lsetE e4 (zp_len F).1) (by omega)).trans ((zs_kE e4 (by omega)).trans rfl))))))))))))))))))), Nat.le_trans (Nat.le_of_eq k44) (by decide), Nat.le_trans (Nat.le_of_eq (zs_szsetE (w := 3) e43 k42 rfl rfl (zs_szsetE (w := 480) e41 k40 rfl rfl (zs_szsetE (w := 480) e39 (zs_eqE e38 (zs_eqE e29 (zs_eqE e26 (zs_eqE e25 (zs_eqE e24 (zs_eqE e23 k22)))))) rfl rfl (zs_szsetE (w := 480) e38 (zs_eqE e29 (zs_eqE e26 (zs_eqE e25 (zs_eqE e24 (zs_eqE e23 k22))))) rfl rfl (zs_szsetE (w := 480) e29 (zs_eqE e26 (zs_eqE e25 (zs_eqE e24 (zs_eqE e23 k22)))) rfl rfl (zs_szsetE (w := 480) e26 (zs_eqE e25 (zs_eqE e24 (zs_eqE e23 k22))) rfl rfl (zs_szsetE (w := 480) e25 (zs_eqE e24 (zs_eqE e23 k22)) rfl rfl (zs_szsetE (w := 480) e24 (zs_eqE e23 k22) rfl rfl (zs_szsetE (w := 480) e23 k22 rfl rfl (zs_szsetE (w := 8) e19 (zs_eqE e16 (zs_eqE e13 (zs_eqE e11 (zs_eqE e9 (zs_eqE e8 (zs_eqE e7 (zs_eqE e6 (zs_newE (k := 0) e5 (zs_lsetE e4 (zp_len F).1) rfl)))))))) rfl rfl (zs_szsetE (w := 8) e16 (zs_eqE e13 (zs_eqE e11 (zs_eqE e9 (zs_eqE e8 (zs_eqE e7 (zs_eqE e6 (zs_newE (k := 0) e5 (zs_lsetE e4 (zp_len F).1) rfl))))))) rfl rfl (zs_szsetE (w := 8) e13 (zs_eqE e11 (zs_eqE e9 (zs_eqE e8 (zs_eqE e7 (zs_eqE e6 (zs_newE (k := 0) e5 (zs_lsetE e4 (zp_len F).1) rfl)))))) rfl rfl (zs_szsetE (w := 8) e11 (zs_eqE e9 (zs_eqE e8 (zs_eqE e7 (zs_eqE e6 (zs_newE (k := 0) e5 (zs_lsetE e4 (zp_len F).1) rfl))))) rfl rfl (zs_szsetE (w := 8) e9 (zs_eqE e8 (zs_eqE e7 (zs_eqE e6 (zs_newE (k := 0) e5 (zs_lsetE e4 (zp_len F).1) rfl)))) rfl rfl (zs_szsetE (w := 8) e8 (zs_eqE e7 (zs_eqE e6 (zs_newE (k := 0) e5 (zs_lsetE e4 (zp_len F).1) rfl))) rfl rfl (zs_szsetE (w := 8) e7 (zs_eqE e6 (zs_newE (k := 0) e5 (zs_lsetE e4 (zp_len F).1) rfl)) rfl rfl (zs_szsetE (w := 8) e6 (zs_newE (k := 0) e5 (zs_lsetE e4 (zp_len F).1) rfl) rfl rfl (zs_szappE e5 (zs_szsetE (w := 15) e4 (zp_o F 7 rfl) rfl rfl (zp_len F).2) rfl))))))))))))))))))) (by decide)⟩
                  simp [zf_19, hc1, hc2, hc3, hc14, hc17, hc30]
            · skip
              refine zy_n 2 (mr := zm_m24) (pc' := 60) (ls' := [(0, .ref 117), (1, .int 0), (2, .int a1), (3, .int a3), (4, .int a2), (5, .int a4), (6, .int a5)]) (st' := [.int 1, .ref 117]) rfl rfl ?_
              as_aux_lemma =>
                have k45 := (zs_eqE e16 (zs_eqE e13 (zs_eqE e11 (zs_eqE e9 (zs_eqE e8 (zs_eqE e7 (zs_eqE e6 (zs_newE (k := 0) e5 (zs_lsetE e4 (zp_len F).1) rfl))))))))
                refine zy_hS (x := .inr (5, [.int 0, .int a1, .int a3, .int a2, .int 0, .int 1, .int 0, .int (-1)])) (mr := zm_m24) rfl rfl (zh_put k45 rfl rfl) (fun he46 e46 => ?_)
                refine zy_r (mr := zm_m24) rfl rfl rfl ?_
                refine zy_n 2 (mr := zm_m107) (pc' := 74) (ls' := [(0, .ref 0), (1, .int a1), (2, .int a2), (3, .int a3), (4, .int a4), (5, .int a5), (6, .int a6)]) (st' := [.int (-1), .int a6, .ref 117, .ref 25]) rfl rfl ?_
                have k47 := (zs_neE e46 (zs_neE e16 (zs_neE e13 (zs_neE e11 (zs_neE e9 (zs_neE e8 (zs_neE e7 (zs_neE e6 (zs_appE e5 (zs_neE e4 (zp_o F 5 rfl) (by decide))) (by decide)) (by decide)) (by decide)) (by decide)) (by decide)) (by decide)) (by decide)) (by decide))
                refine zy_c (mc := zm_m109) (mr := zm_m107) rfl rfl (zh_v rfl k47 rfl) rfl rfl ?_
                refine zy_n 1 (mr := zm_m109) (pc' := 1) (ls' := [(0, .ref 25), (1, .ref 117), (2, .int a6), (3, .int (-1))]) (st' := [.ref 25]) rfl rfl ?_
                refine zy_c (mc := zm_m108) (mr := zm_m109) rfl rfl (zh_v rfl k47 rfl) rfl rfl ?_
                refine zy_n 1 (mr := zm_m108) (pc' := 1) (ls' := [(0, .ref 25)]) (st' := [.ref 25]) rfl rfl ?_
                refine zy_h (mr := zm_m108) rfl rfl (zh_get (v := .int 0) k47 rfl) ?_
                refine zy_n 1 (mr := zm_m108) (pc' := 6) (ls' := [(0, .ref 25)]) (st' := [.int 60, .int 0]) rfl rfl ?_
                refine zy_b (q := (13, [])) (mr := zm_m108) rfl rfl rfl ?_
                refine zy_n 1 (mr := zm_m108) (pc' := 14) (ls' := [(0, .ref 25)]) (st' := [.int 0]) rfl rfl ?_
                refine zy_r (mr := zm_m108) rfl rfl rfl ?_
                refine zy_b (q := (10, [])) (mr := zm_m109) rfl rfl rfl ?_
                refine zy_n 1 (mr := zm_m109) (pc' := 11) (ls' := [(0, .ref 25), (1, .ref 117), (2, .int a6), (3, .int (-1))]) (st' := [.ref 25]) rfl rfl ?_
                refine zy_h (mr := zm_m109) rfl rfl (zh_get (v := .int 0) k47 rfl) ?_
                refine zy_n 4 (mr := zm_m109) (pc' := 20) (ls' := [(4, .int 0), (0, .ref 25), (1, .ref 117), (2, .int a6), (3, .int (-1))]) (st' := [.ref 25]) rfl rfl ?_
                refine zy_h (mr := zm_m109) rfl rfl (zh_get (v := .ref 26) k47 rfl) ?_
                refine zy_n 4 (mr := zm_m109) (pc' := 28) (ls' := [(4, .int 0), (0, .ref 25), (1, .ref 117), (2, .int a6), (3, .int (-1))]) (st' := [.ref 117, .int 0, .ref 26]) rfl rfl ?_
                have k48 := (zs_eqE e46 (zs_eqE e16 (zs_eqE e13 (zs_eqE e11 (zs_eqE e9 (zs_eqE e8 (zs_eqE e7 (zs_eqE e6 (zs_newE (k := 0) e5 (zs_lsetE e4 (zp_len F).1) rfl)))))))))
                refine zy_h (mr := zm_m109) rfl rfl (zh_get (v := .int a1) k48 rfl) ?_
                have k49 := (zs_neE e46 (zs_neE e16 (zs_neE e13 (zs_neE e11 (zs_neE e9 (zs_neE e8 (zs_neE e7 (zs_neE e6 (zs_appE e5 (zs_neE e4 (zp_i F 16 rfl) (by decide))) (by decide)) (by decide)) (by decide)) (by decide)) (by decide)) (by decide)) (by decide)) (by decide))
                refine zy_hS (x := _) (mr := zm_m109) rfl rfl (zh_iast k49 (by decide)) (fun he50 e50 => ?_)
                refine zy_n 1 (mr := zm_m109) (pc' := 33) (ls' := [(4, .int 0), (0, .ref 25), (1, .ref 117), (2, .int a6), (3, .int (-1))]) (st' := [.ref 25]) rfl rfl ?_
                refine zy_h (mr := zm_m109) rfl rfl (zh_get (v := .ref 26) (zs_neE e50 k47 (by decide)) rfl) ?_
                refine zy_n 4 (mr := zm_m109) (pc' := 41) (ls' := [(4, .int 0), (0, .ref 25), (1, .ref 117), (2, .int a6), (3, .int (-1))]) (st' := [.ref 117, .int 1, .ref 26]) rfl rfl ?_
                refine zy_h (mr := zm_m109) rfl rfl (zh_get (v := .int a2) (zs_neE e50 k48 (by decide)) rfl) ?_
                refine zy_hS (x := _) (mr := zm_m109) rfl rfl (zh_iast (zs_eqE e50 k49) (by decide)) (fun he51 e51 => ?_)
                refine zy_n 1 (mr := zm_m109) (pc' := 46) (ls' := [(4, .int 0), (0, .ref 25), (1, .ref 117), (2, .int a6), (3, .int (-1))]) (st' := [.ref 25]) rfl rfl ?_
                refine zy_h (mr := zm_m109) rfl rfl (zh_get (v := .ref 26) (zs_neE e51 (zs_neE e50 k47 (by decide)) (by decide)) rfl) ?_
                refine zy_n 4 (mr := zm_m109) (pc' := 54) (ls' := [(4, .int 0), (0, .ref 25), (1, .ref 117), (2, .int a6), (3, .int (-1))]) (st' := [.ref 117, .int 2, .ref 26]) rfl rfl ?_
                refine zy_h (mr := zm_m109) rfl rfl (zh_get (v := .int a3) (zs_neE e51 (zs_neE e50 k48 (by decide)) (by decide)) rfl) ?_
                refine zy_hS (x := _) (mr := zm_m109) rfl rfl (zh_iast (zs_eqE e51 (zs_eqE e50 k49)) (by decide)) (fun he52 e52 => ?_)
                refine zy_n 1 (mr := zm_m109) (pc' := 59) (ls' := [(4, .int 0), (0, .ref 25), (1, .ref 117), (2, .int a6), (3, .int (-1))]) (st' := [.ref 25]) rfl rfl ?_
                refine zy_h (mr := zm_m109) rfl rfl (zh_get (v := .ref 26) (zs_neE e52 (zs_neE e51 (zs_neE e50 k47 (by decide)) (by decide)) (by decide)) rfl) ?_
                refine zy_n 4 (mr := zm_m109) (pc' := 67) (ls' := [(4, .int 0), (0, .ref 25), (1, .ref 117), (2, .int a6), (3, .int (-1))]) (st' := [.ref 117, .int 3, .ref 26]) rfl rfl ?_
                refine zy_h (mr := zm_m109) rfl rfl (zh_get (v := .int 0) (zs_neE e52 (zs_neE e51 (zs_neE e50 k48 (by decide)) (by decide)) (by decide)) rfl) ?_
                refine zy_hS (x := _) (mr := zm_m109) rfl rfl (zh_iast (zs_eqE e52 (zs_eqE e51 (zs_eqE e50 k49))) (by decide)) (fun he53 e53 => ?_)
                refine zy_n 1 (mr := zm_m109) (pc' := 72) (ls' := [(4, .int 0), (0, .ref 25), (1, .ref 117), (2, .int a6), (3, .int (-1))]) (st' := [.ref 25]) rfl rfl ?_
                have k54 := (zs_neE e53 (zs_neE e52 (zs_neE e51 (zs_neE e50 k47 (by decide)) (by decide)) (by decide)) (by decide))
                refine zy_h (mr := zm_m109) rfl rfl (zh_get (v := .ref 26) k54 rfl) ?_
                refine zy_n 4 (mr := zm_m109) (pc' := 80) (ls' := [(4, .int 0), (0, .ref 25), (1, .ref 117), (2, .int a6), (3, .int (-1))]) (st' := [.ref 117, .int 4, .ref 26]) rfl rfl ?_
                have k55 := (zs_neE e53 (zs_neE e52 (zs_neE e51 (zs_neE e50 k48 (by decide)) (by decide)) (by decide)) (by decide))
                refine zy_h (mr := zm_m109) rfl rfl (zh_get (v := .int 1) k55 rfl) ?_
                refine zy_hS (x := _) (mr := zm_m109) rfl rfl (zh_iast (zs_eqE e53 (zs_eqE e52 (zs_eqE e51 (zs_eqE e50 k49)))) (by decide)) (fun he56 e56 => ?_)
                refine zy_n 1 (mr := zm_m109) (pc' := 85) (ls' := [(4, .int 0), (0, .ref 25), (1, .ref 117), (2, .int a6), (3, .int (-1))]) (st' := [.ref 25]) rfl rfl ?_
                refine zy_h (mr := zm_m109) rfl rfl (zh_get (v := .ref 26) (zs_neE e56 k54 (by decide)) rfl) ?_
                refine zy_n 4 (mr := zm_m109) (pc' := 93) (ls' := [(4, .int 0), (0, .ref 25), (1, .ref 117), (2, .int a6), (3, .int (-1))]) (st' := [.int a6, .int 5, .ref 26]) rfl rfl ?_
                refine zy_b (mr := zm_m109) rfl rfl rfl (zi_eq (fun hc57 => ?_) (fun hc57 => ?_))
                · skip
                  refine zy_n 1 (mr := zm_m109) (pc' := 101) (ls' := [(4, .int 0), (0, .ref 25), (1, .ref 117), (2, .int a6), (3, .int (-1))]) (st' := [.int 0, .int 5, .ref 26]) rfl rfl ?_
                  as_aux_lemma =>
                    refine zy_hS (x := _) (mr := zm_m109) rfl rfl (zh_iast (zs_eqE e56 (zs_eqE e53 (zs_eqE e52 (zs_eqE e51 (zs_eqE e50 k49))))) (by decide)) (fun he58 e58 => ?_)
                    refine zy_n 1 (mr := zm_m109) (pc' := 103) (ls' := [(4, .int 0), (0, .ref 25), (1, .ref 117), (2, .int a6), (3, .int (-1))]) (st' := [.ref 25]) rfl rfl ?_
                    refine zy_h (mr := zm_m109) rfl rfl (zh_get (v := .ref 26) (zs_neE e58 (zs_neE e56 k54 (by decide)) (by decide)) rfl) ?_
                    refine zy_n 4 (mr := zm_m109) (pc' := 112) (ls' := [(4, .int 0), (0, .ref 25), (1, .ref 117), (2, .int a6), (3, .int (-1))]) (st' := [.int (-1), .int 6, .ref 26]) rfl rfl ?_
                    refine zy_hS (x := _) (mr := zm_m109) rfl rfl (zh_iast (zs_eqE e58 (zs_eqE e56 (zs_eqE e53 (zs_eqE e52 (zs_eqE e51 (zs_eqE e50 k49)))))) (by decide)) (fun he59 e59 => ?_)
                    refine zy_n 1 (mr := zm_m109) (pc' := 114) (ls' := [(4, .int 0), (0, .ref 25), (1, .ref 117), (2, .int a6), (3, .int (-1))]) (st' := [.ref 25]) rfl rfl ?_
                    refine zy_h (mr := zm_m109) rfl rfl (zh_get (v := .ref 26) (zs_neE e59 (zs_neE e58 (zs_neE e56 k54 (by decide)) (by decide)) (by decide)) rfl) ?_
                    refine zy_n 4 (mr := zm_m109) (pc' := 123) (ls' := [(4, .int 0), (0, .ref 25), (1, .ref 117), (2, .int a6), (3, .int (-1))]) (st' := [.int 1, .int 7, .ref 26]) rfl rfl ?_
                    have k60 := (zs_eqE e59 (zs_eqE e58 (zs_eqE e56 (zs_eqE e53 (zs_eqE e52 (zs_eqE e51 (zs_eqE e50 k49)))))))
                    refine zy_hS (x := _) (mr := zm_m109) rfl rfl (zh_iast k60 (by decide)) (fun he61 e61 => ?_)
                    refine zy_n 2 (mr := zm_m109) (pc' := 126) (ls' := [(4, .int 0), (0, .ref 25), (1, .ref 117), (2, .int a6), (3, .int (-1))]) (st' := [.ref 25, .ref 25]) rfl rfl ?_
                    have k62 := (zs_neE e61 (zs_neE e59 (zs_neE e58 (zs_neE e56 k54 (by decide)) (by decide)) (by decide)) (by decide))
                    refine zy_h (mr := zm_m109) rfl rfl (zh_get (v := .int 0) k62 rfl) ?_
                    refine zy_n 3 (mr := zm_m109) (pc' := 132) (ls' := [(4, .int 0), (0, .ref 25), (1, .ref 117), (2, .int a6), (3, .int (-1))]) (st' := [.int 1, .ref 25, .int 0]) rfl rfl ?_
                    refine zy_hS (x := .inr (1, [.int 5, .int 1, .ref 26])) (mr := zm_m109) rfl rfl (zh_put k62 rfl rfl) (fun he63 e63 => ?_)
                    refine zy_r (mr := zm_m109) rfl rfl rfl ?_
                    refine zy_r (mr := zm_m107) rfl rfl rfl ?_
                    have k64 := (zs_lsetE e63 (zs_lsetE e61 (zs_lsetE e59 (zs_lsetE e58 (zs_lsetE e56 (zs_lsetE e53 (zs_lsetE e52 (zs_lsetE e51 (zs_lsetE e50 (zs_lsetE e46 (zs_lsetE e16 (zs_lsetE e13 (zs_lsetE e11 (zs_lsetE e9 (zs_lsetE e8 (zs_lsetE e7 (zs_lsetE e6 (zs_lappE e5 (zs_lsetE e4 (zp_len F).1) rfl))))))))))))))))))
                    refine ⟨⟨_, rfl, ?_⟩, fun k hk1 hk2 => ((zs_kE e63 (by omega)).trans ((zs_kE e61 (by omega)).trans ((zs_kE e59 (by omega)).trans ((zs_kE e58 (by omega)).trans ((zs_kE e56 (by omega)).trans ((zs_kE e53 (by omega)).trans ((zs_kE e52 (by omega)).trans ((zs_kE e51 (by omega)).trans ((zs_kE e50 (by omega)).trans ((zs_kE e46 (by omega)).trans ((zs_kE e16 (by omega)).trans ((zs_kE e13 (by omega)).trans ((zs_kE e11 (by omega)).trans ((zs_kE e9 (by omega)).trans ((zs_kE e8 (by omega)).trans ((zs_kE e7 (by omega)).trans ((zs_kE e6 (by omega)).trans ((zs_kappE e5 (zs_lsetE e4 (zp_len F).1) (by omega)).trans ((zs_kE e4 (by omega)).trans rfl))))))))))))))))))), Nat.le_trans (Nat.le_of_eq k64) (by decide), Nat.le_trans (Nat.le_of_eq (zs_szsetE (w := 3) e63 k62 rfl rfl (zs_szsetE (w := 480) e61 k60 rfl rfl (zs_szsetE (w := 480) e59 (zs_eqE e58 (zs_eqE e56 (zs_eqE e53 (zs_eqE e52 (zs_eqE e51 (zs_eqE e50 k49)))))) rfl rfl (zs_szsetE (w := 480) e58 (zs_eqE e56 (zs_eqE e53 (zs_eqE e52 (zs_eqE e51 (zs_eqE e50 k49))))) rfl rfl (zs_szsetE (w := 480) e56 (zs_eqE e53 (zs_eqE e52 (zs_eqE e51 (zs_eqE e50 k49)))) rfl rfl (zs_szsetE (w := 480) e53 (zs_eqE e52 (zs_eqE e51 (zs_eqE e50 k49))) rfl rfl (zs_szsetE (w := 480) e52 (zs_eqE e51 (zs_eqE e50 k49)) rfl rfl (zs_szsetE (w := 480) e51 (zs_eqE e50 k49) rfl rfl (zs_szsetE (w := 480) e50 k49 rfl rfl (zs_szsetE (w := 8) e46 (zs_eqE e16 (zs_eqE e13 (zs_eqE e11 (zs_eqE e9 (zs_eqE e8 (zs_eqE e7 (zs_eqE e6 (zs_newE (k := 0) e5 (zs_lsetE e4 (zp_len F).1) rfl)))))))) rfl rfl (zs_szsetE (w := 8) e16 (zs_eqE e13 (zs_eqE e11 (zs_eqE e9 (zs_eqE e8 (zs_eqE e7 (zs_eqE e6 (zs_newE (k := 0) e5 (zs_lsetE e4 (zp_len F).1) rfl))))))) rfl rfl (zs_szsetE (w := 8) e13 (zs_eqE e11 (zs_eqE e9 (zs_eqE e8 (zs_eqE e7 (zs_eqE e6 (zs_newE (k := 0) e5 (zs_lsetE e4 (zp_len F).1) rfl)))))) rfl rfl (zs_szsetE (w := 8) e11 (zs_eqE e9 (zs_eqE e8 (zs_eqE e7 (zs_eqE e6 (zs_newE (k := 0) e5 (zs_lsetE e4 (zp_len F).1) rfl))))) rfl rfl (zs_szsetE (w := 8) e9 (zs_eqE e8 (zs_eqE e7 (zs_eqE e6 (zs_newE (k := 0) e5 (zs_lsetE e4 (zp_len F).1) rfl)))) rfl rfl (zs_szsetE (w := 8) e8 (zs_eqE e7 (zs_eqE e6 (zs_newE (k := 0) e5 (zs_lsetE e4 (zp_len F).1) rfl))) rfl rfl (zs_szsetE (w := 8) e7 (zs_eqE e6 (zs_newE (k := 0) e5 (zs_lsetE e4 (zp_len F).1) rfl)) rfl rfl (zs_szsetE (w := 8) e6 (zs_newE (k := 0) e5 (zs_lsetE e4 (zp_len F).1) rfl) rfl rfl (zs_szappE e5 (zs_szsetE (w := 15) e4 (zp_o F 7 rfl) rfl rfl (zp_len F).2) rfl))))))))))))))))))) (by decide)⟩
                    simp [zf_19, hc1, hc2, hc3, hc14, hc17, hc57]
                · skip
                  refine zy_n 2 (mr := zm_m109) (pc' := 101) (ls' := [(4, .int 0), (0, .ref 25), (1, .ref 117), (2, .int a6), (3, .int (-1))]) (st' := [.int 1, .int 5, .ref 26]) rfl rfl ?_
                  refine zy_hS (x := _) (mr := zm_m109) rfl rfl (zh_iast (zs_eqE e56 (zs_eqE e53 (zs_eqE e52 (zs_eqE e51 (zs_eqE e50 k49))))) (by decide)) (fun he65 e65 => ?_)
                  refine zy_n 1 (mr := zm_m109) (pc' := 103) (ls' := [(4, .int 0), (0, .ref 25), (1, .ref 117), (2, .int a6), (3, .int (-1))]) (st' := [.ref 25]) rfl rfl ?_
                  refine zy_h (mr := zm_m109) rfl rfl (zh_get (v := .ref 26) (zs_neE e65 (zs_neE e56 k54 (by decide)) (by decide)) rfl) ?_
                  refine zy_n 4 (mr := zm_m109) (pc' := 112) (ls' := [(4, .int 0), (0, .ref 25), (1, .ref 117), (2, .int a6), (3, .int (-1))]) (st' := [.int (-1), .int 6, .ref 26]) rfl rfl ?_
                  refine zy_hS (x := _) (mr := zm_m109) rfl rfl (zh_iast (zs_eqE e65 (zs_eqE e56 (zs_eqE e53 (zs_eqE e52 (zs_eqE e51 (zs_eqE e50 k49)))))) (by decide)) (fun he66 e66 => ?_)
                  refine zy_n 1 (mr := zm_m109) (pc' := 114) (ls' := [(4, .int 0), (0, .ref 25), (1, .ref 117), (2, .int a6), (3, .int (-1))]) (st' := [.ref 25]) rfl rfl ?_
                  refine zy_h (mr := zm_m109) rfl rfl (zh_get (v := .ref 26) (zs_neE e66 (zs_neE e65 (zs_neE e56 k54 (by decide)) (by decide)) (by decide)) rfl) ?_
                  refine zy_n 4 (mr := zm_m109) (pc' := 123) (ls' := [(4, .int 0), (0, .ref 25), (1, .ref 117), (2, .int a6), (3, .int (-1))]) (st' := [.int 1, .int 7, .ref 26]) rfl rfl ?_
                  have k67 := (zs_eqE e66 (zs_eqE e65 (zs_eqE e56 (zs_eqE e53 (zs_eqE e52 (zs_eqE e51 (zs_eqE e50 k49)))))))
                  refine zy_hS (x := _) (mr := zm_m109) rfl rfl (zh_iast k67 (by decide)) (fun he68 e68 => ?_)
                  refine zy_n 2 (mr := zm_m109) (pc' := 126) (ls' := [(4, .int 0), (0, .ref 25), (1, .ref 117), (2, .int a6), (3, .int (-1))]) (st' := [.ref 25, .ref 25]) rfl rfl ?_
                  have k69 := (zs_neE e68 (zs_neE e66 (zs_neE e65 (zs_neE e56 k54 (by decide)) (by decide)) (by decide)) (by decide))
                  refine zy_h (mr := zm_m109) rfl rfl (zh_get (v := .int 0) k69 rfl) ?_
                  refine zy_n 3 (mr := zm_m109) (pc' := 132) (ls' := [(4, .int 0), (0, .ref 25), (1, .ref 117), (2, .int a6), (3, .int (-1))]) (st' := [.int 1, .ref 25, .int 0]) rfl rfl ?_
                  refine zy_hS (x := .inr (1, [.int 5, .int 1, .ref 26])) (mr := zm_m109) rfl rfl (zh_put k69 rfl rfl) (fun he70 e70 => ?_)
                  refine zy_r (mr := zm_m109) rfl rfl rfl ?_
                  refine zy_r (mr := zm_m107) rfl rfl rfl ?_
                  have k71 := (zs_lsetE e70 (zs_lsetE e68 (zs_lsetE e66 (zs_lsetE e65 (zs_lsetE e56 (zs_lsetE e53 (zs_lsetE e52 (zs_lsetE e51 (zs_lsetE e50 (zs_lsetE e46 (zs_lsetE e16 (zs_lsetE e13 (zs_lsetE e11 (zs_lsetE e9 (zs_lsetE e8 (zs_lsetE e7 (zs_lsetE e6 (zs_lappE e5 (zs_lsetE e4 (zp_len F).1) rfl))))))))))))))))))
                  refine ⟨⟨_, rfl, ?_⟩, fun k hk1 hk2 => ((zs_kE e70 (by omega)).trans ((zs_kE e68 (by omega)).trans ((zs_kE e66 (by omega)).trans ((zs_kE e65 (by omega)).trans ((zs_kE e56 (by omega)).trans ((zs_kE e53 (by omega)).trans ((zs_kE e52 (by omega)).trans ((zs_kE e51 (by omega)).trans ((zs_kE e50 (by omega)).trans ((zs_kE e46 (by omega)).trans ((zs_kE e16 (by omega)).trans ((zs_kE e13 (by omega)).trans ((zs_kE e11 (by omega)).trans ((zs_kE e9 (by omega)).trans ((zs_kE e8 (by omega)).trans ((zs_kE e7 (by omega)).trans ((zs_kE e6 (by omega)).trans ((zs_kappE e5 (zs_lsetE e4 (zp_len F).1) (by omega)).trans ((zs_kE e4 (by omega)).trans rfl))))))))))))))))))), Nat.le_trans (Nat.le_of_eq k71) (by decide), Nat.le_trans (Nat.le_of_eq (zs_szsetE (w := 3) e70 k69 rfl rfl (zs_szsetE (w := 480) e68 k67 rfl rfl (zs_szsetE (w := 480) e66 (zs_eqE e65 (zs_eqE e56 (zs_eqE e53 (zs_eqE e52 (zs_eqE e51 (zs_eqE e50 k49)))))) rfl rfl (zs_szsetE (w := 480) e65 (zs_eqE e56 (zs_eqE e53 (zs_eqE e52 (zs_eqE e51 (zs_eqE e50 k49))))) rfl rfl (zs_szsetE (w := 480) e56 (zs_eqE e53 (zs_eqE e52 (zs_eqE e51 (zs_eqE e50 k49)))) rfl rfl (zs_szsetE (w := 480) e53 (zs_eqE e52 (zs_eqE e51 (zs_eqE e50 k49))) rfl rfl (zs_szsetE (w := 480) e52 (zs_eqE e51 (zs_eqE e50 k49)) rfl rfl (zs_szsetE (w := 480) e51 (zs_eqE e50 k49) rfl rfl (zs_szsetE (w := 480) e50 k49 rfl rfl (zs_szsetE (w := 8) e46 (zs_eqE e16 (zs_eqE e13 (zs_eqE e11 (zs_eqE e9 (zs_eqE e8 (zs_eqE e7 (zs_eqE e6 (zs_newE (k := 0) e5 (zs_lsetE e4 (zp_len F).1) rfl)))))))) rfl rfl (zs_szsetE (w := 8) e16 (zs_eqE e13 (zs_eqE e11 (zs_eqE e9 (zs_eqE e8 (zs_eqE e7 (zs_eqE e6 (zs_newE (k := 0) e5 (zs_lsetE e4 (zp_len F).1) rfl))))))) rfl rfl (zs_szsetE (w := 8) e13 (zs_eqE e11 (zs_eqE e9 (zs_eqE e8 (zs_eqE e7 (zs_eqE e6 (zs_newE (k := 0) e5 (zs_lsetE e4 (zp_len F).1) rfl)))))) rfl rfl (zs_szsetE (w := 8) e11 (zs_eqE e9 (zs_eqE e8 (zs_eqE e7 (zs_eqE e6 (zs_newE (k := 0) e5 (zs_lsetE e4 (zp_len F).1) rfl))))) rfl rfl (zs_szsetE (w := 8) e9 (zs_eqE e8 (zs_eqE e7 (zs_eqE e6 (zs_newE (k := 0) e5 (zs_lsetE e4 (zp_len F).1) rfl)))) rfl rfl (zs_szsetE (w := 8) e8 (zs_eqE e7 (zs_eqE e6 (zs_newE (k := 0) e5 (zs_lsetE e4 (zp_len F).1) rfl))) rfl rfl (zs_szsetE (w := 8) e7 (zs_eqE e6 (zs_newE (k := 0) e5 (zs_lsetE e4 (zp_len F).1) rfl)) rfl rfl (zs_szsetE (w := 8) e6 (zs_newE (k := 0) e5 (zs_lsetE e4 (zp_len F).1) rfl) rfl rfl (zs_szappE e5 (zs_szsetE (w := 15) e4 (zp_o F 7 rfl) rfl rfl (zp_len F).2) rfl))))))))))))))))))) (by decide)⟩
                  simp [zf_19, hc1, hc2, hc3, hc14, hc17, hc57]
          · skip
            refine zy_n 2 (mr := zm_m24) (pc' := 46) (ls' := [(0, .ref 117), (1, .int 0), (2, .int a1), (3, .int a3), (4, .int a2), (5, .int a4), (6, .int a5)]) (st' := [.int 1, .ref 117]) rfl rfl ?_
            have k72 := (zs_eqE e13 (zs_eqE e11 (zs_eqE e9 (zs_eqE e8 (zs_eqE e7 (zs_eqE e6 (zs_newE (k := 0) e5 (zs_lsetE e4 (zp_len F).1) rfl)))))))
            refine zy_hS (x := .inr (5, [.int 0, .int a1, .int a3, .int a2, .int 1, .int 0, .int 0, .int (-1)])) (mr := zm_m24) rfl rfl (zh_put k72 rfl rfl) (fun he73 e73 => ?_)
            refine zy_n 2 (mr := zm_m24) (pc' := 52) (ls' := [(0, .ref 117), (1, .int 0), (2, .int a1), (3, .int a3), (4, .int a2), (5, .int a4), (6, .int a5)]) (st' := [.int a5, .ref 117]) rfl rfl ?_
            refine zy_b (mr := zm_m24) rfl rfl rfl (zi_eq (fun hc74 => ?_) (fun hc74 => ?_))
            · skip
              refine zy_n 1 (mr := zm_m24) (pc' := 60) (ls' := [(0, .ref 117), (1, .int 0), (2, .int a1), (3, .int a3), (4, .int a2), (5, .int a4), (6, .int a5)]) (st' := [.int 0, .ref 117]) rfl rfl ?_
              have k75 := (zs_eqE e73 (zs_eqE e13 (zs_eqE e11 (zs_eqE e9 (zs_eqE e8 (zs_eqE e7 (zs_eqE e6 (zs_newE (k := 0) e5 (zs_lsetE e4 (zp_len F).1) rfl))))))))
              refine zy_hS (x := .inr (5, [.int 0, .int a1, .int a3, .int a2, .int 1, .int 0, .int 0, .int (-1)])) (mr := zm_m24) rfl rfl (zh_put k75 rfl rfl) (fun he76 e76 => ?_)
              as_aux_lemma =>
                refine zy_r (mr := zm_m24) rfl rfl rfl ?_
                refine zy_n 2 (mr := zm_m107) (pc' := 74) (ls' := [(0, .ref 0), (1, .int a1), (2, .int a2), (3, .int a3), (4, .int a4), (5, .int a5), (6, .int a6)]) (st' := [.int (-1), .int a6, .ref 117, .ref 25]) rfl rfl ?_
                have k77 := (zs_neE e76 (zs_neE e73 (zs_neE e13 (zs_neE e11 (zs_neE e9 (zs_neE e8 (zs_neE e7 (zs_neE e6 (zs_appE e5 (zs_neE e4 (zp_o F 5 rfl) (by decide))) (by decide)) (by decide)) (by decide)) (by decide)) (by decide)) (by decide)) (by decide)) (by decide))
                refine zy_c (mc := zm_m109) (mr := zm_m107) rfl rfl (zh_v rfl k77 rfl) rfl rfl ?_
                refine zy_n 1 (mr := zm_m109) (pc' := 1) (ls' := [(0, .ref 25), (1, .ref 117), (2, .int a6), (3, .int (-1))]) (st' := [.ref 25]) rfl rfl ?_
                refine zy_c (mc := zm_m108) (mr := zm_m109) rfl rfl (zh_v rfl k77 rfl) rfl rfl ?_
                refine zy_n 1 (mr := zm_m108) (pc' := 1) (ls' := [(0, .ref 25)]) (st' := [.ref 25]) rfl rfl ?_
                refine zy_h (mr := zm_m108) rfl rfl (zh_get (v := .int 0) k77 rfl) ?_
                refine zy_n 1 (mr := zm_m108) (pc' := 6) (ls' := [(0, .ref 25)]) (st' := [.int 60, .int 0]) rfl rfl ?_
                refine zy_b (q := (13, [])) (mr := zm_m108) rfl rfl rfl ?_
                refine zy_n 1 (mr := zm_m108) (pc' := 14) (ls' := [(0, .ref 25)]) (st' := [.int 0]) rfl rfl ?_
                refine zy_r (mr := zm_m108) rfl rfl rfl ?_
                refine zy_b (q := (10, [])) (mr := zm_m109) rfl rfl rfl ?_
                refine zy_n 1 (mr := zm_m109) (pc' := 11) (ls' := [(0, .ref 25), (1, .ref 117), (2, .int a6), (3, .int (-1))]) (st' := [.ref 25]) rfl rfl ?_
                refine zy_h (mr := zm_m109) rfl rfl (zh_get (v := .int 0) k77 rfl) ?_
                refine zy_n 4 (mr := zm_m109) (pc' := 20) (ls' := [(4, .int 0), (0, .ref 25), (1, .ref 117), (2, .int a6), (3, .int (-1))]) (st' := [.ref 25]) rfl rfl ?_
                refine zy_h (mr := zm_m109) rfl rfl (zh_get (v := .ref 26) k77 rfl) ?_
                refine zy_n 4 (mr := zm_m109) (pc' := 28) (ls' := [(4, .int 0), (0, .ref 25), (1, .ref 117), (2, .int a6), (3, .int (-1))]) (st' := [.ref 117, .int 0, .ref 26]) rfl rfl ?_
                have k78 := (zs_eqE e76 (zs_eqE e73 (zs_eqE e13 (zs_eqE e11 (zs_eqE e9 (zs_eqE e8 (zs_eqE e7 (zs_eqE e6 (zs_newE (k := 0) e5 (zs_lsetE e4 (zp_len F).1) rfl)))))))))
                refine zy_h (mr := zm_m109) rfl rfl (zh_get (v := .int a1) k78 rfl) ?_
                have k79 := (zs_neE e76 (zs_neE e73 (zs_neE e13 (zs_neE e11 (zs_neE e9 (zs_neE e8 (zs_neE e7 (zs_neE e6 (zs_appE e5 (zs_neE e4 (zp_i F 16 rfl) (by decide))) (by decide)) (by decide)) (by decide)) (by decide)) (by decide)) (by decide)) (by decide)) (by decide))
                refine zy_hS (x := _) (mr := zm_m109) rfl rfl (zh_iast k79 (by decide)) (fun he80 e80 => ?_)
                refine zy_n 1 (mr := zm_m109) (pc' := 33) (ls' := [(4, .int 0), (0, .ref 25), (1, .ref 117), (2, .int a6), (3, .int (-1))]) (st' := [.ref 25]) rfl rfl ?_
                refine zy_h (mr := zm_m109) rfl rfl (zh_get (v := .ref 26) (zs_neE e80 k77 (by decide)) rfl) ?_
                refine zy_n 4 (mr := zm_m109) (pc' := 41) (ls' := [(4, .int 0), (0, .ref 25), (1, .ref 117), (2, .int a6), (3, .int (-1))]) (st' := [.ref 117, .int 1, .ref 26]) rfl rfl ?_
                refine zy_h (mr := zm_m109) rfl rfl (zh_get (v := .int a2) (zs_neE e80 k78 (by decide)) rfl) ?_
                refine zy_hS (x := _) (mr := zm_m109) rfl rfl (zh_iast (zs_eqE e80 k79) (by decide)) (fun he81 e81 => ?_)
                refine zy_n 1 (mr := zm_m109) (pc' := 46) (ls' := [(4, .int 0), (0, .ref 25), (1, .ref 117), (2, .int a6), (3, .int (-1))]) (st' := [.ref 25]) rfl rfl ?_
                refine zy_h (mr := zm_m109) rfl rfl (zh_get (v := .ref 26) (zs_neE e81 (zs_neE e80 k77 (by decide)) (by decide)) rfl) ?_
                refine zy_n 4 (mr := zm_m109) (pc' := 54) (ls' := [(4, .int 0), (0, .ref 25), (1, .ref 117), (2, .int a6), (3, .int (-1))]) (st' := [.ref 117, .int 2, .ref 26]) rfl rfl ?_
                refine zy_h (mr := zm_m109) rfl rfl (zh_get (v := .int a3) (zs_neE e81 (zs_neE e80 k78 (by decide)) (by decide)) rfl) ?_
                refine zy_hS (x := _) (mr := zm_m109) rfl rfl (zh_iast (zs_eqE e81 (zs_eqE e80 k79)) (by decide)) (fun he82 e82 => ?_)
                refine zy_n 1 (mr := zm_m109) (pc' := 59) (ls' := [(4, .int 0), (0, .ref 25), (1, .ref 117), (2, .int a6), (3, .int (-1))]) (st' := [.ref 25]) rfl rfl ?_
                refine zy_h (mr := zm_m109) rfl rfl (zh_get (v := .ref 26) (zs_neE e82 (zs_neE e81 (zs_neE e80 k77 (by decide)) (by decide)) (by decide)) rfl) ?_
                refine zy_n 4 (mr := zm_m109) (pc' := 67) (ls' := [(4, .int 0), (0, .ref 25), (1, .ref 117), (2, .int a6), (3, .int (-1))]) (st' := [.ref 117, .int 3, .ref 26]) rfl rfl ?_
                refine zy_h (mr := zm_m109) rfl rfl (zh_get (v := .int 1) (zs_neE e82 (zs_neE e81 (zs_neE e80 k78 (by decide)) (by decide)) (by decide)) rfl) ?_
                refine zy_hS (x := _) (mr := zm_m109) rfl rfl (zh_iast (zs_eqE e82 (zs_eqE e81 (zs_eqE e80 k79))) (by decide)) (fun he83 e83 => ?_)
                refine zy_n 1 (mr := zm_m109) (pc' := 72) (ls' := [(4, .int 0), (0, .ref 25), (1, .ref 117), (2, .int a6), (3, .int (-1))]) (st' := [.ref 25]) rfl rfl ?_
                have k84 := (zs_neE e83 (zs_neE e82 (zs_neE e81 (zs_neE e80 k77 (by decide)) (by decide)) (by decide)) (by decide))
                refine zy_h (mr := zm_m109) rfl rfl (zh_get (v := .ref 26) k84 rfl) ?_
                refine zy_n 4 (mr := zm_m109) (pc' := 80) (ls' := [(4, .int 0), (0, .ref 25), (1, .ref 117), (2, .int a6), (3, .int (-1))]) (st' := [.ref 117, .int 4, .ref 26]) rfl rfl ?_
                have k85 := (zs_neE e83 (zs_neE e82 (zs_neE e81 (zs_neE e80 k78 (by decide)) (by decide)) (by decide)) (by decide))
                refine zy_h (mr := zm_m109) rfl rfl (zh_get (v := .int 0) k85 rfl) ?_
                refine zy_hS (x := _) (mr := zm_m109) rfl rfl (zh_iast (zs_eqE e83 (zs_eqE e82 (zs_eqE e81 (zs_eqE e80 k79)))) (by decide)) (fun he86 e86 => ?_)
                refine zy_n 1 (mr := zm_m109) (pc' := 85) (ls' := [(4, .int 0), (0, .ref 25), (1, .ref 117), (2, .int a6), (3, .int (-1))]) (st' := [.ref 25]) rfl rfl ?_
                refine zy_h (mr := zm_m109) rfl rfl (zh_get (v := .ref 26) (zs_neE e86 k84 (by decide)) rfl) ?_
                refine zy_n 4 (mr := zm_m109) (pc' := 93) (ls' := [(4, .int 0), (0, .ref 25), (1, .ref 117), (2, .int a6), (3, .int (-1))]) (st' := [.int a6, .int 5, .ref 26]) rfl rfl ?_
                refine zy_b (mr := zm_m109) rfl rfl rfl (zi_eq (fun hc87 => ?_) (fun hc87 => ?_))
                · skip
                  refine zy_n 1 (mr := zm_m109) (pc' := 101) (ls' := [(4, .int 0), (0, .ref 25), (1, .ref 117), (2, .int a6), (3, .int (-1))]) (st' := [.int 0, .int 5, .ref 26]) rfl rfl ?_
                  refine zy_hS (x := _) (mr := zm_m109) rfl rfl (zh_iast (zs_eqE e86 (zs_eqE e83 (zs_eqE e82 (zs_eqE e81 (zs_eqE e80 k79))))) (by decide)) (fun he88 e88 => ?_)
                  refine zy_n 1 (mr := zm_m109) (pc' := 103) (ls' := [(4, .int 0), (0, .ref 25), (1, .ref 117), (2, .int a6), (3, .int (-1))]) (st' := [.ref 25]) rfl rfl ?_
                  as_aux_lemma =>
                    refine zy_h (mr := zm_m109) rfl rfl (zh_get (v := .ref 26) (zs_neE e88 (zs_neE e86 k84 (by decide)) (by decide)) rfl) ?_
                    refine zy_n 4 (mr := zm_m109) (pc' := 112) (ls' := [(4, .int 0), (0, .ref 25), (1, .ref 117), (2, .int a6), (3, .int (-1))]) (st' := [.int (-1), .int 6, .ref 26]) rfl rfl ?_
                    refine zy_hS (x := _) (mr := zm_m109) rfl rfl (zh_iast (zs_eqE e88 (zs_eqE e86 (zs_eqE e83 (zs_eqE e82 (zs_eqE e81 (zs_eqE e80 k79)))))) (by decide)) (fun he89 e89 => ?_)
                    refine zy_n 1 (mr := zm_m109) (pc' := 114) (ls' := [(4, .int 0), (0, .ref 25), (1, .ref 117), (2, .int a6), (3, .int (-1))]) (st' := [.ref 25]) rfl rfl ?_
                    refine zy_h (mr := zm_m109) rfl rfl (zh_get (v := .ref 26) (zs_neE e89 (zs_neE e88 (zs_neE e86 k84 (by decide)) (by decide)) (by decide)) rfl) ?_
                    refine zy_n 4 (mr := zm_m109) (pc' := 123) (ls' := [(4, .int 0), (0, .ref 25), (1, .ref 117), (2, .int a6), (3, .int (-1))]) (st' := [.int 1, .int 7, .ref 26]) rfl rfl ?_
                    have k90 := (zs_eqE e89 (zs_eqE e88 (zs_eqE e86 (zs_eqE e83 (zs_eqE e82 (zs_eqE e81 (zs_eqE e80 k79)))))))
                    refine zy_hS (x := _) (mr := zm_m109) rfl rfl (zh_iast k90 (by decide)) (fun he91 e91 => ?_)
                    refine zy_n 2 (mr := zm_m109) (pc' := 126) (ls' := [(4, .int 0), (0, .ref 25), (1, .ref 117), (2, .int a6), (3, .int (-1))]) (st' := [.ref 25, .ref 25]) rfl rfl ?_
                    have k92 := (zs_neE e91 (zs_neE e89 (zs_neE e88 (zs_neE e86 k84 (by decide)) (by decide)) (by decide)) (by decide))
                    refine zy_h (mr := zm_m109) rfl rfl (zh_get (v := .int 0) k92 rfl) ?_
                    refine zy_n 3 (mr := zm_m109) (pc' := 132) (ls' := [(4, .int 0), (0, .ref 25), (1, .ref 117), (2, .int a6), (3, .int (-1))]) (st' := [.int 1, .ref 25, .int 0]) rfl rfl ?_
                    refine zy_hS (x := .inr (1, [.int 5, .int 1, .ref 26])) (mr := zm_m109) rfl rfl (zh_put k92 rfl rfl) (fun he93 e93 => ?_)
                    refine zy_r (mr := zm_m109) rfl rfl rfl ?_
                    refine zy_r (mr := zm_m107) rfl rfl rfl ?_
                    have k94 := (zs_lsetE e93 (zs_lsetE e91 (zs_lsetE e89 (zs_lsetE e88 (zs_lsetE e86 (zs_lsetE e83 (zs_lsetE e82 (zs_lsetE e81 (zs_lsetE e80 (zs_lsetE e76 (zs_lsetE e73 (zs_lsetE e13 (zs_lsetE e11 (zs_lsetE e9 (zs_lsetE e8 (zs_lsetE e7 (zs_lsetE e6 (zs_lappE e5 (zs_lsetE e4 (zp_len F).1) rfl))))))))))))))))))
                    refine ⟨⟨_, rfl, ?_⟩, fun k hk1 hk2 => ((zs_kE e93 (by omega)).trans ((zs_kE e91 (by omega)).trans ((zs_kE e89 (by omega)).trans ((zs_kE e88 (by omega)).trans ((zs_kE e86 (by omega)).trans ((zs_kE e83 (by omega)).trans ((zs_kE e82 (by omega)).trans ((zs_kE e81 (by omega)).trans ((zs_kE e80 (by omega)).trans ((zs_kE e76 (by omega)).trans ((zs_kE e73 (by omega)).trans ((zs_kE e13 (by omega)).trans ((zs_kE e11 (by omega)).trans ((zs_kE e9 (by omega)).trans ((zs_kE e8 (by omega)).trans ((zs_kE e7 (by omega)).trans ((zs_kE e6 (by omega)).trans ((zs_kappE e5 (zs_lsetE e4 (zp_len F).1) (by omega)).trans ((zs_kE e4 (by omega)).trans rfl))))))))))))))))))), Nat.le_trans (Nat.le_of_eq k94) (by decide), Nat.le_trans (Nat.le_of_eq (zs_szsetE (w := 3) e93 k92 rfl rfl (zs_szsetE (w := 480) e91 k90 rfl rfl (zs_szsetE (w := 480) e89 (zs_eqE e88 (zs_eqE e86 (zs_eqE e83 (zs_eqE e82 (zs_eqE e81 (zs_eqE e80 k79)))))) rfl rfl (zs_szsetE (w := 480) e88 (zs_eqE e86 (zs_eqE e83 (zs_eqE e82 (zs_eqE e81 (zs_eqE e80 k79))))) rfl rfl (zs_szsetE (w := 480) e86 (zs_eqE e83 (zs_eqE e82 (zs_eqE e81 (zs_eqE e80 k79)))) rfl rfl (zs_szsetE (w := 480) e83 (zs_eqE e82 (zs_eqE e81 (zs_eqE e80 k79))) rfl rfl (zs_szsetE (w := 480) e82 (zs_eqE e81 (zs_eqE e80 k79)) rfl rfl (zs_szsetE (w := 480) e81 (zs_eqE e80 k79) rfl rfl (zs_szsetE (w := 480) e80 k79 rfl rfl (zs_szsetE (w := 8) e76 (zs_eqE e73 (zs_eqE e13 (zs_eqE e11 (zs_eqE e9 (zs_eqE e8 (zs_eqE e7 (zs_eqE e6 (zs_newE (k := 0) e5 (zs_lsetE e4 (zp_len F).1) rfl)))))))) rfl rfl (zs_szsetE (w := 8) e73 (zs_eqE e13 (zs_eqE e11 (zs_eqE e9 (zs_eqE e8 (zs_eqE e7 (zs_eqE e6 (zs_newE (k := 0) e5 (zs_lsetE e4 (zp_len F).1) rfl))))))) rfl rfl (zs_szsetE (w := 8) e13 (zs_eqE e11 (zs_eqE e9 (zs_eqE e8 (zs_eqE e7 (zs_eqE e6 (zs_newE (k := 0) e5 (zs_lsetE e4 (zp_len F).1) rfl)))))) rfl rfl (zs_szsetE (w := 8) e11 (zs_eqE e9 (zs_eqE e8 (zs_eqE e7 (zs_eqE e6 (zs_newE (k := 0) e5 (zs_lsetE e4 (zp_len F).1) rfl))))) rfl rfl (zs_szsetE (w := 8) e9 (zs_eqE e8 (zs_eqE e7 (zs_eqE e6 (zs_newE (k := 0) e5 (zs_lsetE e4 (zp_len F).1) rfl)))) rfl rfl (zs_szsetE (w := 8) e8 (zs_eqE e7 (zs_eqE e6 (zs_newE (k := 0) e5 (zs_lsetE e4 (zp_len F).1) rfl))) rfl rfl (zs_szsetE (w := 8) e7 (zs_eqE e6 (zs_newE (k := 0) e5 (zs_lsetE e4 (zp_len F).1) rfl)) rfl rfl (zs_szsetE (w := 8) e6 (zs_newE (k := 0) e5 (zs_lsetE e4 (zp_len F).1) rfl) rfl rfl (zs_szappE e5 (zs_szsetE (w := 15) e4 (zp_o F 7 rfl) rfl rfl (zp_len F).2) rfl))))))))))))))))))) (by decide)⟩
                    simp [zf_19, hc1, hc2, hc3, hc14, hc74, hc87]
                · skip
                  refine zy_n 2 (mr := zm_m109) (pc' := 101) (ls' := [(4, .int 0), (0, .ref 25), (1, .ref 117), (2, .int a6), (3, .int (-1))]) (st' := [.int 1, .int 5, .ref 26]) rfl rfl ?_
                  refine zy_hS (x := _) (mr := zm_m109) rfl rfl (zh_iast (zs_eqE e86 (zs_eqE e83 (zs_eqE e82 (zs_eqE e81 (zs_eqE e80 k79))))) (by decide)) (fun he95 e95 => ?_)
                  refine zy_n 1 (mr := zm_m109) (pc' := 103) (ls' := [(4, .int 0), (0, .ref 25), (1, .ref 117), (2, .int a6), (3, .int (-1))]) (st' := [.ref 25]) rfl rfl ?_
                  refine zy_h (mr := zm_m109) rfl rfl (zh_get (v := .ref 26) (zs_neE e95 (zs_neE e86 k84 (by decide)) (by decide)) rfl) ?_
                  refine zy_n 4 (mr := zm_m109) (pc' := 112) (ls' := [(4, .int 0), (0, .ref 25), (1, .ref 117), (2, .int a6), (3, .int (-1))]) (st' := [.int (-1), .int 6, .ref 26]) rfl rfl ?_
                  refine zy_hS (x := _) (mr := zm_m109) rfl rfl (zh_iast (zs_eqE e95 (zs_eqE e86 (zs_eqE e83 (zs_eqE e82 (zs_eqE e81 (zs_eqE e80 k79)))))) (by decide)) (fun he96 e96 => ?_)
                  refine zy_n 1 (mr := zm_m109) (pc' := 114) (ls' := [(4, .int 0), (0, .ref 25), (1, .ref 117), (2, .int a6), (3, .int (-1))]) (st' := [.ref 25]) rfl rfl ?_
                  refine zy_h (mr := zm_m109) rfl rfl (zh_get (v := .ref 26) (zs_neE e96 (zs_neE e95 (zs_neE e86 k84 (by decide)) (by decide)) (by decide)) rfl) ?_
                  refine zy_n 4 (mr := zm_m109) (pc' := 123) (ls' := [(4, .int 0), (0, .ref 25), (1, .ref 117), (2, .int a6), (3, .int (-1))]) (st' := [.int 1, .int 7, .ref 26]) rfl rfl ?_
                  have k97 := (zs_eqE e96 (zs_eqE e95 (zs_eqE e86 (zs_eqE e83 (zs_eqE e82 (zs_eqE e81 (zs_eqE e80 k79)))))))
                  refine zy_hS (x := _) (mr := zm_m109) rfl rfl (zh_iast k97 (by decide)) (fun he98 e98 => ?_)
                  refine zy_n 2 (mr := zm_m109) (pc' := 126) (ls' := [(4, .int 0), (0, .ref 25), (1, .ref 117), (2, .int a6), (3, .int (-1))]) (st' := [.ref 25, .ref 25]) rfl rfl ?_
                  have k99 := (zs_neE e98 (zs_neE e96 (zs_neE e95 (zs_neE e86 k84 (by decide)) (by decide)) (by decide)) (by decide))
                  refine zy_h (mr := zm_m109) rfl rfl (zh_get (v := .int 0) k99 rfl) ?_
                  refine zy_n 3 (mr := zm_m109) (pc' := 132) (ls' := [(4, .int 0), (0, .ref 25), (1, .ref 117), (2, .int a6), (3, .int (-1))]) (st' := [.int 1, .ref 25, .int 0]) rfl rfl ?_
                  refine zy_hS (x := .inr (1, [.int 5, .int 1, .ref 26])) (mr := zm_m109) rfl rfl (zh_put k99 rfl rfl) (fun he100 e100 => ?_)
                  refine zy_r (mr := zm_m109) rfl rfl rfl ?_
                  refine zy_r (mr := zm_m107) rfl rfl rfl ?_
                  have k101 := (zs_lsetE e100 (zs_lsetE e98 (zs_lsetE e96 (zs_lsetE e95 (zs_lsetE e86 (zs_lsetE e83 (zs_lsetE e82 (zs_lsetE e81 (zs_lsetE e80 (zs_lsetE e76 (zs_lsetE e73 (zs_lsetE e13 (zs_lsetE e11 (zs_lsetE e9 (zs_lsetE e8 (zs_lsetE e7 (zs_lsetE e6 (zs_lappE e5 (zs_lsetE e4 (zp_len F).1) rfl))))))))))))))))))
                  refine ⟨⟨_, rfl, ?_⟩, fun k hk1 hk2 => ((zs_kE e100 (by omega)).trans ((zs_kE e98 (by omega)).trans ((zs_kE e96 (by omega)).trans ((zs_kE e95 (by omega)).trans ((zs_kE e86 (by omega)).trans ((zs_kE e83 (by omega)).trans ((zs_kE e82 (by omega)).trans ((zs_kE e81 (by omega)).trans ((zs_kE e80 (by omega)).trans ((zs_kE e76 (by omega)).trans ((zs_kE e73 (by omega)).trans ((zs_kE e13 (by omega)).trans ((zs_kE e11 (by omega)).trans ((zs_kE e9 (by omega)).trans ((zs_kE e8 (by omega)).trans ((zs_kE e7 (by omega)).trans ((zs_kE e6 (by omega)).trans ((zs_kappE e5 (zs_lsetE e4 (zp_len F).1) (by omega)).trans ((zs_kE e4 (by omega)).trans rfl))))))))))))))))))), Nat.le_trans (Nat.le_of_eq k101) (by decide), Nat.le_trans (Nat.le_of_eq (zs_szsetE (w := 3) e100 k99 rfl rfl (zs_szsetE (w := 480) e98 k97 rfl rfl (zs_szsetE (w := 480) e96 (zs_eqE e95 (zs_eqE e86 (zs_eqE e83 (zs_eqE e82 (zs_eqE e81 (zs_eqE e80 k79)))))) rfl rfl (zs_szsetE (w := 480) e95 (zs_eqE e86 (zs_eqE e83 (zs_eqE e82 (zs_eqE e81 (zs_eqE e80 k79))))) rfl rfl (zs_szsetE (w := 480) e86 (zs_eqE e83 (zs_eqE e82 (zs_eqE e81 (zs_eqE e80 k79)))) rfl rfl (zs_szsetE (w := 480) e83 (zs_eqE e82 (zs_eqE e81 (zs_eqE e80 k79))) rfl rfl (zs_szsetE (w := 480) e82 (zs_eqE e81 (zs_eqE e80 k79)) rfl rfl (zs_szsetE (w := 480) e81 (zs_eqE e80 k79) rfl rfl (zs_szsetE (w := 480) e80 k79 rfl rfl (zs_szsetE (w := 8) e76 (zs_eqE e73 (zs_eqE e13 (zs_eqE e11 (zs_eqE e9 (zs_eqE e8 (zs_eqE e7 (zs_eqE e6 (zs_newE (k := 0) e5 (zs_lsetE e4 (zp_len F).1) rfl)))))))) rfl rfl (zs_szsetE (w := 8) e73 (zs_eqE e13 (zs_eqE e11 (zs_eqE e9 (zs_eqE e8 (zs_eqE e7 (zs_eqE e6 (zs_newE (k := 0) e5 (zs_lsetE e4 (zp_len F).1) rfl))))))) rfl rfl (zs_szsetE (w := 8) e13 (zs_eqE e11 (zs_eqE e9 (zs_eqE e8 (zs_eqE e7 (zs_eqE e6 (zs_newE (k := 0) e5 (zs_lsetE e4 (zp_len F).1) rfl)))))) rfl rfl (zs_szsetE (w := 8) e11 (zs_eqE e9 (zs_eqE e8 (zs_eqE e7 (zs_eqE e6 (zs_newE (k := 0) e5 (zs_lsetE e4 (zp_len F).1) rfl))))) rfl rfl (zs_szsetE (w := 8) e9 (zs_eqE e8 (zs_eqE e7 (zs_eqE e6 (zs_newE (k := 0) e5 (zs_lsetE e4 (zp_len F).1) rfl)))) rfl rfl (zs_szsetE (w := 8) e8 (zs_eqE e7 (zs_eqE e6 (zs_newE (k := 0) e5 (zs_lsetE e4 (zp_len F).1) rfl))) rfl rfl (zs_szsetE (w := 8) e7 (zs_eqE e6 (zs_newE (k := 0) e5 (zs_lsetE e4 (zp_len F).1) rfl)) rfl rfl (zs_szsetE (w := 8) e6 (zs_newE (k := 0) e5 (zs_lsetE e4 (zp_len F).1) rfl) rfl rfl (zs_szappE e5 (zs_szsetE (w := 15) e4 (zp_o F 7 rfl) rfl rfl (zp_len F).2) rfl))))))))))))))))))) (by decide)⟩
                  simp [zf_19, hc1, hc2, hc3, hc14, hc74, hc87]
            · skip
              refine zy_n 2 (mr := zm_m24) (pc' := 60) (ls' := [(0, .ref 117), (1, .int 0), (2, .int a1), (3, .int a3), (4, .int a2), (5, .int a4), (6, .int a5)]) (st' := [.int 1, .ref 117]) rfl rfl ?_
              have k102 := (zs_eqE e73 (zs_eqE e13 (zs_eqE e11 (zs_eqE e9 (zs_eqE e8 (zs_eqE e7 (zs_eqE e6 (zs_newE (k := 0) e5 (zs_lsetE e4 (zp_len F).1) rfl))))))))
              refine zy_hS (x := .inr (5, [.int 0, .int a1, .int a3, .int a2, .int 1, .int 1, .int 0, .int (-1)])) (mr := zm_m24) rfl rfl (zh_put k102 rfl rfl) (fun he103 e103 => ?_)
              refine zy_r (mr := zm_m24) rfl rfl rfl ?_
              refine zy_n 2 (mr := zm_m107) (pc' := 74) (ls' := [(0, .ref 0), (1, .int a1), (2, .int a2), (3, .int a3), (4, .int a4), (5, .int a5), (6, .int a6)]) (st' := [.int (-1), .int a6, .ref 117, .ref 25]) rfl rfl ?_
              have k104 := (zs_neE e103 (zs_neE e73 (zs_neE e13 (zs_neE e11 (zs_neE e9 (zs_neE e8 (zs_neE e7 (zs_neE e6 (zs_appE e5 (zs_neE e4 (zp_o F 5 rfl) (by decide))) (by decide)) (by decide)) (by decide)) (by decide)) (by decide)) (by decide)) (by decide)) (by decide))
              refine zy_c (mc := zm_m109) (mr := zm_m107) rfl rfl (zh_v rfl k104 rfl) rfl rfl ?_
              refine zy_n 1 (mr := zm_m109) (pc' := 1) (ls' := [(0, .ref 25), (1, .ref 117), (2, .int a6), (3, .int (-1))]) (st' := [.ref 25]) rfl rfl ?_
              refine zy_c (mc := zm_m108) (mr := zm_m109) rfl rfl (zh_v rfl k104 rfl) rfl rfl ?_
              refine zy_n 1 (mr := zm_m108) (pc' := 1) (ls' := [(0, .ref 25)]) (st' := [.ref 25]) rfl rfl ?_
              as_aux_lemma =>
                refine zy_h (mr := zm_m108) rfl rfl (zh_get (v := .int 0) k104 rfl) ?_
                refine zy_n 1 (mr := zm_m108) (pc' := 6) (ls' := [(0, .ref 25)]) (st' := [.int 60, .int 0]) rfl rfl ?_
                refine zy_b (q := (13, [])) (mr := zm_m108) rfl rfl rfl ?_
                refine zy_n 1 (mr := zm_m108) (pc' := 14) (ls' := [(0, .ref 25)]) (st' := [.int 0]) rfl rfl ?_
                refine zy_r (mr := zm_m108) rfl rfl rfl ?_
                refine zy_b (q := (10, [])) (mr := zm_m109) rfl rfl rfl ?_
                refine zy_n 1 (mr := zm_m109) (pc' := 11) (ls' := [(0, .ref 25), (1, .ref 117), (2, .int a6), (3, .int (-1))]) (st' := [.ref 25]) rfl rfl ?_
                refine zy_h (mr := zm_m109) rfl rfl (zh_get (v := .int 0) k104 rfl) ?_
                refine zy_n 4 (mr := zm_m109) (pc' := 20) (ls' := [(4, .int 0), (0, .ref 25), (1, .ref 117), (2, .int a6), (3, .int (-1))]) (st' := [.ref 25]) rfl rfl ?_
                refine zy_h (mr := zm_m109) rfl rfl (zh_get (v := .ref 26) k104 rfl) ?_
                refine zy_n 4 (mr := zm_m109) (pc' := 28) (ls' := [(4, .int 0), (0, .ref 25), (1, .ref 117), (2, .int a6), (3, .int (-1))]) (st' := [.ref 117, .int 0, .ref 26]) rfl rfl ?_
                have k105 := (zs_eqE e103 (zs_eqE e73 (zs_eqE e13 (zs_eqE e11 (zs_eqE e9 (zs_eqE e8 (zs_eqE e7 (zs_eqE e6 (zs_newE (k := 0) e5 (zs_lsetE e4 (zp_len F).1) rfl)))))))))
                refine zy_h (mr := zm_m109) rfl rfl (zh_get (v := .int a1) k105 rfl) ?_
                have k106 := (zs_neE e103 (zs_neE e73 (zs_neE e13 (zs_neE e11 (zs_neE e9 (zs_neE e8 (zs_neE e7 (zs_neE e6 (zs_appE e5 (zs_neE e4 (zp_i F 16 rfl) (by decide))) (by decide)) (by decide)) (by decide)) (by decide)) (by decide)) (by decide)) (by decide)) (by decide))
                refine zy_hS (x := _) (mr := zm_m109) rfl rfl (zh_iast k106 (by decide)) (fun he107 e107 => ?_)
                refine zy_n 1 (mr := zm_m109) (pc' := 33) (ls' := [(4, .int 0), (0, .ref 25), (1, .ref 117), (2, .int a6), (3, .int (-1))]) (st' := [.ref 25]) rfl rfl ?_
                refine zy_h (mr := zm_m109) rfl rfl (zh_get (v := .ref 26) (zs_neE e107 k104 (by decide)) rfl) ?_
                refine zy_n 4 (mr := zm_m109) (pc' := 41) (ls' := [(4, .int 0), (0, .ref 25), (1, .ref 117), (2, .int a6), (3, .int (-1))]) (st' := [.ref 117, .int 1, .ref 26]) rfl rfl ?_
                refine zy_h (mr := zm_m109) rfl rfl (zh_get (v := .int a2) (zs_neE e107 k105 (by decide)) rfl) ?_
                refine zy_hS (x := _) (mr := zm_m109) rfl rfl (zh_iast (zs_eqE e107 k106) (by decide)) (fun he108 e108 => ?_)
                refine zy_n 1 (mr := zm_m109) (pc' := 46) (ls' := [(4, .int 0), (0, .ref 25), (1, .ref 117), (2, .int a6), (3, .int (-1))]) (st' := [.ref 25]) rfl rfl ?_
                refine zy_h (mr := zm_m109) rfl rfl (zh_get (v := .ref 26) (zs_neE e108 (zs_neE e107 k104 (by decide)) (by decide)) rfl) ?_
                refine zy_n 4 (mr := zm_m109) (pc' := 54) (ls' := [(4, .int 0), (0, .ref 25), (1, .ref 117), (2, .int a6), (3, .int (-1))]) (st' := [.ref 117, .int 2, .ref 26]) rfl rfl ?_
                refine zy_h (mr := zm_m109) rfl rfl (zh_get (v := .int a3) (zs_neE e108 (zs_neE e107 k105 (by decide)) (by decide)) rfl) ?_
                refine zy_hS (x := _) (mr := zm_m109) rfl rfl (zh_iast (zs_eqE e108 (zs_eqE e107 k106)) (by decide)) (fun he109 e109 => ?_)
                refine zy_n 1 (mr := zm_m109) (pc' := 59) (ls' := [(4, .int 0), (0, .ref 25), (1, .ref 117), (2, .int a6), (3, .int (-1))]) (st' := [.ref 25]) rfl rfl ?_
                refine zy_h (mr := zm_m109) rfl rfl (zh_get (v := .ref 26) (zs_neE e109 (zs_neE e108 (zs_neE e107 k104 (by decide)) (by decide)) (by decide)) rfl) ?_
                refine zy_n 4 (mr := zm_m109) (pc' := 67) (ls' := [(4, .int 0), (0, .ref 25), (1, .ref 117), (2, .int a6), (3, .int (-1))]) (st' := [.ref 117, .int 3, .ref 26]) rfl rfl ?_
                refine zy_h (mr := zm_m109) rfl rfl (zh_get (v := .int 1) (zs_neE e109 (zs_neE e108 (zs_neE e107 k105 (by decide)) (by decide)) (by decide)) rfl) ?_
                refine zy_hS (x := _) (mr := zm_m109) rfl rfl (zh_iast (zs_eqE e109 (zs_eqE e108 (zs_eqE e107 k106))) (by decide)) (fun he110 e110 => ?_)
                refine zy_n 1 (mr := zm_m109) (pc' := 72) (ls' := [(4, .int 0), (0, .ref 25), (1, .ref 117), (2, .int a6), (3, .int (-1))]) (st' := [.ref 25]) rfl rfl ?_
                have k111 := (zs_neE e110 (zs_neE e109 (zs_neE e108 (zs_neE e107 k104 (by decide)) (by decide)) (by decide)) (by decide))
                refine zy_h (mr := zm_m109) rfl rfl (zh_get (v := .ref 26) k111 rfl) ?_
                refine zy_n 4 (mr := zm_m109) (pc' := 80) (ls' := [(4, .int 0), (0, .ref 25), (1, .ref 117), (2, .int a6), (3, .int (-1))]) (st' := [.ref 117, .int 4, .ref 26]) rfl rfl ?_
                have k112 := (zs_neE e110 (zs_neE e109 (zs_neE e108 (zs_neE e107 k105 (by decide)) (by decide)) (by decide)) (by decide))
                refine zy_h (mr := zm_m109) rfl rfl (zh_get (v := .int 1) k112 rfl) ?_
                refine zy_hS (x := _) (mr := zm_m109) rfl rfl (zh_iast (zs_eqE e110 (zs_eqE e109 (zs_eqE e108 (zs_eqE e107 k106)))) (by decide)) (fun he113 e113 => ?_)
                refine zy_n 1 (mr := zm_m109) (pc' := 85) (ls' := [(4, .int 0), (0, .ref 25), (1, .ref 117), (2, .int a6), (3, .int (-1))]) (st' := [.ref 25]) rfl rfl ?_
                refine zy_h (mr := zm_m109) rfl rfl (zh_get (v := .ref 26) (zs_neE e113 k111 (by decide)) rfl) ?_
                refine zy_n 4 (mr := zm_m109) (pc' := 93) (ls' := [(4, .int 0), (0, .ref 25), (1, .ref 117), (2, .int a6), (3, .int (-1))]) (st' := [.int a6, .int 5, .ref 26]) rfl rfl ?_
                refine zy_b (mr := zm_m109) rfl rfl rfl (zi_eq (fun hc114 => ?_) (fun hc114 => ?_))
                · skip
                  refine zy_n 1 (mr := zm_m109) (pc' := 101) (ls' := [(4, .int 0), (0, .ref 25), (1, .ref 117), (2, .int a6), (3, .int (-1))]) (st' := [.int 0, .int 5, .ref 26]) rfl rfl ?_
                  refine zy_hS (x := _) (mr := zm_m109) rfl rfl (zh_iast (zs_eqE e113 (zs_eqE e110 (zs_eqE e109 (zs_eqE e108 (zs_eqE e107 k106))))) (by decide)) (fun he115 e115 => ?_)
                  refine zy_n 1 (mr := zm_m109) (pc' := 103) (ls' := [(4, .int 0), (0, .ref 25), (1, .ref 117), (2, .int a6), (3, .int (-1))]) (st' := [.ref 25]) rfl rfl ?_
                  refine zy_h (mr := zm_m109) rfl rfl (zh_get (v := .ref 26) (zs_neE e115 (zs_neE e113 k111 (by decide)) (by decide)) rfl) ?_
                  refine zy_n 4 (mr := zm_m109) (pc' := 112) (ls' := [(4, .int 0), (0, .ref 25), (1, .ref 117), (2, .int a6), (3, .int (-1))]) (st' := [.int (-1), .int 6, .ref 26]) rfl rfl ?_
                  refine zy_hS (x := _) (mr := zm_m109) rfl rfl (zh_iast (zs_eqE e115 (zs_eqE e113 (zs_eqE e110 (zs_eqE e109 (zs_eqE e108 (zs_eqE e107 k106)))))) (by decide)) (fun he116 e116 => ?_)
                  refine zy_n 1 (mr := zm_m109) (pc' := 114) (ls' := [(4, .int 0), (0, .ref 25), (1, .ref 117), (2, .int a6), (3, .int (-1))]) (st' := [.ref 25]) rfl rfl ?_
                  refine zy_h (mr := zm_m109) rfl rfl (zh_get (v := .ref 26) (zs_neE e116 (zs_neE e115 (zs_neE e113 k111 (by decide)) (by decide)) (by decide)) rfl) ?_
                  refine zy_n 4 (mr := zm_m109) (pc' := 123) (ls' := [(4, .int 0), (0, .ref 25), (1, .ref 117), (2, .int a6), (3, .int (-1))]) (st' := [.int 1, .int 7, .ref 26]) rfl rfl ?_
                  as_aux_lemma =>
                    have k117 := (zs_eqE e116 (zs_eqE e115 (zs_eqE e113 (zs_eqE e110 (zs_eqE e109 (zs_eqE e108 (zs_eqE e107 k106)))))))
                    refine zy_hS (x := _) (mr := zm_m109) rfl rfl (zh_iast k117 (by decide)) (fun he118 e118 => ?_)
                    refine zy_n 2 (mr := zm_m109) (pc' := 126) (ls' := [(4, .int 0), (0, .ref 25), (1, .ref 117), (2, .int a6), (3, .int (-1))]) (st' := [.ref 25, .ref 25]) rfl rfl ?_
                    have k119 := (zs_neE e118 (zs_neE e116 (zs_neE e115 (zs_neE e113 k111 (by decide)) (by decide)) (by decide)) (by decide))
                    refine zy_h (mr := zm_m109) rfl rfl (zh_get (v := .int 0) k119 rfl) ?_
                    refine zy_n 3 (mr := zm_m109) (pc' := 132) (ls' := [(4, .int 0), (0, .ref 25), (1, .ref 117), (2, .int a6), (3, .int (-1))]) (st' := [.int 1, .ref 25, .int 0]) rfl rfl ?_
                    refine zy_hS (x := .inr (1, [.int 5, .int 1, .ref 26])) (mr := zm_m109) rfl rfl (zh_put k119 rfl rfl) (fun he120 e120 => ?_)
                    refine zy_r (mr := zm_m109) rfl rfl rfl ?_
                    refine zy_r (mr := zm_m107) rfl rfl rfl ?_
                    have k121 := (zs_lsetE e120 (zs_lsetE e118 (zs_lsetE e116 (zs_lsetE e115 (zs_lsetE e113 (zs_lsetE e110 (zs_lsetE e109 (zs_lsetE e108 (zs_lsetE e107 (zs_lsetE e103 (zs_lsetE e73 (zs_lsetE e13 (zs_lsetE e11 (zs_lsetE e9 (zs_lsetE e8 (zs_lsetE e7 (zs_lsetE e6 (zs_lappE e5 (zs_lsetE e4 (zp_len F).1) rfl))))))))))))))))))
                    refine ⟨⟨_, rfl, ?_⟩, fun k hk1 hk2 => ((zs_kE e120 (by omega)).trans ((zs_kE e118 (by omega)).trans ((zs_kE e116 (by omega)).trans ((zs_kE e115 (by omega)).trans ((zs_kE e113 (by omega)).trans ((zs_kE e110 (by omega)).trans ((zs_kE e109 (by omega)).trans ((zs_kE e108 (by omega)).trans ((zs_kE e107 (by omega)).trans ((zs_kE e103 (by omega)).trans ((zs_kE e73 (by omega)).trans ((zs_kE e13 (by omega)).trans ((zs_kE e11 (by omega)).trans ((zs_kE e9 (by omega)).trans ((zs_kE e8 (by omega)).trans ((zs_kE e7 (by omega)).trans ((zs_kE e6 (by omega)).trans ((zs_kappE e5 (zs_lsetE e4 (zp_len F).1) (by omega)).trans ((zs_kE e4 (by omega)).trans rfl))))))))))))))))))), Nat.le_trans (Nat.le_of_eq k121) (by decide), Nat.le_trans (Nat.le_of_eq (zs_szsetE (w := 3) e120 k119 rfl rfl (zs_szsetE (w := 480) e118 k117 rfl rfl (zs_szsetE (w := 480) e116 (zs_eqE e115 (zs_eqE e113 (zs_eqE e110 (zs_eqE e109 (zs_eqE e108 (zs_eqE e107 k106)))))) rfl rfl (zs_szsetE (w := 480) e115 (zs_eqE e113 (zs_eqE e110 (zs_eqE e109 (zs_eqE e108 (zs_eqE e107 k106))))) rfl rfl (zs_szsetE (w := 480) e113 (zs_eqE e110 (zs_eqE e109 (zs_eqE e108 (zs_eqE e107 k106)))) rfl rfl (zs_szsetE (w := 480) e110 (zs_eqE e109 (zs_eqE e108 (zs_eqE e107 k106))) rfl rfl (zs_szsetE (w := 480) e109 (zs_eqE e108 (zs_eqE e107 k106)) rfl rfl (zs_szsetE (w := 480) e108 (zs_eqE e107 k106) rfl rfl (zs_szsetE (w := 480) e107 k106 rfl rfl (zs_szsetE (w := 8) e103 (zs_eqE e73 (zs_eqE e13 (zs_eqE e11 (zs_eqE e9 (zs_eqE e8 (zs_eqE e7 (zs_eqE e6 (zs_newE (k := 0) e5 (zs_lsetE e4 (zp_len F).1) rfl)))))))) rfl rfl (zs_szsetE (w := 8) e73 (zs_eqE e13 (zs_eqE e11 (zs_eqE e9 (zs_eqE e8 (zs_eqE e7 (zs_eqE e6 (zs_newE (k := 0) e5 (zs_lsetE e4 (zp_len F).1) rfl))))))) rfl rfl (zs_szsetE (w := 8) e13 (zs_eqE e11 (zs_eqE e9 (zs_eqE e8 (zs_eqE e7 (zs_eqE e6 (zs_newE (k := 0) e5 (zs_lsetE e4 (zp_len F).1) rfl)))))) rfl rfl (zs_szsetE (w := 8) e11 (zs_eqE e9 (zs_eqE e8 (zs_eqE e7 (zs_eqE e6 (zs_newE (k := 0) e5 (zs_lsetE e4 (zp_len F).1) rfl))))) rfl rfl (zs_szsetE (w := 8) e9 (zs_eqE e8 (zs_eqE e7 (zs_eqE e6 (zs_newE (k := 0) e5 (zs_lsetE e4 (zp_len F).1) rfl)))) rfl rfl (zs_szsetE (w := 8) e8 (zs_eqE e7 (zs_eqE e6 (zs_newE (k := 0) e5 (zs_lsetE e4 (zp_len F).1) rfl))) rfl rfl (zs_szsetE (w := 8) e7 (zs_eqE e6 (zs_newE (k := 0) e5 (zs_lsetE e4 (zp_len F).1) rfl)) rfl rfl (zs_szsetE (w := 8) e6 (zs_newE (k := 0) e5 (zs_lsetE e4 (zp_len F).1) rfl) rfl rfl (zs_szappE e5 (zs_szsetE (w := 15) e4 (zp_o F 7 rfl) rfl rfl (zp_len F).2) rfl))))))))))))))))))) (by decide)⟩
                    simp [zf_19, hc1, hc2, hc3, hc14, hc74, hc114]
                · skip
                  refine zy_n 2 (mr := zm_m109) (pc' := 101) (ls' := [(4, .int 0), (0, .ref 25), (1, .ref 117), (2, .int a6), (3, .int (-1))]) (st' := [.int 1, .int 5, .ref 26]) rfl rfl ?_
                  refine zy_hS (x := _) (mr := zm_m109) rfl rfl (zh_iast (zs_eqE e113 (zs_eqE e110 (zs_eqE e109 (zs_eqE e108 (zs_eqE e107 k106))))) (by decide)) (fun he122 e122 => ?_)
                  refine zy_n 1 (mr := zm_m109) (pc' := 103) (ls' := [(4, .int 0), (0, .ref 25), (1, .ref 117), (2, .int a6), (3, .int (-1))]) (st' := [.ref 25]) rfl rfl ?_
                  refine zy_h (mr := zm_m109) rfl rfl (zh_get (v := .ref 26) (zs_neE e122 (zs_neE e113 k111 (by decide)) (by decide)) rfl) ?_
                  refine zy_n 4 (mr := zm_m109) (pc' := 112) (ls' := [(4, .int 0), (0, .ref 25), (1, .ref 117), (2, .int a6), (3, .int (-1))]) (st' := [.int (-1), .int 6, .ref 26]) rfl rfl ?_
                  refine zy_hS (x := _) (mr := zm_m109) rfl rfl (zh_iast (zs_eqE e122 (zs_eqE e113 (zs_eqE e110 (zs_eqE e109 (zs_eqE e108 (zs_eqE e107 k106)))))) (by decide)) (fun he123 e123 => ?_)
                  refine zy_n 1 (mr := zm_m109) (pc' := 114) (ls' := [(4, .int 0), (0, .ref 25), (1, .ref 117), (2, .int a6), (3, .int (-1))]) (st' := [.ref 25]) rfl rfl ?_
                  refine zy_h (mr := zm_m109) rfl rfl (zh_get (v := .ref 26) (zs_neE e123 (zs_neE e122 (zs_neE e113 k111 (by decide)) (by decide)) (by decide)) rfl) ?_
                  refine zy_n 4 (mr := zm_m109) (pc' := 123) (ls' := [(4, .int 0), (0, .ref 25), (1, .ref 117), (2, .int a6), (3, .int (-1))]) (st' := [.int 1, .int 7, .ref 26]) rfl rfl ?_
                  have k124 := (zs_eqE e123 (zs_eqE e122 (zs_eqE e113 (zs_eqE e110 (zs_eqE e109 (zs_eqE e108 (zs_eqE e107 k106)))))))
                  refine zy_hS (x := _) (mr := zm_m109) rfl rfl (zh_iast k124 (by decide)) (fun he125 e125 => ?_)
                  refine zy_n 2 (mr := zm_m109) (pc' := 126) (ls' := [(4, .int 0), (0, .ref 25), (1, .ref 117), (2, .int a6), (3, .int (-1))]) (st' := [.ref 25, .ref 25]) rfl rfl ?_
                  have k126 := (zs_neE e125 (zs_neE e123 (zs_neE e122 (zs_neE e113 k111 (by decide)) (by decide)) (by decide)) (by decide))
                  refine zy_h (mr := zm_m109) rfl rfl (zh_get (v := .int 0) k126 rfl) ?_
                  refine zy_n 3 (mr := zm_m109) (pc' := 132) (ls' := [(4, .int 0), (0, .ref 25), (1, .ref 117), (2, .int a6), (3, .int (-1))]) (st' := [.int 1, .ref 25, .int 0]) rfl rfl ?_
                  refine zy_hS (x := .inr (1, [.int 5, .int 1, .ref 26])) (mr := zm_m109) rfl rfl (zh_put k126 rfl rfl) (fun he127 e127 => ?_)
                  refine zy_r (mr := zm_m109) rfl rfl rfl ?_
                  refine zy_r (mr := zm_m107) rfl rfl rfl ?_
                  have k128 := (zs_lsetE e127 (zs_lsetE e125 (zs_lsetE e123 (zs_lsetE e122 (zs_lsetE e113 (zs_lsetE e110 (zs_lsetE e109 (zs_lsetE e108 (zs_lsetE e107 (zs_lsetE e103 (zs_lsetE e73 (zs_lsetE e13 (zs_lsetE e11 (zs_lsetE e9 (zs_lsetE e8 (zs_lsetE e7 (zs_lsetE e6 (zs_lappE e5 (zs_lsetE e4 (zp_len F).1) rfl))))))))))))))))))
                  refine ⟨⟨_, rfl, ?_⟩, fun k hk1 hk2 => ((zs_kE e127 (by omega)).trans ((zs_kE e125 (by omega)).trans ((zs_kE e123 (by omega)).trans ((zs_kE e122 (by omega)).trans ((zs_kE e113 (by omega)).trans ((zs_kE e110 (by omega)).trans ((zs_kE e109 (by omega)).trans ((zs_kE e108 (by omega)).trans ((zs_kE e107 (by omega)).trans ((zs_kE e103 (by omega)).trans ((zs_kE e73 (by omega)).trans ((zs_kE e13 (by omega)).trans ((zs_kE e11 (by omega)).trans ((zs_kE e9 (by omega)).trans ((zs_kE e8 (by omega)).trans ((zs_kE e7 (by omega)).trans ((zs_kE e6 (by omega)).trans ((zs_kappE e5 (zs_lsetE e4 (zp_len F).1) (by omega)).trans ((zs_kE e4 (by omega)).trans rfl))))))))))))))))))), Nat.le_trans (Nat.le_of_eq k128) (by decide), Nat.le_trans (Nat.le_of_eq (zs_szsetE (w := 3) e127 k126 rfl rfl (zs_szsetE (w := 480) e125 k124 rfl rfl (zs_szsetE (w := 480) e123 (zs_eqE e122 (zs_eqE e113 (zs_eqE e110 (zs_eqE e109 (zs_eqE e108 (zs_eqE e107 k106)))))) rfl rfl (zs_szsetE (w := 480) e122 (zs_eqE e113 (zs_eqE e110 (zs_eqE e109 (zs_eqE e108 (zs_eqE e107 k106))))) rfl rfl (zs_szsetE (w := 480) e113 (zs_eqE e110 (zs_eqE e109 (zs_eqE e108 (zs_eqE e107 k106)))) rfl rfl (zs_szsetE (w := 480) e110 (zs_eqE e109 (zs_eqE e108 (zs_eqE e107 k106))) rfl rfl (zs_szsetE (w := 480) e109 (zs_eqE e108 (zs_eqE e107 k106)) rfl rfl (zs_szsetE (w := 480) e108 (zs_eqE e107 k106) rfl rfl (zs_szsetE (w := 480) e107 k106 rfl rfl (zs_szsetE (w := 8) e103 (zs_eqE e73 (zs_eqE e13 (zs_eqE e11 (zs_eqE e9 (zs_eqE e8 (zs_eqE e7 (zs_eqE e6 (zs_newE (k := 0) e5 (zs_lsetE e4 (zp_len F).1) rfl)))))))) rfl rfl (zs_szsetE (w := 8) e73 (zs_eqE e13 (zs_eqE e11 (zs_eqE e9 (zs_eqE e8 (zs_eqE e7 (zs_eqE e6 (zs_newE (k := 0) e5 (zs_lsetE e4 (zp_len F).1) rfl))))))) rfl rfl (zs_szsetE (w := 8) e13 (zs_eqE e11 (zs_eqE e9 (zs_eqE e8 (zs_eqE e7 (zs_eqE e6 (zs_newE (k := 0) e5 (zs_lsetE e4 (zp_len F).1) rfl)))))) rfl rfl (zs_szsetE (w := 8) e11 (zs_eqE e9 (zs_eqE e8 (zs_eqE e7 (zs_eqE e6 (zs_newE (k := 0) e5 (zs_lsetE e4 (zp_len F).1) rfl))))) rfl rfl (zs_szsetE (w := 8) e9 (zs_eqE e8 (zs_eqE e7 (zs_eqE e6 (zs_newE (k := 0) e5 (zs_lsetE e4 (zp_len F).1) rfl)))) rfl rfl (zs_szsetE (w := 8) e8 (zs_eqE e7 (zs_eqE e6 (zs_newE (k := 0) e5 (zs_lsetE e4 (zp_len F).1) rfl))) rfl rfl (zs_szsetE (w := 8) e7 (zs_eqE e6 (zs_newE (k := 0) e5 (zs_lsetE e4 (zp_len F).1) rfl)) rfl rfl (zs_szsetE (w := 8) e6 (zs_newE (k := 0) e5 (zs_lsetE e4 (zp_len F).1) rfl) rfl rfl (zs_szappE e5 (zs_szsetE (w := 15) e4 (zp_o F 7 rfl) rfl rfl (zp_len F).2) rfl))))))))))))))))))) (by decide)⟩
                  simp [zf_19, hc1, hc2, hc3, hc14, hc74, hc114]
      · skip
        refine zy_b (q := (28, [])) (mr := zm_m107) rfl rfl rfl ?_
        refine zy_n 1 (mr := zm_m107) (pc' := 30) (ls' := [(0, .ref 0), (1, .int a1), (2, .int a2), (3, .int a3), (4, .int a4), (5, .int a5), (6, .int a6)]) (st' := [.int (-2)]) rfl rfl ?_
        refine zy_r (mr := zm_m107) rfl rfl rfl ?_
        refine ⟨⟨_, rfl, ?_⟩, fun k hk1 hk2 => rfl, Nat.le_trans (Nat.le_of_eq (zp_len F).1) (by decide), Nat.le_trans (Nat.le_of_eq (zp_len F).2) (by decide)⟩
        simp [zf_19, hc1, hc2, hc3]
    · skip
      refine zy_b (q := (28, [])) (mr := zm_m107) rfl rfl rfl ?_
      refine zy_n 1 (mr := zm_m107) (pc' := 30) (ls' := [(0, .ref 0), (1, .int a1), (2, .int a2), (3, .int a3), (4, .int a4), (5, .int a5), (6, .int a6)]) (st' := [.int (-2)]) rfl rfl ?_
      refine zy_r (mr := zm_m107) rfl rfl rfl ?_
      refine ⟨⟨_, rfl, ?_⟩, fun k hk1 hk2 => rfl, Nat.le_trans (Nat.le_of_eq (zp_len F).1) (by decide), Nat.le_trans (Nat.le_of_eq (zp_len F).2) (by decide)⟩
      simp [zf_19, hc1, hc2]
  · skip
    refine zy_b (q := (28, [])) (mr := zm_m107) rfl rfl rfl ?_
    refine zy_n 1 (mr := zm_m107) (pc' := 30) (ls' := [(0, .ref 0), (1, .int a1), (2, .int a2), (3, .int a3), (4, .int a4), (5, .int a5), (6, .int a6)]) (st' := [.int (-2)]) rfl rfl ?_
    refine zy_r (mr := zm_m107) rfl rfl rfl ?_
    refine ⟨⟨_, rfl, ?_⟩, fun k hk1 hk2 => rfl, Nat.le_trans (Nat.le_of_eq (zp_len F).1) (by decide), Nat.le_trans (Nat.le_of_eq (zp_len F).2) (by decide)⟩
    simp [zf_19, hc1]
set_option maxHeartbeats 4000000 in
set_option maxRecDepth 20000 in
theorem zx_20 {og : Nat → Option zm_C} {h : zm_H} (F : zp_ck h = true) (a1 : Int32) (a2 : Int32) : zm_Y og 30 110 0 [(0, .ref 0), (1, .int a1), (2, .int a2)] [] h (fun r h1 => (∃ v, r = some (.int v) ∧ zf_20 a1 a2 v) ∧ (∀ k : Nat, 55 ≤ k → k < 117 → h1[k]? = h[k]?) ∧ h1.length ≤ 200 ∧ zm_szs h1 ≤ 90000) := by
  refine zy_n 3 (mr := zm_m110) (pc' := 3) (ls' := [(0, .ref 0), (1, .int a1), (2, .int a2)]) (st' := [.int a2, .int a1, .ref 0]) rfl rfl ?_
  refine zy_c (mc := zm_m27) (mr := zm_m110) rfl rfl (zh_v rfl (zp_o F 0 rfl) rfl) rfl rfl ?_
  refine zy_n 2 (mr := zm_m27) (pc' := 2) (ls' := [(0, .ref 0), (1, .int a1), (2, .int a2)]) (st' := [.int a1, .ref 0]) rfl rfl ?_
  refine zy_c (mc := zm_m18) (mr := zm_m27) rfl rfl (zh_v rfl (zp_o F 0 rfl) rfl) rfl rfl ?_
  refine zy_n 3 (mr := zm_m18) (pc' := 3) (ls' := [(0, .ref 0), (1, .int a1)]) (st' := [.ref 0, .int 0, .int a1]) rfl rfl ?_
  refine zy_h (mr := zm_m18) rfl rfl (zh_get (v := .int 0) (zp_o F 0 rfl) rfl) ?_
  refine zy_n 2 (mr := zm_m18) (pc' := 8) (ls' := [(0, .ref 0), (1, .int a1)]) (st' := [.int (-1), .int 0, .int a1]) rfl rfl ?_
  refine zy_c (mc := zm_m10) (mr := zm_m18) rfl rfl rfl rfl rfl (zm_Y.mono (zk_within a1 0 (-1)) ?_)
  rintro r h1 ⟨rfl, ⟨rfl, hc1⟩ | ⟨rfl, hc1⟩⟩
  · exact absurd hc1 (zl_emp (by decide))
  refine zy_r (mr := zm_m18) rfl rfl rfl ?_
  refine zy_b (q := (31, [])) (mr := zm_m27) rfl rfl rfl ?_
  refine zy_n 1 (mr := zm_m27) (pc' := 32) (ls' := [(0, .ref 0), (1, .int a1), (2, .int a2)]) (st' := [.int 0]) rfl rfl ?_
  refine zy_r (mr := zm_m27) rfl rfl rfl ?_
  refine zy_b (q := (9, [])) (mr := zm_m110) rfl rfl rfl ?_
  refine zy_n 1 (mr := zm_m110) (pc' := 11) (ls' := [(0, .ref 0), (1, .int a1), (2, .int a2)]) (st' := [.int (-2)]) rfl rfl ?_
  refine zy_r (mr := zm_m110) rfl rfl rfl ?_
  refine ⟨⟨_, rfl, ?_⟩, fun k hk1 hk2 => rfl, Nat.le_trans (Nat.le_of_eq (zp_len F).1) (by decide), Nat.le_trans (Nat.le_of_eq (zp_len F).2) (by decide)⟩
  simp [zf_20]
