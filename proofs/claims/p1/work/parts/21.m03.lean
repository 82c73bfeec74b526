set_option maxHeartbeats 4000000 in
set_option maxRecDepth 20000 in
theorem zn_42 {og : Nat → Option zm_C} {h h0 : zm_H} (F : zp_ck h = true) (K : ∀ k : Nat, 55 ≤ k → k < 117 → h0[k]? = h[k]?) (KL : h0.length ≤ 200) (KS : zm_szs h0 ≤ 90000) (a1 : Int32) (a2 : Int32) (a3 : Int32) : zm_Y og 30 181 0 [(0, .ref 55), (1, .int a1), (2, .int a2), (3, .int a3)] [] h0 (fun r h1 => (∃ v, r = some (.int v) ∧ zf_42 a1 a2 a3 v) ∧ h1.length ≤ 300 ∧ zm_szs h1 ≤ 200000) := by
  by_cases hz : zw a1 0 3
  · rcases zl_4 hz with rfl | rfl | rfl | rfl
    · skip
      refine zy_n 2 (mr := zm_m181) (pc' := 2) (ls' := [(0, .ref 55), (1, .int 0), (2, .int a2), (3, .int a3)]) (st' := [.int 0, .ref 55]) rfl rfl ?_
      refine zy_hS (x := .inr (11, [.int 0, .ref 56, .ref 57, .ref 58, .ref 59, .int 0, .int 0, .int 0, .int 0, .int 0, .int 0, .int 20, .int 30, .int 5, .int 2, .ref 60, .ref 61, .ref 62, .ref 63, .ref 64, .ref 65, .ref 66, .ref 67, .ref 68, .ref 69, .ref 70, .ref 71, .ref 72, .ref 73, .ref 74, .ref 75, .ref 76, .ref 77, .ref 78, .ref 79, .ref 80, .ref 81, .ref 82, .ref 83, .ref 84, .ref 85, .ref 86, .ref 87, .ref 88, .ref 89, .ref 90, .ref 91, .ref 92, .ref 93, .ref 94, .int 0, .int (-1), .ref 95, .ref 96, .ref 97, .ref 98, .int 0, .int 0, .int 0, .int 0, .int 0, .int 0, .int 0, .int 0, .int 0, .int 0, .int 0, .int 0, .int 0, .long 0, .int 0, .int 0, .int 0, .long 0, .long 0, .long 0, .long 0, .int 0, .int 0, .int 0, .int 0, .ref 99, .int 0, .int 0, .int 0, .ref 100, .ref 101, .ref 102, .ref 103, .ref 104, .ref 105, .ref 106, .ref 107, .ref 108, .ref 109, .ref 110, .ref 111, .ref 112, .ref 113, .ref 114, .int 0, .int 0, .int 0, .long 0, .long 0, .int 0, .ref 115, .ref 116, .int 0])) (mr := zm_m181) rfl rfl (zh_put ((K 55 (by decide) (by decide)).trans (zp_o F 10 rfl)) rfl rfl) (fun he1 e1 => ?_)
      refine zy_n 1 (mr := zm_m181) (pc' := 6) (ls' := [(0, .ref 55), (1, .int 0), (2, .int a2), (3, .int a3)]) (st' := [.int 0]) rfl rfl ?_
      refine zy_c (mc := zm_m182) (mr := zm_m181) rfl rfl rfl rfl rfl ?_
      refine zy_n 4 (mr := zm_m182) (pc' := 6) (ls' := [(0, .int 0)]) (st' := [.long 3, .long 0, .long 0]) rfl rfl ?_
      refine zy_c (mc := zm_m183) (mr := zm_m182) rfl rfl rfl rfl rfl (zm_Y.mono (zk_in 0 0 3 (by decide) (by decide) (by decide)) ?_)
      rintro r h1 ⟨rfl, ⟨rfl, hc2⟩ | ⟨rfl, hc2⟩⟩
      rotate_left
      · exact absurd hz hc2
      refine zy_r (mr := zm_m182) rfl rfl rfl ?_
      refine zy_b (q := (12, [])) (mr := zm_m181) rfl rfl rfl ?_
      refine zy_n 4 (mr := zm_m181) (pc' := 18) (ls' := [(0, .ref 55), (1, .int 0), (2, .int a2), (3, .int a3)]) (st' := [.long 3, .long 0, .long a2.toInt64]) rfl rfl ?_
      refine zy_c (mc := zm_m183) (mr := zm_m181) rfl rfl rfl rfl rfl (zm_Y.mono (zk_in a2 0 3 rfl (by decide) (by decide)) ?_)
      rintro r h1 ⟨rfl, ⟨rfl, hc3⟩ | ⟨rfl, hc3⟩⟩
      · skip
        refine zy_b (q := (24, [])) (mr := zm_m181) rfl rfl rfl ?_
        refine zy_n 2 (mr := zm_m181) (pc' := 27) (ls' := [(0, .ref 55), (1, .int 0), (2, .int a2), (3, .int a3)]) (st' := [.int 60, .int a3]) rfl rfl ?_
        refine zy_b (mr := zm_m181) rfl rfl rfl (zc_le (fun hc4 => ?_) (fun hc4 => ?_))
        · skip
          refine zy_n 1 (mr := zm_m181) (pc' := 34) (ls' := [(0, .ref 55), (1, .int 0), (2, .int a2), (3, .int a3)]) (st' := [.int a3]) rfl rfl ?_
          refine zy_b (mr := zm_m181) rfl rfl rfl (zi_ge (fun hc5 => ?_) (fun hc5 => ?_))
          · skip
            refine zy_n 1 (mr := zm_m181) (pc' := 41) (ls' := [(0, .ref 55), (1, .int 0), (2, .int a2), (3, .int a3)]) (st' := [.ref 55]) rfl rfl ?_
            refine zy_h (mr := zm_m181) rfl rfl (zh_get (v := .ref 56) (zs_eqE e1 ((K 55 (by decide) (by decide)).trans (zp_o F 10 rfl))) rfl) ?_
            refine zy_n 2 (mr := zm_m181) (pc' := 46) (ls' := [(0, .ref 55), (1, .int 0), (2, .int a2), (3, .int a3)]) (st' := [.int a2, .int 0, .ref 56]) rfl rfl ?_
            refine zy_hS (x := _) (mr := zm_m181) rfl rfl (zh_iast (zs_neE e1 ((K 56 (by decide) (by decide)).trans (zp_i F 34 rfl)) (by decide)) (by decide)) (fun he6 e6 => ?_)
            refine zy_n 1 (mr := zm_m181) (pc' := 48) (ls' := [(0, .ref 55), (1, .int 0), (2, .int a2), (3, .int a3)]) (st' := [.ref 55]) rfl rfl ?_
            have k7 := (zs_neE e6 (zs_eqE e1 ((K 55 (by decide) (by decide)).trans (zp_o F 10 rfl))) (by decide))
            refine zy_h (mr := zm_m181) rfl rfl (zh_get (v := .ref 57) k7 rfl) ?_
            refine zy_n 2 (mr := zm_m181) (pc' := 53) (ls' := [(0, .ref 55), (1, .int 0), (2, .int a2), (3, .int a3)]) (st' := [.int a3, .int 0, .ref 57]) rfl rfl ?_
            have k8 := (zs_neE e6 (zs_neE e1 ((K 57 (by decide) (by decide)).trans (zp_i F 35 rfl)) (by decide)) (by decide))
            refine zy_hS (x := _) (mr := zm_m181) rfl rfl (zh_iast k8 (by decide)) (fun he9 e9 => ?_)
            refine zy_n 4 (mr := zm_m181) (pc' := 61) (ls' := [(4, .int 0), (0, .ref 55), (1, .int 0), (2, .int a2), (3, .int a3)]) (st' := [.int 60, .int 0]) rfl rfl ?_
            refine zy_b (q := (64, [])) (mr := zm_m181) rfl rfl rfl ?_
            refine zy_n 1 (mr := zm_m181) (pc' := 65) (ls' := [(4, .int 0), (0, .ref 55), (1, .int 0), (2, .int a2), (3, .int a3)]) (st' := [.ref 55]) rfl rfl ?_
            refine zy_h (mr := zm_m181) rfl rfl (zh_get (v := .ref 58) (zs_neE e9 k7 (by decide)) rfl) ?_
            refine zy_n 6 (mr := zm_m181) (pc' := 76) (ls' := [(4, .int 0), (0, .ref 55), (1, .int 0), (2, .int a2), (3, .int a3)]) (st' := [.long 0, .int 0, .ref 58]) rfl rfl ?_
            have k10 := (zs_neE e9 (zs_neE e6 (zs_neE e1 ((K 58 (by decide) (by decide)).trans (zp_l F 8 rfl)) (by decide)) (by decide)) (by decide))
            refine zy_hS (x := _) (mr := zm_m181) rfl rfl (zh_last k10 (by decide)) (fun he11 e11 => ?_)
            refine zy_n 4 (mr := zm_m181) (pc' := 61) (ls' := [(4, .int 1), (0, .ref 55), (1, .int 0), (2, .int a2), (3, .int a3)]) (st' := [.int 60, .int 1]) rfl rfl ?_
            refine zy_b (q := (64, [])) (mr := zm_m181) rfl rfl rfl ?_
            refine zy_n 1 (mr := zm_m181) (pc' := 65) (ls' := [(4, .int 1), (0, .ref 55), (1, .int 0), (2, .int a2), (3, .int a3)]) (st' := [.ref 55]) rfl rfl ?_
            refine zy_h (mr := zm_m181) rfl rfl (zh_get (v := .ref 58) (zs_neE e11 (zs_neE e9 k7 (by decide)) (by decide)) rfl) ?_
            refine zy_n 6 (mr := zm_m181) (pc' := 76) (ls' := [(4, .int 1), (0, .ref 55), (1, .int 0), (2, .int a2), (3, .int a3)]) (st' := [.long 0, .int 1, .ref 58]) rfl rfl ?_
            refine zy_hS (x := _) (mr := zm_m181) rfl rfl (zh_last (zs_eqE e11 k10) (by decide)) (fun he12 e12 => ?_)
            refine zy_n 4 (mr := zm_m181) (pc' := 61) (ls' := [(4, .int 2), (0, .ref 55), (1, .int 0), (2, .int a2), (3, .int a3)]) (st' := [.int 60, .int 2]) rfl rfl ?_
            refine zy_b (q := (64, [])) (mr := zm_m181) rfl rfl rfl ?_
            refine zy_n 1 (mr := zm_m181) (pc' := 65) (ls' := [(4, .int 2), (0, .ref 55), (1, .int 0), (2, .int a2), (3, .int a3)]) (st' := [.ref 55]) rfl rfl ?_
            as_aux_lemma =>
              refine zy_h (mr := zm_m181) rfl rfl (zh_get (v := .ref 58) (zs_neE e12 (zs_neE e11 (zs_neE e9 k7 (by decide)) (by decide)) (by decide)) rfl) ?_
              refine zy_n 6 (mr := zm_m181) (pc' := 76) (ls' := [(4, .int 2), (0, .ref 55), (1, .int 0), (2, .int a2), (3, .int a3)]) (st' := [.long 0, .int 2, .ref 58]) rfl rfl ?_
              refine zy_hS (x := _) (mr := zm_m181) rfl rfl (zh_last (zs_eqE e12 (zs_eqE e11 k10)) (by decide)) (fun he13 e13 => ?_)
              refine zy_n 4 (mr := zm_m181) (pc' := 61) (ls' := [(4, .int 3), (0, .ref 55), (1, .int 0), (2, .int a2), (3, .int a3)]) (st' := [.int 60, .int 3]) rfl rfl ?_
              refine zy_b (q := (64, [])) (mr := zm_m181) rfl rfl rfl ?_
              refine zy_n 1 (mr := zm_m181) (pc' := 65) (ls' := [(4, .int 3), (0, .ref 55), (1, .int 0), (2, .int a2), (3, .int a3)]) (st' := [.ref 55]) rfl rfl ?_
              have k14 := (zs_neE e13 (zs_neE e12 (zs_neE e11 (zs_neE e9 k7 (by decide)) (by decide)) (by decide)) (by decide))
              refine zy_h (mr := zm_m181) rfl rfl (zh_get (v := .ref 58) k14 rfl) ?_
              refine zy_n 6 (mr := zm_m181) (pc' := 76) (ls' := [(4, .int 3), (0, .ref 55), (1, .int 0), (2, .int a2), (3, .int a3)]) (st' := [.long 0, .int 3, .ref 58]) rfl rfl ?_
              refine zy_hS (x := _) (mr := zm_m181) rfl rfl (zh_last (zs_eqE e13 (zs_eqE e12 (zs_eqE e11 k10))) (by decide)) (fun he15 e15 => ?_)
              refine zy_n 4 (mr := zm_m181) (pc' := 61) (ls' := [(4, .int 4), (0, .ref 55), (1, .int 0), (2, .int a2), (3, .int a3)]) (st' := [.int 60, .int 4]) rfl rfl ?_
              refine zy_b (q := (64, [])) (mr := zm_m181) rfl rfl rfl ?_
              refine zy_n 1 (mr := zm_m181) (pc' := 65) (ls' := [(4, .int 4), (0, .ref 55), (1, .int 0), (2, .int a2), (3, .int a3)]) (st' := [.ref 55]) rfl rfl ?_
              refine zy_h (mr := zm_m181) rfl rfl (zh_get (v := .ref 58) (zs_neE e15 k14 (by decide)) rfl) ?_
              refine zy_n 6 (mr := zm_m181) (pc' := 76) (ls' := [(4, .int 4), (0, .ref 55), (1, .int 0), (2, .int a2), (3, .int a3)]) (st' := [.long 0, .int 4, .ref 58]) rfl rfl ?_
              refine zy_hS (x := _) (mr := zm_m181) rfl rfl (zh_last (zs_eqE e15 (zs_eqE e13 (zs_eqE e12 (zs_eqE e11 k10)))) (by decide)) (fun he16 e16 => ?_)
              refine zy_n 4 (mr := zm_m181) (pc' := 61) (ls' := [(4, .int 5), (0, .ref 55), (1, .int 0), (2, .int a2), (3, .int a3)]) (st' := [.int 60, .int 5]) rfl rfl ?_
              refine zy_b (q := (64, [])) (mr := zm_m181) rfl rfl rfl ?_
              refine zy_n 1 (mr := zm_m181) (pc' := 65) (ls' := [(4, .int 5), (0, .ref 55), (1, .int 0), (2, .int a2), (3, .int a3)]) (st' := [.ref 55]) rfl rfl ?_
              refine zy_h (mr := zm_m181) rfl rfl (zh_get (v := .ref 58) (zs_neE e16 (zs_neE e15 k14 (by decide)) (by decide)) rfl) ?_
              refine zy_n 6 (mr := zm_m181) (pc' := 76) (ls' := [(4, .int 5), (0, .ref 55), (1, .int 0), (2, .int a2), (3, .int a3)]) (st' := [.long 0, .int 5, .ref 58]) rfl rfl ?_
              refine zy_hS (x := _) (mr := zm_m181) rfl rfl (zh_last (zs_eqE e16 (zs_eqE e15 (zs_eqE e13 (zs_eqE e12 (zs_eqE e11 k10))))) (by decide)) (fun he17 e17 => ?_)
              refine zy_n 4 (mr := zm_m181) (pc' := 61) (ls' := [(4, .int 6), (0, .ref 55), (1, .int 0), (2, .int a2), (3, .int a3)]) (st' := [.int 60, .int 6]) rfl rfl ?_
              refine zy_b (q := (64, [])) (mr := zm_m181) rfl rfl rfl ?_
              refine zy_n 1 (mr := zm_m181) (pc' := 65) (ls' := [(4, .int 6), (0, .ref 55), (1, .int 0), (2, .int a2), (3, .int a3)]) (st' := [.ref 55]) rfl rfl ?_
              refine zy_h (mr := zm_m181) rfl rfl (zh_get (v := .ref 58) (zs_neE e17 (zs_neE e16 (zs_neE e15 k14 (by decide)) (by decide)) (by decide)) rfl) ?_
              refine zy_n 6 (mr := zm_m181) (pc' := 76) (ls' := [(4, .int 6), (0, .ref 55), (1, .int 0), (2, .int a2), (3, .int a3)]) (st' := [.long 0, .int 6, .ref 58]) rfl rfl ?_
              refine zy_hS (x := _) (mr := zm_m181) rfl rfl (zh_last (zs_eqE e17 (zs_eqE e16 (zs_eqE e15 (zs_eqE e13 (zs_eqE e12 (zs_eqE e11 k10)))))) (by decide)) (fun he18 e18 => ?_)
              refine zy_n 4 (mr := zm_m181) (pc' := 61) (ls' := [(4, .int 7), (0, .ref 55), (1, .int 0), (2, .int a2), (3, .int a3)]) (st' := [.int 60, .int 7]) rfl rfl ?_
              refine zy_b (q := (64, [])) (mr := zm_m181) rfl rfl rfl ?_
              refine zy_n 1 (mr := zm_m181) (pc' := 65) (ls' := [(4, .int 7), (0, .ref 55), (1, .int 0), (2, .int a2), (3, .int a3)]) (st' := [.ref 55]) rfl rfl ?_
              have k19 := (zs_neE e18 (zs_neE e17 (zs_neE e16 (zs_neE e15 k14 (by decide)) (by decide)) (by decide)) (by decide))
              refine zy_h (mr := zm_m181) rfl rfl (zh_get (v := .ref 58) k19 rfl) ?_
              refine zy_n 6 (mr := zm_m181) (pc' := 76) (ls' := [(4, .int 7), (0, .ref 55), (1, .int 0), (2, .int a2), (3, .int a3)]) (st' := [.long 0, .int 7, .ref 58]) rfl rfl ?_
              have k20 := (zs_eqE e18 (zs_eqE e17 (zs_eqE e16 (zs_eqE e15 (zs_eqE e13 (zs_eqE e12 (zs_eqE e11 k10)))))))
              refine zy_hS (x := _) (mr := zm_m181) rfl rfl (zh_last k20 (by decide)) (fun he21 e21 => ?_)
              refine zy_n 4 (mr := zm_m181) (pc' := 61) (ls' := [(4, .int 8), (0, .ref 55), (1, .int 0), (2, .int a2), (3, .int a3)]) (st' := [.int 60, .int 8]) rfl rfl ?_
              refine zy_b (q := (64, [])) (mr := zm_m181) rfl rfl rfl ?_
              refine zy_n 1 (mr := zm_m181) (pc' := 65) (ls' := [(4, .int 8), (0, .ref 55), (1, .int 0), (2, .int a2), (3, .int a3)]) (st' := [.ref 55]) rfl rfl ?_
              refine zy_h (mr := zm_m181) rfl rfl (zh_get (v := .ref 58) (zs_neE e21 k19 (by decide)) rfl) ?_
              refine zy_n 6 (mr := zm_m181) (pc' := 76) (ls' := [(4, .int 8), (0, .ref 55), (1, .int 0), (2, .int a2), (3, .int a3)]) (st' := [.long 0, .int 8, .ref 58]) rfl rfl ?_
              refine zy_hS (x := _) (mr := zm_m181) rfl rfl (zh_last (zs_eqE e21 k20) (by decide)) (fun he22 e22 => ?_)
              refine zy_n 4 (mr := zm_m181) (pc' := 61) (ls' := [(4, .int 9), (0, .ref 55), (1, .int 0), (2, .int a2), (3, .int a3)]) (st' := [.int 60, .int 9]) rfl rfl ?_
              refine zy_b (q := (64, [])) (mr := zm_m181) rfl rfl rfl ?_
              refine zy_n 1 (mr := zm_m181) (pc' := 65) (ls' := [(4, .int 9), (0, .ref 55), (1, .int 0), (2, .int a2), (3, .int a3)]) (st' := [.ref 55]) rfl rfl ?_
              refine zy_h (mr := zm_m181) rfl rfl (zh_get (v := .ref 58) (zs_neE e22 (zs_neE e21 k19 (by decide)) (by decide)) rfl) ?_
              refine zy_n 6 (mr := zm_m181) (pc' := 76) (ls' := [(4, .int 9), (0, .ref 55), (1, .int 0), (2, .int a2), (3, .int a3)]) (st' := [.long 0, .int 9, .ref 58]) rfl rfl ?_
              refine zy_hS (x := _) (mr := zm_m181) rfl rfl (zh_last (zs_eqE e22 (zs_eqE e21 k20)) (by decide)) (fun he23 e23 => ?_)
              refine zy_n 4 (mr := zm_m181) (pc' := 61) (ls' := [(4, .int 10), (0, .ref 55), (1, .int 0), (2, .int a2), (3, .int a3)]) (st' := [.int 60, .int 10]) rfl rfl ?_
              refine zy_b (q := (64, [])) (mr := zm_m181) rfl rfl rfl ?_
              refine zy_n 1 (mr := zm_m181) (pc' := 65) (ls' := [(4, .int 10), (0, .ref 55), (1, .int 0), (2, .int a2), (3, .int a3)]) (st' := [.ref 55]) rfl rfl ?_
              as_aux_lemma =>
                refine zy_h (mr := zm_m181) rfl rfl (zh_get (v := .ref 58) (zs_neE e23 (zs_neE e22 (zs_neE e21 k19 (by decide)) (by decide)) (by decide)) rfl) ?_
                refine zy_n 6 (mr := zm_m181) (pc' := 76) (ls' := [(4, .int 10), (0, .ref 55), (1, .int 0), (2, .int a2), (3, .int a3)]) (st' := [.long 0, .int 10, .ref 58]) rfl rfl ?_
                refine zy_hS (x := _) (mr := zm_m181) rfl rfl (zh_last (zs_eqE e23 (zs_eqE e22 (zs_eqE e21 k20))) (by decide)) (fun he24 e24 => ?_)
                refine zy_n 4 (mr := zm_m181) (pc' := 61) (ls' := [(4, .int 11), (0, .ref 55), (1, .int 0), (2, .int a2), (3, .int a3)]) (st' := [.int 60, .int 11]) rfl rfl ?_
                refine zy_b (q := (64, [])) (mr := zm_m181) rfl rfl rfl ?_
                refine zy_n 1 (mr := zm_m181) (pc' := 65) (ls' := [(4, .int 11), (0, .ref 55), (1, .int 0), (2, .int a2), (3, .int a3)]) (st' := [.ref 55]) rfl rfl ?_
                have k25 := (zs_neE e24 (zs_neE e23 (zs_neE e22 (zs_neE e21 k19 (by decide)) (by decide)) (by decide)) (by decide))
                refine zy_h (mr := zm_m181) rfl rfl (zh_get (v := .ref 58) k25 rfl) ?_
                refine zy_n 6 (mr := zm_m181) (pc' := 76) (ls' := [(4, .int 11), (0, .ref 55), (1, .int 0), (2, .int a2), (3, .int a3)]) (st' := [.long 0, .int 11, .ref 58]) rfl rfl ?_
                refine zy_hS (x := _) (mr := zm_m181) rfl rfl (zh_last (zs_eqE e24 (zs_eqE e23 (zs_eqE e22 (zs_eqE e21 k20)))) (by decide)) (fun he26 e26 => ?_)
                refine zy_n 4 (mr := zm_m181) (pc' := 61) (ls' := [(4, .int 12), (0, .ref 55), (1, .int 0), (2, .int a2), (3, .int a3)]) (st' := [.int 60, .int 12]) rfl rfl ?_
                refine zy_b (q := (64, [])) (mr := zm_m181) rfl rfl rfl ?_
                refine zy_n 1 (mr := zm_m181) (pc' := 65) (ls' := [(4, .int 12), (0, .ref 55), (1, .int 0), (2, .int a2), (3, .int a3)]) (st' := [.ref 55]) rfl rfl ?_
                refine zy_h (mr := zm_m181) rfl rfl (zh_get (v := .ref 58) (zs_neE e26 k25 (by decide)) rfl) ?_
                refine zy_n 6 (mr := zm_m181) (pc' := 76) (ls' := [(4, .int 12), (0, .ref 55), (1, .int 0), (2, .int a2), (3, .int a3)]) (st' := [.long 0, .int 12, .ref 58]) rfl rfl ?_
                refine zy_hS (x := _) (mr := zm_m181) rfl rfl (zh_last (zs_eqE e26 (zs_eqE e24 (zs_eqE e23 (zs_eqE e22 (zs_eqE e21 k20))))) (by decide)) (fun he27 e27 => ?_)
                refine zy_n 4 (mr := zm_m181) (pc' := 61) (ls' := [(4, .int 13), (0, .ref 55), (1, .int 0), (2, .int a2), (3, .int a3)]) (st' := [.int 60, .int 13]) rfl rfl ?_
                refine zy_b (q := (64, [])) (mr := zm_m181) rfl rfl rfl ?_
                refine zy_n 1 (mr := zm_m181) (pc' := 65) (ls' := [(4, .int 13), (0, .ref 55), (1, .int 0), (2, .int a2), (3, .int a3)]) (st' := [.ref 55]) rfl rfl ?_
                refine zy_h (mr := zm_m181) rfl rfl (zh_get (v := .ref 58) (zs_neE e27 (zs_neE e26 k25 (by decide)) (by decide)) rfl) ?_
                refine zy_n 6 (mr := zm_m181) (pc' := 76) (ls' := [(4, .int 13), (0, .ref 55), (1, .int 0), (2, .int a2), (3, .int a3)]) (st' := [.long 0, .int 13, .ref 58]) rfl rfl ?_
                refine zy_hS (x := _) (mr := zm_m181) rfl rfl (zh_last (zs_eqE e27 (zs_eqE e26 (zs_eqE e24 (zs_eqE e23 (zs_eqE e22 (zs_eqE e21 k20)))))) (by decide)) (fun he28 e28 => ?_)
                refine zy_n 4 (mr := zm_m181) (pc' := 61) (ls' := [(4, .int 14), (0, .ref 55), (1, .int 0), (2, .int a2), (3, .int a3)]) (st' := [.int 60, .int 14]) rfl rfl ?_
                refine zy_b (q := (64, [])) (mr := zm_m181) rfl rfl rfl ?_
                refine zy_n 1 (mr := zm_m181) (pc' := 65) (ls' := [(4, .int 14), (0, .ref 55), (1, .int 0), (2, .int a2), (3, .int a3)]) (st' := [.ref 55]) rfl rfl ?_
                refine zy_h (mr := zm_m181) rfl rfl (zh_get (v := .ref 58) (zs_neE e28 (zs_neE e27 (zs_neE e26 k25 (by decide)) (by decide)) (by decide)) rfl) ?_
                refine zy_n 6 (mr := zm_m181) (pc' := 76) (ls' := [(4, .int 14), (0, .ref 55), (1, .int 0), (2, .int a2), (3, .int a3)]) (st' := [.long 0, .int 14, .ref 58]) rfl rfl ?_
                have k29 := (zs_eqE e28 (zs_eqE e27 (zs_eqE e26 (zs_eqE e24 (zs_eqE e23 (zs_eqE e22 (zs_eqE e21 k20)))))))
                refine zy_hS (x := _) (mr := zm_m181) rfl rfl (zh_last k29 (by decide)) (fun he30 e30 => ?_)
                refine zy_n 4 (mr := zm_m181) (pc' := 61) (ls' := [(4, .int 15), (0, .ref 55), (1, .int 0), (2, .int a2), (3, .int a3)]) (st' := [.int 60, .int 15]) rfl rfl ?_
                refine zy_b (q := (64, [])) (mr := zm_m181) rfl rfl rfl ?_
                refine zy_n 1 (mr := zm_m181) (pc' := 65) (ls' := [(4, .int 15), (0, .ref 55), (1, .int 0), (2, .int a2), (3, .int a3)]) (st' := [.ref 55]) rfl rfl ?_
                have k31 := (zs_neE e30 (zs_neE e28 (zs_neE e27 (zs_neE e26 k25 (by decide)) (by decide)) (by decide)) (by decide))
                refine zy_h (mr := zm_m181) rfl rfl (zh_get (v := .ref 58) k31 rfl) ?_
                refine zy_n 6 (mr := zm_m181) (pc' := 76) (ls' := [(4, .int 15), (0, .ref 55), (1, .int 0), (2, .int a2), (3, .int a3)]) (st' := [.long 0, .int 15, .ref 58]) rfl rfl ?_
                refine zy_hS (x := _) (mr := zm_m181) rfl rfl (zh_last (zs_eqE e30 k29) (by decide)) (fun he32 e32 => ?_)
                refine zy_n 4 (mr := zm_m181) (pc' := 61) (ls' := [(4, .int 16), (0, .ref 55), (1, .int 0), (2, .int a2), (3, .int a3)]) (st' := [.int 60, .int 16]) rfl rfl ?_
                refine zy_b (q := (64, [])) (mr := zm_m181) rfl rfl rfl ?_
                refine zy_n 1 (mr := zm_m181) (pc' := 65) (ls' := [(4, .int 16), (0, .ref 55), (1, .int 0), (2, .int a2), (3, .int a3)]) (st' := [.ref 55]) rfl rfl ?_
                refine zy_h (mr := zm_m181) rfl rfl (zh_get (v := .ref 58) (zs_neE e32 k31 (by decide)) rfl) ?_
                refine zy_n 6 (mr := zm_m181) (pc' := 76) (ls' := [(4, .int 16), (0, .ref 55), (1, .int 0), (2, .int a2), (3, .int a3)]) (st' := [.long 0, .int 16, .ref 58]) rfl rfl ?_
                refine zy_hS (x := _) (mr := zm_m181) rfl rfl (zh_last (zs_eqE e32 (zs_eqE e30 k29)) (by decide)) (fun he33 e33 => ?_)
                refine zy_n 4 (mr := zm_m181) (pc' := 61) (ls' := [(4, .int 17), (0, .ref 55), (1, .int 0), (2, .int a2), (3, .int a3)]) (st' := [.int 60, .int 17]) rfl rfl ?_
                refine zy_b (q := (64, [])) (mr := zm_m181) rfl rfl rfl ?_
                refine zy_n 1 (mr := zm_m181) (pc' := 65) (ls' := [(4, .int 17), (0, .ref 55), (1, .int 0), (2, .int a2), (3, .int a3)]) (st' := [.ref 55]) rfl rfl ?_
                refine zy_h (mr := zm_m181) rfl rfl (zh_get (v := .ref 58) (zs_neE e33 (zs_neE e32 k31 (by decide)) (by decide)) rfl) ?_
                refine zy_n 6 (mr := zm_m181) (pc' := 76) (ls' := [(4, .int 17), (0, .ref 55), (1, .int 0), (2, .int a2), (3, .int a3)]) (st' := [.long 0, .int 17, .ref 58]) rfl rfl ?_
                refine zy_hS (x := _) (mr := zm_m181) rfl rfl (zh_last (zs_eqE e33 (zs_eqE e32 (zs_eqE e30 k29))) (by decide)) (fun he34 e34 => ?_)
                refine zy_n 4 (mr := zm_m181) (pc' := 61) (ls' := [(4, .int 18), (0, .ref 55), (1, .int 0), (2, .int a2), (3, .int a3)]) (st' := [.int 60, .int 18]) rfl rfl ?_
                refine zy_b (q := (64, [])) (mr := zm_m181) rfl rfl rfl ?_
                refine zy_n 1 (mr := zm_m181) (pc' := 65) (ls' := [(4, .int 18), (0, .ref 55), (1, .int 0), (2, .int a2), (3, .int a3)]) (st' := [.ref 55]) rfl rfl ?_
                as_aux_lemma =>
                  refine zy_h (mr := zm_m181) rfl rfl (zh_get (v := .ref 58) (zs_neE e34 (zs_neE e33 (zs_neE e32 k31 (by decide)) (by decide)) (by decide)) rfl) ?_
                  refine zy_n 6 (mr := zm_m181) (pc' := 76) (ls' := [(4, .int 18), (0, .ref 55), (1, .int 0), (2, .int a2), (3, .int a3)]) (st' := [.long 0, .int 18, .ref 58]) rfl rfl ?_
                  refine zy_hS (x := _) (mr := zm_m181) rfl rfl (zh_last (zs_eqE e34 (zs_eqE e33 (zs_eqE e32 (zs_eqE e30 k29)))) (by decide)) (fun he35 e35 => ?_)
                  refine zy_n 4 (mr := zm_m181) (pc' := 61) (ls' := [(4, .int 19), (0, .ref 55), (1, .int 0), (2, .int a2), (3, .int a3)]) (st' := [.int 60, .int 19]) rfl rfl ?_
                  refine zy_b (q := (64, [])) (mr := zm_m181) rfl rfl rfl ?_
                  refine zy_n 1 (mr := zm_m181) (pc' := 65) (ls' := [(4, .int 19), (0, .ref 55), (1, .int 0), (2, .int a2), (3, .int a3)]) (st' := [.ref 55]) rfl rfl ?_
                  have k36 := (zs_neE e35 (zs_neE e34 (zs_neE e33 (zs_neE e32 k31 (by decide)) (by decide)) (by decide)) (by decide))
                  refine zy_h (mr := zm_m181) rfl rfl (zh_get (v := .ref 58) k36 rfl) ?_
                  refine zy_n 6 (mr := zm_m181) (pc' := 76) (ls' := [(4, .int 19), (0, .ref 55), (1, .int 0), (2, .int a2), (3, .int a3)]) (st' := [.long 0, .int 19, .ref 58]) rfl rfl ?_
                  refine zy_hS (x := _) (mr := zm_m181) rfl rfl (zh_last (zs_eqE e35 (zs_eqE e34 (zs_eqE e33 (zs_eqE e32 (zs_eqE e30 k29))))) (by decide)) (fun he37 e37 => ?_)
                  refine zy_n 4 (mr := zm_m181) (pc' := 61) (ls' := [(4, .int 20), (0, .ref 55), (1, .int 0), (2, .int a2), (3, .int a3)]) (st' := [.int 60, .int 20]) rfl rfl ?_
                  refine zy_b (q := (64, [])) (mr := zm_m181) rfl rfl rfl ?_
                  refine zy_n 1 (mr := zm_m181) (pc' := 65) (ls' := [(4, .int 20), (0, .ref 55), (1, .int 0), (2, .int a2), (3, .int a3)]) (st' := [.ref 55]) rfl rfl ?_
                  refine zy_h (mr := zm_m181) rfl rfl (zh_get (v := .ref 58) (zs_neE e37 k36 (by decide)) rfl) ?_
                  refine zy_n 6 (mr := zm_m181) (pc' := 76) (ls' := [(4, .int 20), (0, .ref 55), (1, .int 0), (2, .int a2), (3, .int a3)]) (st' := [.long 0, .int 20, .ref 58]) rfl rfl ?_
                  refine zy_hS (x := _) (mr := zm_m181) rfl rfl (zh_last (zs_eqE e37 (zs_eqE e35 (zs_eqE e34 (zs_eqE e33 (zs_eqE e32 (zs_eqE e30 k29)))))) (by decide)) (fun he38 e38 => ?_)
                  refine zy_n 4 (mr := zm_m181) (pc' := 61) (ls' := [(4, .int 21), (0, .ref 55), (1, .int 0), (2, .int a2), (3, .int a3)]) (st' := [.int 60, .int 21]) rfl rfl ?_
                  refine zy_b (q := (64, [])) (mr := zm_m181) rfl rfl rfl ?_
                  refine zy_n 1 (mr := zm_m181) (pc' := 65) (ls' := [(4, .int 21), (0, .ref 55), (1, .int 0), (2, .int a2), (3, .int a3)]) (st' := [.ref 55]) rfl rfl ?_
                  refine zy_h (mr := zm_m181) rfl rfl (zh_get (v := .ref 58) (zs_neE e38 (zs_neE e37 k36 (by decide)) (by decide)) rfl) ?_
                  refine zy_n 6 (mr := zm_m181) (pc' := 76) (ls' := [(4, .int 21), (0, .ref 55), (1, .int 0), (2, .int a2), (3, .int a3)]) (st' := [.long 0, .int 21, .ref 58]) rfl rfl ?_
                  have k39 := (zs_eqE e38 (zs_eqE e37 (zs_eqE e35 (zs_eqE e34 (zs_eqE e33 (zs_eqE e32 (zs_eqE e30 k29)))))))
                  refine zy_hS (x := _) (mr := zm_m181) rfl rfl (zh_last k39 (by decide)) (fun he40 e40 => ?_)
                  refine zy_n 4 (mr := zm_m181) (pc' := 61) (ls' := [(4, .int 22), (0, .ref 55), (1, .int 0), (2, .int a2), (3, .int a3)]) (st' := [.int 60, .int 22]) rfl rfl ?_
                  refine zy_b (q := (64, [])) (mr := zm_m181) rfl rfl rfl ?_
                  refine zy_n 1 (mr := zm_m181) (pc' := 65) (ls' := [(4, .int 22), (0, .ref 55), (1, .int 0), (2, .int a2), (3, .int a3)]) (st' := [.ref 55]) rfl rfl ?_
                  refine zy_h (mr := zm_m181) rfl rfl (zh_get (v := .ref 58) (zs_neE e40 (zs_neE e38 (zs_neE e37 k36 (by decide)) (by decide)) (by decide)) rfl) ?_
                  refine zy_n 6 (mr := zm_m181) (pc' := 76) (ls' := [(4, .int 22), (0, .ref 55), (1, .int 0), (2, .int a2), (3, .int a3)]) (st' := [.long 0, .int 22, .ref 58]) rfl rfl ?_
                  refine zy_hS (x := _) (mr := zm_m181) rfl rfl (zh_last (zs_eqE e40 k39) (by decide)) (fun he41 e41 => ?_)
                  refine zy_n 4 (mr := zm_m181) (pc' := 61) (ls' := [(4, .int 23), (0, .ref 55), (1, .int 0), (2, .int a2), (3, .int a3)]) (st' := [.int 60, .int 23]) rfl rfl ?_
                  refine zy_b (q := (64, [])) (mr := zm_m181) rfl rfl rfl ?_
                  refine zy_n 1 (mr := zm_m181) (pc' := 65) (ls' := [(4, .int 23), (0, .ref 55), (1, .int 0), (2, .int a2), (3, .int a3)]) (st' := [.ref 55]) rfl rfl ?_
                  have k42 := (zs_neE e41 (zs_neE e40 (zs_neE e38 (zs_neE e37 k36 (by decide)) (by decide)) (by decide)) (by decide))
                  refine zy_h (mr := zm_m181) rfl rfl (zh_get (v := .ref 58) k42 rfl) ?_
                  refine zy_n 6 (mr := zm_m181) (pc' := 76) (ls' := [(4, .int 23), (0, .ref 55), (1, .int 0), (2, .int a2), (3, .int a3)]) (st' := [.long 0, .int 23, .ref 58]) rfl rfl ?_
                  refine zy_hS (x := _) (mr := zm_m181) rfl rfl (zh_last (zs_eqE e41 (zs_eqE e40 k39)) (by decide)) (fun he43 e43 => ?_)
                  refine zy_n 4 (mr := zm_m181) (pc' := 61) (ls' := [(4, .int 24), (0, .ref 55), (1, .int 0), (2, .int a2), (3, .int a3)]) (st' := [.int 60, .int 24]) rfl rfl ?_
                  refine zy_b (q := (64, [])) (mr := zm_m181) rfl rfl rfl ?_
                  refine zy_n 1 (mr := zm_m181) (pc' := 65) (ls' := [(4, .int 24), (0, .ref 55), (1, .int 0), (2, .int a2), (3, .int a3)]) (st' := [.ref 55]) rfl rfl ?_
                  refine zy_h (mr := zm_m181) rfl rfl (zh_get (v := .ref 58) (zs_neE e43 k42 (by decide)) rfl) ?_
                  refine zy_n 6 (mr := zm_m181) (pc' := 76) (ls' := [(4, .int 24), (0, .ref 55), (1, .int 0), (2, .int a2), (3, .int a3)]) (st' := [.long 0, .int 24, .ref 58]) rfl rfl ?_
                  refine zy_hS (x := _) (mr := zm_m181) rfl rfl (zh_last (zs_eqE e43 (zs_eqE e41 (zs_eqE e40 k39))) (by decide)) (fun he44 e44 => ?_)
                  refine zy_n 4 (mr := zm_m181) (pc' := 61) (ls' := [(4, .int 25), (0, .ref 55), (1, .int 0), (2, .int a2), (3, .int a3)]) (st' := [.int 60, .int 25]) rfl rfl ?_
                  refine zy_b (q := (64, [])) (mr := zm_m181) rfl rfl rfl ?_
                  refine zy_n 1 (mr := zm_m181) (pc' := 65) (ls' := [(4, .int 25), (0, .ref 55), (1, .int 0), (2, .int a2), (3, .int a3)]) (st' := [.ref 55]) rfl rfl ?_
                  refine zy_h (mr := zm_m181) rfl rfl (zh_get (v := .ref 58) (zs_neE e44 (zs_neE e43 k42 (by decide)) (by decide)) rfl) ?_
                  refine zy_n 6 (mr := zm_m181) (pc' := 76) (ls' := [(4, .int 25), (0, .ref 55), (1, .int 0), (2, .int a2), (3, .int a3)]) (st' := [.long 0, .int 25, .ref 58]) rfl rfl ?_
                  refine zy_hS (x := _) (mr := zm_m181) rfl rfl (zh_last (zs_eqE e44 (zs_eqE e43 (zs_eqE e41 (zs_eqE e40 k39)))) (by decide)) (fun he45 e45 => ?_)
                  refine zy_n 4 (mr := zm_m181) (pc' := 61) (ls' := [(4, .int 26), (0, .ref 55), (1, .int 0), (2, .int a2), (3, .int a3)]) (st' := [.int 60, .int 26]) rfl rfl ?_
                  refine zy_b (q := (64, [])) (mr := zm_m181) rfl rfl rfl ?_
                  refine zy_n 1 (mr := zm_m181) (pc' := 65) (ls' := [(4, .int 26), (0, .ref 55), (1, .int 0), (2, .int a2), (3, .int a3)]) (st' := [.ref 55]) rfl rfl ?_
                  as_aux_lemma =>
                    refine zy_h (mr := zm_m181) rfl rfl (zh_get (v := .ref 58) (zs_neE e45 (zs_neE e44 (zs_neE e43 k42 (by decide)) (by decide)) (by decide)) rfl) ?_
                    refine zy_n 6 (mr := zm_m181) (pc' := 76) (ls' := [(4, .int 26), (0, .ref 55), (1, .int 0), (2, .int a2), (3, .int a3)]) (st' := [.long 0, .int 26, .ref 58]) rfl rfl ?_
                    refine zy_hS (x := _) (mr := zm_m181) rfl rfl (zh_last (zs_eqE e45 (zs_eqE e44 (zs_eqE e43 (zs_eqE e41 (zs_eqE e40 k39))))) (by decide)) (fun he46 e46 => ?_)
                    refine zy_n 4 (mr := zm_m181) (pc' := 61) (ls' := [(4, .int 27), (0, .ref 55), (1, .int 0), (2, .int a2), (3, .int a3)]) (st' := [.int 60, .int 27]) rfl rfl ?_
                    refine zy_b (q := (64, [])) (mr := zm_m181) rfl rfl rfl ?_
                    refine zy_n 1 (mr := zm_m181) (pc' := 65) (ls' := [(4, .int 27), (0, .ref 55), (1, .int 0), (2, .int a2), (3, .int a3)]) (st' := [.ref 55]) rfl rfl ?_
                    have k47 := (zs_neE e46 (zs_neE e45 (zs_neE e44 (zs_neE e43 k42 (by decide)) (by decide)) (by decide)) (by decide))
                    refine zy_h (mr := zm_m181) rfl rfl (zh_get (v := .ref 58) k47 rfl) ?_
                    refine zy_n 6 (mr := zm_m181) (pc' := 76) (ls' := [(4, .int 27), (0, .ref 55), (1, .int 0), (2, .int a2), (3, .int a3)]) (st' := [.long 0, .int 27, .ref 58]) rfl rfl ?_
                    refine zy_hS (x := _) (mr := zm_m181) rfl rfl (zh_last (zs_eqE e46 (zs_eqE e45 (zs_eqE e44 (zs_eqE e43 (zs_eqE e41 (zs_eqE e40 k39)))))) (by decide)) (fun he48 e48 => ?_)
                    refine zy_n 4 (mr := zm_m181) (pc' := 61) (ls' := [(4, .int 28), (0, .ref 55), (1, .int 0), (2, .int a2), (3, .int a3)]) (st' := [.int 60, .int 28]) rfl rfl ?_
                    refine zy_b (q := (64, [])) (mr := zm_m181) rfl rfl rfl ?_
                    refine zy_n 1 (mr := zm_m181) (pc' := 65) (ls' := [(4, .int 28), (0, .ref 55), (1, .int 0), (2, .int a2), (3, .int a3)]) (st' := [.ref 55]) rfl rfl ?_
                    refine zy_h (mr := zm_m181) rfl rfl (zh_get (v := .ref 58) (zs_neE e48 k47 (by decide)) rfl) ?_
                    refine zy_n 6 (mr := zm_m181) (pc' := 76) (ls' := [(4, .int 28), (0, .ref 55), (1, .int 0), (2, .int a2), (3, .int a3)]) (st' := [.long 0, .int 28, .ref 58]) rfl rfl ?_
                    have k49 := (zs_eqE e48 (zs_eqE e46 (zs_eqE e45 (zs_eqE e44 (zs_eqE e43 (zs_eqE e41 (zs_eqE e40 k39)))))))
                    refine zy_hS (x := _) (mr := zm_m181) rfl rfl (zh_last k49 (by decide)) (fun he50 e50 => ?_)
                    refine zy_n 4 (mr := zm_m181) (pc' := 61) (ls' := [(4, .int 29), (0, .ref 55), (1, .int 0), (2, .int a2), (3, .int a3)]) (st' := [.int 60, .int 29]) rfl rfl ?_
                    refine zy_b (q := (64, [])) (mr := zm_m181) rfl rfl rfl ?_
                    refine zy_n 1 (mr := zm_m181) (pc' := 65) (ls' := [(4, .int 29), (0, .ref 55), (1, .int 0), (2, .int a2), (3, .int a3)]) (st' := [.ref 55]) rfl rfl ?_
                    refine zy_h (mr := zm_m181) rfl rfl (zh_get (v := .ref 58) (zs_neE e50 (zs_neE e48 k47 (by decide)) (by decide)) rfl) ?_
                    refine zy_n 6 (mr := zm_m181) (pc' := 76) (ls' := [(4, .int 29), (0, .ref 55), (1, .int 0), (2, .int a2), (3, .int a3)]) (st' := [.long 0, .int 29, .ref 58]) rfl rfl ?_
                    refine zy_hS (x := _) (mr := zm_m181) rfl rfl (zh_last (zs_eqE e50 k49) (by decide)) (fun he51 e51 => ?_)
                    refine zy_n 4 (mr := zm_m181) (pc' := 61) (ls' := [(4, .int 30), (0, .ref 55), (1, .int 0), (2, .int a2), (3, .int a3)]) (st' := [.int 60, .int 30]) rfl rfl ?_
                    refine zy_b (q := (64, [])) (mr := zm_m181) rfl rfl rfl ?_
                    refine zy_n 1 (mr := zm_m181) (pc' := 65) (ls' := [(4, .int 30), (0, .ref 55), (1, .int 0), (2, .int a2), (3, .int a3)]) (st' := [.ref 55]) rfl rfl ?_
                    refine zy_h (mr := zm_m181) rfl rfl (zh_get (v := .ref 58) (zs_neE e51 (zs_neE e50 (zs_neE e48 k47 (by decide)) (by decide)) (by decide)) rfl) ?_
                    refine zy_n 6 (mr := zm_m181) (pc' := 76) (ls' := [(4, .int 30), (0, .ref 55), (1, .int 0), (2, .int a2), (3, .int a3)]) (st' := [.long 0, .int 30, .ref 58]) rfl rfl ?_
                    refine zy_hS (x := _) (mr := zm_m181) rfl rfl (zh_last (zs_eqE e51 (zs_eqE e50 k49)) (by decide)) (fun he52 e52 => ?_)
                    refine zy_n 4 (mr := zm_m181) (pc' := 61) (ls' := [(4, .int 31), (0, .ref 55), (1, .int 0), (2, .int a2), (3, .int a3)]) (st' := [.int 60, .int 31]) rfl rfl ?_
                    refine zy_b (q := (64, [])) (mr := zm_m181) rfl rfl rfl ?_
                    refine zy_n 1 (mr := zm_m181) (pc' := 65) (ls' := [(4, .int 31), (0, .ref 55), (1, .int 0), (2, .int a2), (3, .int a3)]) (st' := [.ref 55]) rfl rfl ?_
                    have k53 := (zs_neE e52 (zs_neE e51 (zs_neE e50 (zs_neE e48 k47 (by decide)) (by decide)) (by decide)) (by decide))
                    refine zy_h (mr := zm_m181) rfl rfl (zh_get (v := .ref 58) k53 rfl) ?_
                    refine zy_n 6 (mr := zm_m181) (pc' := 76) (ls' := [(4, .int 31), (0, .ref 55), (1, .int 0), (2, .int a2), (3, .int a3)]) (st' := [.long 0, .int 31, .ref 58]) rfl rfl ?_
                    refine zy_hS (x := _) (mr := zm_m181) rfl rfl (zh_last (zs_eqE e52 (zs_eqE e51 (zs_eqE e50 k49))) (by decide)) (fun he54 e54 => ?_)
                    refine zy_n 4 (mr := zm_m181) (pc' := 61) (ls' := [(4, .int 32), (0, .ref 55), (1, .int 0), (2, .int a2), (3, .int a3)]) (st' := [.int 60, .int 32]) rfl rfl ?_
                    refine zy_b (q := (64, [])) (mr := zm_m181) rfl rfl rfl ?_
                    refine zy_n 1 (mr := zm_m181) (pc' := 65) (ls' := [(4, .int 32), (0, .ref 55), (1, .int 0), (2, .int a2), (3, .int a3)]) (st' := [.ref 55]) rfl rfl ?_
                    refine zy_h (mr := zm_m181) rfl rfl (zh_get (v := .ref 58) (zs_neE e54 k53 (by decide)) rfl) ?_
                    refine zy_n 6 (mr := zm_m181) (pc' := 76) (ls' := [(4, .int 32), (0, .ref 55), (1, .int 0), (2, .int a2), (3, .int a3)]) (st' := [.long 0, .int 32, .ref 58]) rfl rfl ?_
                    refine zy_hS (x := _) (mr := zm_m181) rfl rfl (zh_last (zs_eqE e54 (zs_eqE e52 (zs_eqE e51 (zs_eqE e50 k49)))) (by decide)) (fun he55 e55 => ?_)
                    refine zy_n 4 (mr := zm_m181) (pc' := 61) (ls' := [(4, .int 33), (0, .ref 55), (1, .int 0), (2, .int a2), (3, .int a3)]) (st' := [.int 60, .int 33]) rfl rfl ?_
                    refine zy_b (q := (64, [])) (mr := zm_m181) rfl rfl rfl ?_
                    refine zy_n 1 (mr := zm_m181) (pc' := 65) (ls' := [(4, .int 33), (0, .ref 55), (1, .int 0), (2, .int a2), (3, .int a3)]) (st' := [.ref 55]) rfl rfl ?_
                    refine zy_h (mr := zm_m181) rfl rfl (zh_get (v := .ref 58) (zs_neE e55 (zs_neE e54 k53 (by decide)) (by decide)) rfl) ?_
                    refine zy_n 6 (mr := zm_m181) (pc' := 76) (ls' := [(4, .int 33), (0, .ref 55), (1, .int 0), (2, .int a2), (3, .int a3)]) (st' := [.long 0, .int 33, .ref 58]) rfl rfl ?_
                    refine zy_hS (x := _) (mr := zm_m181) rfl rfl (zh_last (zs_eqE e55 (zs_eqE e54 (zs_eqE e52 (zs_eqE e51 (zs_eqE e50 k49))))) (by decide)) (fun he56 e56 => ?_)
                    refine zy_n 4 (mr := zm_m181) (pc' := 61) (ls' := [(4, .int 34), (0, .ref 55), (1, .int 0), (2, .int a2), (3, .int a3)]) (st' := [.int 60, .int 34]) rfl rfl ?_
                    refine zy_b (q := (64, [])) (mr := zm_m181) rfl rfl rfl ?_
                    refine zy_n 1 (mr := zm_m181) (pc' := 65) (ls' := [(4, .int 34), (0, .ref 55), (1, .int 0), (2, .int a2), (3, .int a3)]) (st' := [.ref 55]) rfl rfl ?_
                    as_aux_lemma =>
                      refine zy_h (mr := zm_m181) rfl rfl (zh_get (v := .ref 58) (zs_neE e56 (zs_neE e55 (zs_neE e54 k53 (by decide)) (by decide)) (by decide)) rfl) ?_
                      refine zy_n 6 (mr := zm_m181) (pc' := 76) (ls' := [(4, .int 34), (0, .ref 55), (1, .int 0), (2, .int a2), (3, .int a3)]) (st' := [.long 0, .int 34, .ref 58]) rfl rfl ?_
                      refine zy_hS (x := _) (mr := zm_m181) rfl rfl (zh_last (zs_eqE e56 (zs_eqE e55 (zs_eqE e54 (zs_eqE e52 (zs_eqE e51 (zs_eqE e50 k49)))))) (by decide)) (fun he57 e57 => ?_)
                      refine zy_n 4 (mr := zm_m181) (pc' := 61) (ls' := [(4, .int 35), (0, .ref 55), (1, .int 0), (2, .int a2), (3, .int a3)]) (st' := [.int 60, .int 35]) rfl rfl ?_
                      refine zy_b (q := (64, [])) (mr := zm_m181) rfl rfl rfl ?_
                      refine zy_n 1 (mr := zm_m181) (pc' := 65) (ls' := [(4, .int 35), (0, .ref 55), (1, .int 0), (2, .int a2), (3, .int a3)]) (st' := [.ref 55]) rfl rfl ?_
                      have k58 := (zs_neE e57 (zs_neE e56 (zs_neE e55 (zs_neE e54 k53 (by decide)) (by decide)) (by decide)) (by decide))
                      refine zy_h (mr := zm_m181) rfl rfl (zh_get (v := .ref 58) k58 rfl) ?_
                      refine zy_n 6 (mr := zm_m181) (pc' := 76) (ls' := [(4, .int 35), (0, .ref 55), (1, .int 0), (2, .int a2), (3, .int a3)]) (st' := [.long 0, .int 35, .ref 58]) rfl rfl ?_
                      have k59 := (zs_eqE e57 (zs_eqE e56 (zs_eqE e55 (zs_eqE e54 (zs_eqE e52 (zs_eqE e51 (zs_eqE e50 k49)))))))
                      refine zy_hS (x := _) (mr := zm_m181) rfl rfl (zh_last k59 (by decide)) (fun he60 e60 => ?_)
                      refine zy_n 4 (mr := zm_m181) (pc' := 61) (ls' := [(4, .int 36), (0, .ref 55), (1, .int 0), (2, .int a2), (3, .int a3)]) (st' := [.int 60, .int 36]) rfl rfl ?_
                      refine zy_b (q := (64, [])) (mr := zm_m181) rfl rfl rfl ?_
                      refine zy_n 1 (mr := zm_m181) (pc' := 65) (ls' := [(4, .int 36), (0, .ref 55), (1, .int 0), (2, .int a2), (3, .int a3)]) (st' := [.ref 55]) rfl rfl ?_
                      refine zy_h (mr := zm_m181) rfl rfl (zh_get (v := .ref 58) (zs_neE e60 k58 (by decide)) rfl) ?_
                      refine zy_n 6 (mr := zm_m181) (pc' := 76) (ls' := [(4, .int 36), (0, .ref 55), (1, .int 0), (2, .int a2), (3, .int a3)]) (st' := [.long 0, .int 36, .ref 58]) rfl rfl ?_
                      refine zy_hS (x := _) (mr := zm_m181) rfl rfl (zh_last (zs_eqE e60 k59) (by decide)) (fun he61 e61 => ?_)
                      refine zy_n 4 (mr := zm_m181) (pc' := 61) (ls' := [(4, .int 37), (0, .ref 55), (1, .int 0), (2, .int a2), (3, .int a3)]) (st' := [.int 60, .int 37]) rfl rfl ?_
                      refine zy_b (q := (64, [])) (mr := zm_m181) rfl rfl rfl ?_
                      refine zy_n 1 (mr := zm_m181) (pc' := 65) (ls' := [(4, .int 37), (0, .ref 55), (1, .int 0), (2, .int a2), (3, .int a3)]) (st' := [.ref 55]) rfl rfl ?_
                      refine zy_h (mr := zm_m181) rfl rfl (zh_get (v := .ref 58) (zs_neE e61 (zs_neE e60 k58 (by decide)) (by decide)) rfl) ?_
                      refine zy_n 6 (mr := zm_m181) (pc' := 76) (ls' := [(4, .int 37), (0, .ref 55), (1, .int 0), (2, .int a2), (3, .int a3)]) (st' := [.long 0, .int 37, .ref 58]) rfl rfl ?_
                      refine zy_hS (x := _) (mr := zm_m181) rfl rfl (zh_last (zs_eqE e61 (zs_eqE e60 k59)) (by decide)) (fun he62 e62 => ?_)
                      refine zy_n 4 (mr := zm_m181) (pc' := 61) (ls' := [(4, .int 38), (0, .ref 55), (1, .int 0), (2, .int a2), (3, .int a3)]) (st' := [.int 60, .int 38]) rfl rfl ?_
                      refine zy_b (q := (64, [])) (mr := zm_m181) rfl rfl rfl ?_
                      refine zy_n 1 (mr := zm_m181) (pc' := 65) (ls' := [(4, .int 38), (0, .ref 55), (1, .int 0), (2, .int a2), (3, .int a3)]) (st' := [.ref 55]) rfl rfl ?_
                      refine zy_h (mr := zm_m181) rfl rfl (zh_get (v := .ref 58) (zs_neE e62 (zs_neE e61 (zs_neE e60 k58 (by decide)) (by decide)) (by decide)) rfl) ?_
                      refine zy_n 6 (mr := zm_m181) (pc' := 76) (ls' := [(4, .int 38), (0, .ref 55), (1, .int 0), (2, .int a2), (3, .int a3)]) (st' := [.long 0, .int 38, .ref 58]) rfl rfl ?_
                      refine zy_hS (x := _) (mr := zm_m181) rfl rfl (zh_last (zs_eqE e62 (zs_eqE e61 (zs_eqE e60 k59))) (by decide)) (fun he63 e63 => ?_)
                      refine zy_n 4 (mr := zm_m181) (pc' := 61) (ls' := [(4, .int 39), (0, .ref 55), (1, .int 0), (2, .int a2), (3, .int a3)]) (st' := [.int 60, .int 39]) rfl rfl ?_
                      refine zy_b (q := (64, [])) (mr := zm_m181) rfl rfl rfl ?_
                      refine zy_n 1 (mr := zm_m181) (pc' := 65) (ls' := [(4, .int 39), (0, .ref 55), (1, .int 0), (2, .int a2), (3, .int a3)]) (st' := [.ref 55]) rfl rfl ?_
                      have k64 := (zs_neE e63 (zs_neE e62 (zs_neE e61 (zs_neE e60 k58 (by decide)) (by decide)) (by decide)) (by decide))
                      refine zy_h (mr := zm_m181) rfl rfl (zh_get (v := .ref 58) k64 rfl) ?_
                      refine zy_n 6 (mr := zm_m181) (pc' := 76) (ls' := [(4, .int 39), (0, .ref 55), (1, .int 0), (2, .int a2), (3, .int a3)]) (st' := [.long 0, .int 39, .ref 58]) rfl rfl ?_
                      refine zy_hS (x := _) (mr := zm_m181) rfl rfl (zh_last (zs_eqE e63 (zs_eqE e62 (zs_eqE e61 (zs_eqE e60 k59)))) (by decide)) (fun he65 e65 => ?_)
                      refine zy_n 4 (mr := zm_m181) (pc' := 61) (ls' := [(4, .int 40), (0, .ref 55), (1, .int 0), (2, .int a2), (3, .int a3)]) (st' := [.int 60, .int 40]) rfl rfl ?_
                      refine zy_b (q := (64, [])) (mr := zm_m181) rfl rfl rfl ?_
                      refine zy_n 1 (mr := zm_m181) (pc' := 65) (ls' := [(4, .int 40), (0, .ref 55), (1, .int 0), (2, .int a2), (3, .int a3)]) (st' := [.ref 55]) rfl rfl ?_
                      refine zy_h (mr := zm_m181) rfl rfl (zh_get (v := .ref 58) (zs_neE e65 k64 (by decide)) rfl) ?_
                      refine zy_n 6 (mr := zm_m181) (pc' := 76) (ls' := [(4, .int 40), (0, .ref 55), (1, .int 0), (2, .int a2), (3, .int a3)]) (st' := [.long 0, .int 40, .ref 58]) rfl rfl ?_
                      refine zy_hS (x := _) (mr := zm_m181) rfl rfl (zh_last (zs_eqE e65 (zs_eqE e63 (zs_eqE e62 (zs_eqE e61 (zs_eqE e60 k59))))) (by decide)) (fun he66 e66 => ?_)
                      refine zy_n 4 (mr := zm_m181) (pc' := 61) (ls' := [(4, .int 41), (0, .ref 55), (1, .int 0), (2, .int a2), (3, .int a3)]) (st' := [.int 60, .int 41]) rfl rfl ?_
                      refine zy_b (q := (64, [])) (mr := zm_m181) rfl rfl rfl ?_
                      refine zy_n 1 (mr := zm_m181) (pc' := 65) (ls' := [(4, .int 41), (0, .ref 55), (1, .int 0), (2, .int a2), (3, .int a3)]) (st' := [.ref 55]) rfl rfl ?_
                      refine zy_h (mr := zm_m181) rfl rfl (zh_get (v := .ref 58) (zs_neE e66 (zs_neE e65 k64 (by decide)) (by decide)) rfl) ?_
                      refine zy_n 6 (mr := zm_m181) (pc' := 76) (ls' := [(4, .int 41), (0, .ref 55), (1, .int 0), (2, .int a2), (3, .int a3)]) (st' := [.long 0, .int 41, .ref 58]) rfl rfl ?_
                      refine zy_hS (x := _) (mr := zm_m181) rfl rfl (zh_last (zs_eqE e66 (zs_eqE e65 (zs_eqE e63 (zs_eqE e62 (zs_eqE e61 (zs_eqE e60 k59)))))) (by decide)) (fun he67 e67 => ?_)
                      refine zy_n 4 (mr := zm_m181) (pc' := 61) (ls' := [(4, .int 42), (0, .ref 55), (1, .int 0), (2, .int a2), (3, .int a3)]) (st' := [.int 60, .int 42]) rfl rfl ?_
                      refine zy_b (q := (64, [])) (mr := zm_m181) rfl rfl rfl ?_
                      refine zy_n 1 (mr := zm_m181) (pc' := 65) (ls' := [(4, .int 42), (0, .ref 55), (1, .int 0), (2, .int a2), (3, .int a3)]) (st' := [.ref 55]) rfl rfl ?_
                      as_aux_lemma =>
                        refine zy_h (mr := zm_m181) rfl rfl (zh_get (v := .ref 58) (zs_neE e67 (zs_neE e66 (zs_neE e65 k64 (by decide)) (by decide)) (by decide)) rfl) ?_
                        refine zy_n 6 (mr := zm_m181) (pc' := 76) (ls' := [(4, .int 42), (0, .ref 55), (1, .int 0), (2, .int a2), (3, .int a3)]) (st' := [.long 0, .int 42, .ref 58]) rfl rfl ?_
                        have k68 := (zs_eqE e67 (zs_eqE e66 (zs_eqE e65 (zs_eqE e63 (zs_eqE e62 (zs_eqE e61 (zs_eqE e60 k59)))))))
                        refine zy_hS (x := _) (mr := zm_m181) rfl rfl (zh_last k68 (by decide)) (fun he69 e69 => ?_)
                        refine zy_n 4 (mr := zm_m181) (pc' := 61) (ls' := [(4, .int 43), (0, .ref 55), (1, .int 0), (2, .int a2), (3, .int a3)]) (st' := [.int 60, .int 43]) rfl rfl ?_
                        refine zy_b (q := (64, [])) (mr := zm_m181) rfl rfl rfl ?_
                        refine zy_n 1 (mr := zm_m181) (pc' := 65) (ls' := [(4, .int 43), (0, .ref 55), (1, .int 0), (2, .int a2), (3, .int a3)]) (st' := [.ref 55]) rfl rfl ?_
                        have k70 := (zs_neE e69 (zs_neE e67 (zs_neE e66 (zs_neE e65 k64 (by decide)) (by decide)) (by decide)) (by decide))
                        refine zy_h (mr := zm_m181) rfl rfl (zh_get (v := .ref 58) k70 rfl) ?_
                        refine zy_n 6 (mr := zm_m181) (pc' := 76) (ls' := [(4, .int 43), (0, .ref 55), (1, .int 0), (2, .int a2), (3, .int a3)]) (st' := [.long 0, .int 43, .ref 58]) rfl rfl ?_
                        refine zy_hS (x := _) (mr := zm_m181) rfl rfl (zh_last (zs_eqE e69 k68) (by decide)) (fun he71 e71 => ?_)
                        refine zy_n 4 (mr := zm_m181) (pc' := 61) (ls' := [(4, .int 44), (0, .ref 55), (1, .int 0), (2, .int a2), (3, .int a3)]) (st' := [.int 60, .int 44]) rfl rfl ?_
                        refine zy_b (q := (64, [])) (mr := zm_m181) rfl rfl rfl ?_
                        refine zy_n 1 (mr := zm_m181) (pc' := 65) (ls' := [(4, .int 44), (0, .ref 55), (1, .int 0), (2, .int a2), (3, .int a3)]) (st' := [.ref 55]) rfl rfl ?_
                        refine zy_h (mr := zm_m181) rfl rfl (zh_get (v := .ref 58) (zs_neE e71 k70 (by decide)) rfl) ?_
                        refine zy_n 6 (mr := zm_m181) (pc' := 76) (ls' := [(4, .int 44), (0, .ref 55), (1, .int 0), (2, .int a2), (3, .int a3)]) (st' := [.long 0, .int 44, .ref 58]) rfl rfl ?_
                        refine zy_hS (x := _) (mr := zm_m181) rfl rfl (zh_last (zs_eqE e71 (zs_eqE e69 k68)) (by decide)) (fun he72 e72 => ?_)
                        refine zy_n 4 (mr := zm_m181) (pc' := 61) (ls' := [(4, .int 45), (0, .ref 55), (1, .int 0), (2, .int a2), (3, .int a3)]) (st' := [.int 60, .int 45]) rfl rfl ?_
                        refine zy_b (q := (64, [])) (mr := zm_m181) rfl rfl rfl ?_
                        refine zy_n 1 (mr := zm_m181) (pc' := 65) (ls' := [(4, .int 45), (0, .ref 55), (1, .int 0), (2, .int a2), (3, .int a3)]) (st' := [.ref 55]) rfl rfl ?_
                        refine zy_h (mr := zm_m181) rfl rfl (zh_get (v := .ref 58) (zs_neE e72 (zs_neE e71 k70 (by decide)) (by decide)) rfl) ?_
                        refine zy_n 6 (mr := zm_m181) (pc' := 76) (ls' := [(4, .int 45), (0, .ref 55), (1, .int 0), (2, .int a2), (3, .int a3)]) (st' := [.long 0, .int 45, .ref 58]) rfl rfl ?_
                        refine zy_hS (x := _) (mr := zm_m181) rfl rfl (zh_last (zs_eqE e72 (zs_eqE e71 (zs_eqE e69 k68))) (by decide)) (fun he73 e73 => ?_)
                        refine zy_n 4 (mr := zm_m181) (pc' := 61) (ls' := [(4, .int 46), (0, .ref 55), (1, .int 0), (2, .int a2), (3, .int a3)]) (st' := [.int 60, .int 46]) rfl rfl ?_
                        refine zy_b (q := (64, [])) (mr := zm_m181) rfl rfl rfl ?_
                        refine zy_n 1 (mr := zm_m181) (pc' := 65) (ls' := [(4, .int 46), (0, .ref 55), (1, .int 0), (2, .int a2), (3, .int a3)]) (st' := [.ref 55]) rfl rfl ?_
                        refine zy_h (mr := zm_m181) rfl rfl (zh_get (v := .ref 58) (zs_neE e73 (zs_neE e72 (zs_neE e71 k70 (by decide)) (by decide)) (by decide)) rfl) ?_
                        refine zy_n 6 (mr := zm_m181) (pc' := 76) (ls' := [(4, .int 46), (0, .ref 55), (1, .int 0), (2, .int a2), (3, .int a3)]) (st' := [.long 0, .int 46, .ref 58]) rfl rfl ?_
                        refine zy_hS (x := _) (mr := zm_m181) rfl rfl (zh_last (zs_eqE e73 (zs_eqE e72 (zs_eqE e71 (zs_eqE e69 k68)))) (by decide)) (fun he74 e74 => ?_)
                        refine zy_n 4 (mr := zm_m181) (pc' := 61) (ls' := [(4, .int 47), (0, .ref 55), (1, .int 0), (2, .int a2), (3, .int a3)]) (st' := [.int 60, .int 47]) rfl rfl ?_
                        refine zy_b (q := (64, [])) (mr := zm_m181) rfl rfl rfl ?_
                        refine zy_n 1 (mr := zm_m181) (pc' := 65) (ls' := [(4, .int 47), (0, .ref 55), (1, .int 0), (2, .int a2), (3, .int a3)]) (st' := [.ref 55]) rfl rfl ?_
                        have k75 := (zs_neE e74 (zs_neE e73 (zs_neE e72 (zs_neE e71 k70 (by decide)) (by decide)) (by decide)) (by decide))
                        refine zy_h (mr := zm_m181) rfl rfl (zh_get (v := .ref 58) k75 rfl) ?_
                        refine zy_n 6 (mr := zm_m181) (pc' := 76) (ls' := [(4, .int 47), (0, .ref 55), (1, .int 0), (2, .int a2), (3, .int a3)]) (st' := [.long 0, .int 47, .ref 58]) rfl rfl ?_
                        refine zy_hS (x := _) (mr := zm_m181) rfl rfl (zh_last (zs_eqE e74 (zs_eqE e73 (zs_eqE e72 (zs_eqE e71 (zs_eqE e69 k68))))) (by decide)) (fun he76 e76 => ?_)
                        refine zy_n 4 (mr := zm_m181) (pc' := 61) (ls' := [(4, .int 48), (0, .ref 55), (1, .int 0), (2, .int a2), (3, .int a3)]) (st' := [.int 60, .int 48]) rfl rfl ?_
                        refine zy_b (q := (64, [])) (mr := zm_m181) rfl rfl rfl ?_
                        refine zy_n 1 (mr := zm_m181) (pc' := 65) (ls' := [(4, .int 48), (0, .ref 55), (1, .int 0), (2, .int a2), (3, .int a3)]) (st' := [.ref 55]) rfl rfl ?_
                        refine zy_h (mr := zm_m181) rfl rfl (zh_get (v := .ref 58) (zs_neE e76 k75 (by decide)) rfl) ?_
                        refine zy_n 6 (mr := zm_m181) (pc' := 76) (ls' := [(4, .int 48), (0, .ref 55), (1, .int 0), (2, .int a2), (3, .int a3)]) (st' := [.long 0, .int 48, .ref 58]) rfl rfl ?_
                        refine zy_hS (x := _) (mr := zm_m181) rfl rfl (zh_last (zs_eqE e76 (zs_eqE e74 (zs_eqE e73 (zs_eqE e72 (zs_eqE e71 (zs_eqE e69 k68)))))) (by decide)) (fun he77 e77 => ?_)
                        refine zy_n 4 (mr := zm_m181) (pc' := 61) (ls' := [(4, .int 49), (0, .ref 55), (1, .int 0), (2, .int a2), (3, .int a3)]) (st' := [.int 60, .int 49]) rfl rfl ?_
                        refine zy_b (q := (64, [])) (mr := zm_m181) rfl rfl rfl ?_
                        refine zy_n 1 (mr := zm_m181) (pc' := 65) (ls' := [(4, .int 49), (0, .ref 55), (1, .int 0), (2, .int a2), (3, .int a3)]) (st' := [.ref 55]) rfl rfl ?_
                        refine zy_h (mr := zm_m181) rfl rfl (zh_get (v := .ref 58) (zs_neE e77 (zs_neE e76 k75 (by decide)) (by decide)) rfl) ?_
                        refine zy_n 6 (mr := zm_m181) (pc' := 76) (ls' := [(4, .int 49), (0, .ref 55), (1, .int 0), (2, .int a2), (3, .int a3)]) (st' := [.long 0, .int 49, .ref 58]) rfl rfl ?_
                        have k78 := (zs_eqE e77 (zs_eqE e76 (zs_eqE e74 (zs_eqE e73 (zs_eqE e72 (zs_eqE e71 (zs_eqE e69 k68)))))))
                        refine zy_hS (x := _) (mr := zm_m181) rfl rfl (zh_last k78 (by decide)) (fun he79 e79 => ?_)
                        refine zy_n 4 (mr := zm_m181) (pc' := 61) (ls' := [(4, .int 50), (0, .ref 55), (1, .int 0), (2, .int a2), (3, .int a3)]) (st' := [.int 60, .int 50]) rfl rfl ?_
                        refine zy_b (q := (64, [])) (mr := zm_m181) rfl rfl rfl ?_
                        refine zy_n 1 (mr := zm_m181) (pc' := 65) (ls' := [(4, .int 50), (0, .ref 55), (1, .int 0), (2, .int a2), (3, .int a3)]) (st' := [.ref 55]) rfl rfl ?_
                        as_aux_lemma =>
                          refine zy_h (mr := zm_m181) rfl rfl (zh_get (v := .ref 58) (zs_neE e79 (zs_neE e77 (zs_neE e76 k75 (by decide)) (by decide)) (by decide)) rfl) ?_
                          refine zy_n 6 (mr := zm_m181) (pc' := 76) (ls' := [(4, .int 50), (0, .ref 55), (1, .int 0), (2, .int a2), (3, .int a3)]) (st' := [.long 0, .int 50, .ref 58]) rfl rfl ?_
                          refine zy_hS (x := _) (mr := zm_m181) rfl rfl (zh_last (zs_eqE e79 k78) (by decide)) (fun he80 e80 => ?_)
                          refine zy_n 4 (mr := zm_m181) (pc' := 61) (ls' := [(4, .int 51), (0, .ref 55), (1, .int 0), (2, .int a2), (3, .int a3)]) (st' := [.int 60, .int 51]) rfl rfl ?_
                          refine zy_b (q := (64, [])) (mr := zm_m181) rfl rfl rfl ?_
                          refine zy_n 1 (mr := zm_m181) (pc' := 65) (ls' := [(4, .int 51), (0, .ref 55), (1, .int 0), (2, .int a2), (3, .int a3)]) (st' := [.ref 55]) rfl rfl ?_
                          have k81 := (zs_neE e80 (zs_neE e79 (zs_neE e77 (zs_neE e76 k75 (by decide)) (by decide)) (by decide)) (by decide))
                          refine zy_h (mr := zm_m181) rfl rfl (zh_get (v := .ref 58) k81 rfl) ?_
                          refine zy_n 6 (mr := zm_m181) (pc' := 76) (ls' := [(4, .int 51), (0, .ref 55), (1, .int 0), (2, .int a2), (3, .int a3)]) (st' := [.long 0, .int 51, .ref 58]) rfl rfl ?_
                          refine zy_hS (x := _) (mr := zm_m181) rfl rfl (zh_last (zs_eqE e80 (zs_eqE e79 k78)) (by decide)) (fun he82 e82 => ?_)
                          refine zy_n 4 (mr := zm_m181) (pc' := 61) (ls' := [(4, .int 52), (0, .ref 55), (1, .int 0), (2, .int a2), (3, .int a3)]) (st' := [.int 60, .int 52]) rfl rfl ?_
                          refine zy_b (q := (64, [])) (mr := zm_m181) rfl rfl rfl ?_
                          refine zy_n 1 (mr := zm_m181) (pc' := 65) (ls' := [(4, .int 52), (0, .ref 55), (1, .int 0), (2, .int a2), (3, .int a3)]) (st' := [.ref 55]) rfl rfl ?_
                          refine zy_h (mr := zm_m181) rfl rfl (zh_get (v := .ref 58) (zs_neE e82 k81 (by decide)) rfl) ?_
                          refine zy_n 6 (mr := zm_m181) (pc' := 76) (ls' := [(4, .int 52), (0, .ref 55), (1, .int 0), (2, .int a2), (3, .int a3)]) (st' := [.long 0, .int 52, .ref 58]) rfl rfl ?_
                          refine zy_hS (x := _) (mr := zm_m181) rfl rfl (zh_last (zs_eqE e82 (zs_eqE e80 (zs_eqE e79 k78))) (by decide)) (fun he83 e83 => ?_)
                          refine zy_n 4 (mr := zm_m181) (pc' := 61) (ls' := [(4, .int 53), (0, .ref 55), (1, .int 0), (2, .int a2), (3, .int a3)]) (st' := [.int 60, .int 53]) rfl rfl ?_
                          refine zy_b (q := (64, [])) (mr := zm_m181) rfl rfl rfl ?_
                          refine zy_n 1 (mr := zm_m181) (pc' := 65) (ls' := [(4, .int 53), (0, .ref 55), (1, .int 0), (2, .int a2), (3, .int a3)]) (st' := [.ref 55]) rfl rfl ?_
                          refine zy_h (mr := zm_m181) rfl rfl (zh_get (v := .ref 58) (zs_neE e83 (zs_neE e82 k81 (by decide)) (by decide)) rfl) ?_
                          refine zy_n 6 (mr := zm_m181) (pc' := 76) (ls' := [(4, .int 53), (0, .ref 55), (1, .int 0), (2, .int a2), (3, .int a3)]) (st' := [.long 0, .int 53, .ref 58]) rfl rfl ?_
                          refine zy_hS (x := _) (mr := zm_m181) rfl rfl (zh_last (zs_eqE e83 (zs_eqE e82 (zs_eqE e80 (zs_eqE e79 k78)))) (by decide)) (fun he84 e84 => ?_)
                          refine zy_n 4 (mr := zm_m181) (pc' := 61) (ls' := [(4, .int 54), (0, .ref 55), (1, .int 0), (2, .int a2), (3, .int a3)]) (st' := [.int 60, .int 54]) rfl rfl ?_
                          refine zy_b (q := (64, [])) (mr := zm_m181) rfl rfl rfl ?_
                          refine zy_n 1 (mr := zm_m181) (pc' := 65) (ls' := [(4, .int 54), (0, .ref 55), (1, .int 0), (2, .int a2), (3, .int a3)]) (st' := [.ref 55]) rfl rfl ?_
                          refine zy_h (mr := zm_m181) rfl rfl (zh_get (v := .ref 58) (zs_neE e84 (zs_neE e83 (zs_neE e82 k81 (by decide)) (by decide)) (by decide)) rfl) ?_
                          refine zy_n 6 (mr := zm_m181) (pc' := 76) (ls' := [(4, .int 54), (0, .ref 55), (1, .int 0), (2, .int a2), (3, .int a3)]) (st' := [.long 0, .int 54, .ref 58]) rfl rfl ?_
                          refine zy_hS (x := _) (mr := zm_m181) rfl rfl (zh_last (zs_eqE e84 (zs_eqE e83 (zs_eqE e82 (zs_eqE e80 (zs_eqE e79 k78))))) (by decide)) (fun he85 e85 => ?_)
                          refine zy_n 4 (mr := zm_m181) (pc' := 61) (ls' := [(4, .int 55), (0, .ref 55), (1, .int 0), (2, .int a2), (3, .int a3)]) (st' := [.int 60, .int 55]) rfl rfl ?_
                          refine zy_b (q := (64, [])) (mr := zm_m181) rfl rfl rfl ?_
                          refine zy_n 1 (mr := zm_m181) (pc' := 65) (ls' := [(4, .int 55), (0, .ref 55), (1, .int 0), (2, .int a2), (3, .int a3)]) (st' := [.ref 55]) rfl rfl ?_
                          have k86 := (zs_neE e85 (zs_neE e84 (zs_neE e83 (zs_neE e82 k81 (by decide)) (by decide)) (by decide)) (by decide))
                          refine zy_h (mr := zm_m181) rfl rfl (zh_get (v := .ref 58) k86 rfl) ?_
                          refine zy_n 6 (mr := zm_m181) (pc' := 76) (ls' := [(4, .int 55), (0, .ref 55), (1, .int 0), (2, .int a2), (3, .int a3)]) (st' := [.long 0, .int 55, .ref 58]) rfl rfl ?_
                          refine zy_hS (x := _) (mr := zm_m181) rfl rfl (zh_last (zs_eqE e85 (zs_eqE e84 (zs_eqE e83 (zs_eqE e82 (zs_eqE e80 (zs_eqE e79 k78)))))) (by decide)) (fun he87 e87 => ?_)
                          refine zy_n 4 (mr := zm_m181) (pc' := 61) (ls' := [(4, .int 56), (0, .ref 55), (1, .int 0), (2, .int a2), (3, .int a3)]) (st' := [.int 60, .int 56]) rfl rfl ?_
                          refine zy_b (q := (64, [])) (mr := zm_m181) rfl rfl rfl ?_
                          refine zy_n 1 (mr := zm_m181) (pc' := 65) (ls' := [(4, .int 56), (0, .ref 55), (1, .int 0), (2, .int a2), (3, .int a3)]) (st' := [.ref 55]) rfl rfl ?_
                          refine zy_h (mr := zm_m181) rfl rfl (zh_get (v := .ref 58) (zs_neE e87 k86 (by decide)) rfl) ?_
                          refine zy_n 6 (mr := zm_m181) (pc' := 76) (ls' := [(4, .int 56), (0, .ref 55), (1, .int 0), (2, .int a2), (3, .int a3)]) (st' := [.long 0, .int 56, .ref 58]) rfl rfl ?_
                          have k88 := (zs_eqE e87 (zs_eqE e85 (zs_eqE e84 (zs_eqE e83 (zs_eqE e82 (zs_eqE e80 (zs_eqE e79 k78)))))))
                          refine zy_hS (x := _) (mr := zm_m181) rfl rfl (zh_last k88 (by decide)) (fun he89 e89 => ?_)
                          refine zy_n 4 (mr := zm_m181) (pc' := 61) (ls' := [(4, .int 57), (0, .ref 55), (1, .int 0), (2, .int a2), (3, .int a3)]) (st' := [.int 60, .int 57]) rfl rfl ?_
                          refine zy_b (q := (64, [])) (mr := zm_m181) rfl rfl rfl ?_
                          refine zy_n 1 (mr := zm_m181) (pc' := 65) (ls' := [(4, .int 57), (0, .ref 55), (1, .int 0), (2, .int a2), (3, .int a3)]) (st' := [.ref 55]) rfl rfl ?_
                          refine zy_h (mr := zm_m181) rfl rfl (zh_get (v := .ref 58) (zs_neE e89 (zs_neE e87 k86 (by decide)) (by decide)) rfl) ?_
                          refine zy_n 6 (mr := zm_m181) (pc' := 76) (ls' := [(4, .int 57), (0, .ref 55), (1, .int 0), (2, .int a2), (3, .int a3)]) (st' := [.long 0, .int 57, .ref 58]) rfl rfl ?_
                          refine zy_hS (x := _) (mr := zm_m181) rfl rfl (zh_last (zs_eqE e89 k88) (by decide)) (fun he90 e90 => ?_)
                          refine zy_n 4 (mr := zm_m181) (pc' := 61) (ls' := [(4, .int 58), (0, .ref 55), (1, .int 0), (2, .int a2), (3, .int a3)]) (st' := [.int 60, .int 58]) rfl rfl ?_
                          refine zy_b (q := (64, [])) (mr := zm_m181) rfl rfl rfl ?_
                          refine zy_n 1 (mr := zm_m181) (pc' := 65) (ls' := [(4, .int 58), (0, .ref 55), (1, .int 0), (2, .int a2), (3, .int a3)]) (st' := [.ref 55]) rfl rfl ?_
                          as_aux_lemma =>
                            refine zy_h (mr := zm_m181) rfl rfl (zh_get (v := .ref 58) (zs_neE e90 (zs_neE e89 (zs_neE e87 k86 (by decide)) (by decide)) (by decide)) rfl) ?_
                            refine zy_n 6 (mr := zm_m181) (pc' := 76) (ls' := [(4, .int 58), (0, .ref 55), (1, .int 0), (2, .int a2), (3, .int a3)]) (st' := [.long 0, .int 58, .ref 58]) rfl rfl ?_
                            refine zy_hS (x := _) (mr := zm_m181) rfl rfl (zh_last (zs_eqE e90 (zs_eqE e89 k88)) (by decide)) (fun he91 e91 => ?_)
                            refine zy_n 4 (mr := zm_m181) (pc' := 61) (ls' := [(4, .int 59), (0, .ref 55), (1, .int 0), (2, .int a2), (3, .int a3)]) (st' := [.int 60, .int 59]) rfl rfl ?_
                            refine zy_b (q := (64, [])) (mr := zm_m181) rfl rfl rfl ?_
                            refine zy_n 1 (mr := zm_m181) (pc' := 65) (ls' := [(4, .int 59), (0, .ref 55), (1, .int 0), (2, .int a2), (3, .int a3)]) (st' := [.ref 55]) rfl rfl ?_
                            have k92 := (zs_neE e91 (zs_neE e90 (zs_neE e89 (zs_neE e87 k86 (by decide)) (by decide)) (by decide)) (by decide))
                            refine zy_h (mr := zm_m181) rfl rfl (zh_get (v := .ref 58) k92 rfl) ?_
                            refine zy_n 6 (mr := zm_m181) (pc' := 76) (ls' := [(4, .int 59), (0, .ref 55), (1, .int 0), (2, .int a2), (3, .int a3)]) (st' := [.long 0, .int 59, .ref 58]) rfl rfl ?_
                            refine zy_hS (x := _) (mr := zm_m181) rfl rfl (zh_last (zs_eqE e91 (zs_eqE e90 (zs_eqE e89 k88))) (by decide)) (fun he93 e93 => ?_)
                            refine zy_n 4 (mr := zm_m181) (pc' := 61) (ls' := [(4, .int 60), (0, .ref 55), (1, .int 0), (2, .int a2), (3, .int a3)]) (st' := [.int 60, .int 60]) rfl rfl ?_
                            refine zy_b (q := (83, [])) (mr := zm_m181) rfl rfl rfl ?_
                            refine zy_n 1 (mr := zm_m181) (pc' := 84) (ls' := [(4, .int 60), (0, .ref 55), (1, .int 0), (2, .int a2), (3, .int a3)]) (st' := [.int 0]) rfl rfl ?_
                            refine zy_r (mr := zm_m181) rfl rfl rfl ?_
                            refine ⟨⟨_, rfl, ?_⟩, Nat.le_trans (zs_lleE e93 (zs_lleE e91 (zs_lleE e90 (zs_lleE e89 (zs_lleE e87 (zs_lleE e85 (zs_lleE e84 (zs_lleE e83 (zs_lleE e82 (zs_lleE e80 (zs_lleE e79 (zs_lleE e77 (zs_lleE e76 (zs_lleE e74 (zs_lleE e73 (zs_lleE e72 (zs_lleE e71 (zs_lleE e69 (zs_lleE e67 (zs_lleE e66 (zs_lleE e65 (zs_lleE e63 (zs_lleE e62 (zs_lleE e61 (zs_lleE e60 (zs_lleE e57 (zs_lleE e56 (zs_lleE e55 (zs_lleE e54 (zs_lleE e52 (zs_lleE e51 (zs_lleE e50 (zs_lleE e48 (zs_lleE e46 (zs_lleE e45 (zs_lleE e44 (zs_lleE e43 (zs_lleE e41 (zs_lleE e40 (zs_lleE e38 (zs_lleE e37 (zs_lleE e35 (zs_lleE e34 (zs_lleE e33 (zs_lleE e32 (zs_lleE e30 (zs_lleE e28 (zs_lleE e27 (zs_lleE e26 (zs_lleE e24 (zs_lleE e23 (zs_lleE e22 (zs_lleE e21 (zs_lleE e18 (zs_lleE e17 (zs_lleE e16 (zs_lleE e15 (zs_lleE e13 (zs_lleE e12 (zs_lleE e11 (zs_lleE e9 (zs_lleE e6 (zs_lleE e1 KL))))))))))))))))))))))))))))))))))))))))))))))))))))))))))))))) (by decide), Nat.le_trans (zs_szleE (w := 240) e93 (zs_eqE e91 (zs_eqE e90 (zs_eqE e89 k88))) rfl rfl (zs_szleE (w := 240) e91 (zs_eqE e90 (zs_eqE e89 k88)) rfl rfl (zs_szleE (w := 240) e90 (zs_eqE e89 k88) rfl rfl (zs_szleE (w := 240) e89 k88 rfl rfl (zs_szleE (w := 240) e87 (zs_eqE e85 (zs_eqE e84 (zs_eqE e83 (zs_eqE e82 (zs_eqE e80 (zs_eqE e79 k78)))))) rfl rfl (zs_szleE (w := 240) e85 (zs_eqE e84 (zs_eqE e83 (zs_eqE e82 (zs_eqE e80 (zs_eqE e79 k78))))) rfl rfl (zs_szleE (w := 240) e84 (zs_eqE e83 (zs_eqE e82 (zs_eqE e80 (zs_eqE e79 k78)))) rfl rfl (zs_szleE (w := 240) e83 (zs_eqE e82 (zs_eqE e80 (zs_eqE e79 k78))) rfl rfl (zs_szleE (w := 240) e82 (zs_eqE e80 (zs_eqE e79 k78)) rfl rfl (zs_szleE (w := 240) e80 (zs_eqE e79 k78) rfl rfl (zs_szleE (w := 240) e79 k78 rfl rfl (zs_szleE (w := 240) e77 (zs_eqE e76 (zs_eqE e74 (zs_eqE e73 (zs_eqE e72 (zs_eqE e71 (zs_eqE e69 k68)))))) rfl rfl (zs_szleE (w := 240) e76 (zs_eqE e74 (zs_eqE e73 (zs_eqE e72 (zs_eqE e71 (zs_eqE e69 k68))))) rfl rfl (zs_szleE (w := 240) e74 (zs_eqE e73 (zs_eqE e72 (zs_eqE e71 (zs_eqE e69 k68)))) rfl rfl (zs_szleE (w := 240) e73 (zs_eqE e72 (zs_eqE e71 (zs_eqE e69 k68))) rfl rfl (zs_szleE (w := 240) e72 (zs_eqE e71 (zs_eqE e69 k68)) rfl rfl (zs_szleE (w := 240) e71 (zs_eqE e69 k68) rfl rfl (zs_szleE (w := 240) e69 k68 rfl rfl (zs_szleE (w := 240) e67 (zs_eqE e66 (zs_eqE e65 (zs_eqE e63 (zs_eqE e62 (zs_eqE e61 (zs_eqE e60 k59)))))) rfl rfl (zs_szleE (w := 240) e66 (zs_eqE e65 (zs_eqE e63 (zs_eqE e62 (zs_eqE e61 (zs_eqE e60 k59))))) rfl rfl (zs_szleE (w := 240) e65 (zs_eqE e63 (zs_eqE e62 (zs_eqE e61 (zs_eqE e60 k59)))) rfl rfl (zs_szleE (w := 240) e63 (zs_eqE e62 (zs_eqE e61 (zs_eqE e60 k59))) rfl rfl (zs_szleE (w := 240) e62 (zs_eqE e61 (zs_eqE e60 k59)) rfl rfl (zs_szleE (w := 240) e61 (zs_eqE e60 k59) rfl rfl (zs_szleE (w := 240) e60 k59 rfl rfl (zs_szleE (w := 240) e57 (zs_eqE e56 (zs_eqE e55 (zs_eqE e54 (zs_eqE e52 (zs_eqE e51 (zs_eqE e50 k49)))))) rfl rfl (zs_szleE (w := 240) e56 (zs_eqE e55 (zs_eqE e54 (zs_eqE e52 (zs_eqE e51 (zs_eqE e50 k49))))) rfl rfl (zs_szleE (w := 240) e55 (zs_eqE e54 (zs_eqE e52 (zs_eqE e51 (zs_eqE e50 k49)))) rfl rfl (zs_szleE (w := 240) e54 (zs_eqE e52 (zs_eqE e51 (zs_eqE e50 k49))) rfl rfl (zs_szleE (w := 240) e52 (zs_eqE e51 (zs_eqE e50 k49)) rfl rfl (zs_szleE (w := 240) e51 (zs_eqE e50 k49) rfl rfl (zs_szleE (w := 240) e50 k49 rfl rfl (zs_szleE (w := 240) e48 (zs_eqE e46 (zs_eqE e45 (zs_eqE e44 (zs_eqE e43 (zs_eqE e41 (zs_eqE e40 k39)))))) rfl rfl (zs_szleE (w := 240) e46 (zs_eqE e45 (zs_eqE e44 (zs_eqE e43 (zs_eqE e41 (zs_eqE e40 k39))))) rfl rfl (zs_szleE (w := 240) e45 (zs_eqE e44 (zs_eqE e43 (zs_eqE e41 (zs_eqE e40 k39)))) rfl rfl (zs_szleE (w := 240) e44 (zs_eqE e43 (zs_eqE e41 (zs_eqE e40 k39))) rfl rfl (zs_szleE (w := 240) e43 (zs_eqE e41 (zs_eqE e40 k39)) rfl rfl (zs_szleE (w := 240) e41 (zs_eqE e40 k39) rfl rfl (zs_szleE (w := 240) e40 k39 rfl rfl (zs_szleE (w := 240) e38 (zs_eqE e37 (zs_eqE e35 (zs_eqE e34 (zs_eqE e33 (zs_eqE e32 (zs_eqE e30 k29)))))) rfl rfl (zs_szleE (w := 240) e37 (zs_eqE e35 (zs_eqE e34 (zs_eqE e33 (zs_eqE e32 (zs_eqE e30 k29))))) rfl rfl (zs_szleE (w := 240) e35 (zs_eqE e34 (zs_eqE e33 (zs_eqE e32 (zs_eqE e30 k29)))) rfl rfl (zs_szleE (w := 240) e34 (zs_eqE e33 (zs_eqE e32 (zs_eqE e30 k29))) rfl rfl (zs_szleE (w := 240) e33 (zs_eqE e32 (zs_eqE e30 k29)) rfl rfl (zs_szleE (w := 240) e32 (zs_eqE e30 k29) rfl rfl (zs_szleE (w := 240) e30 k29 rfl rfl (zs_szleE (w := 240) e28 (zs_eqE e27 (zs_eqE e26 (zs_eqE e24 (zs_eqE e23 (zs_eqE e22 (zs_eqE e21 k20)))))) rfl rfl (zs_szleE (w := 240) e27 (zs_eqE e26 (zs_eqE e24 (zs_eqE e23 (zs_eqE e22 (zs_eqE e21 k20))))) rfl rfl (zs_szleE (w := 240) e26 (zs_eqE e24 (zs_eqE e23 (zs_eqE e22 (zs_eqE e21 k20)))) rfl rfl (zs_szleE (w := 240) e24 (zs_eqE e23 (zs_eqE e22 (zs_eqE e21 k20))) rfl rfl (zs_szleE (w := 240) e23 (zs_eqE e22 (zs_eqE e21 k20)) rfl rfl (zs_szleE (w := 240) e22 (zs_eqE e21 k20) rfl rfl (zs_szleE (w := 240) e21 k20 rfl rfl (zs_szleE (w := 240) e18 (zs_eqE e17 (zs_eqE e16 (zs_eqE e15 (zs_eqE e13 (zs_eqE e12 (zs_eqE e11 k10)))))) rfl rfl (zs_szleE (w := 240) e17 (zs_eqE e16 (zs_eqE e15 (zs_eqE e13 (zs_eqE e12 (zs_eqE e11 k10))))) rfl rfl (zs_szleE (w := 240) e16 (zs_eqE e15 (zs_eqE e13 (zs_eqE e12 (zs_eqE e11 k10)))) rfl rfl (zs_szleE (w := 240) e15 (zs_eqE e13 (zs_eqE e12 (zs_eqE e11 k10))) rfl rfl (zs_szleE (w := 240) e13 (zs_eqE e12 (zs_eqE e11 k10)) rfl rfl (zs_szleE (w := 240) e12 (zs_eqE e11 k10) rfl rfl (zs_szleE (w := 240) e11 k10 rfl rfl (zs_szleE (w := 4) e9 k8 rfl rfl (zs_szleE (w := 4) e6 (zs_neE e1 ((K 56 (by decide) (by decide)).trans (zp_i F 34 rfl)) (by decide)) rfl rfl (zs_szleE (w := 109) e1 ((K 55 (by decide) (by decide)).trans (zp_o F 10 rfl)) rfl rfl KS))))))))))))))))))))))))))))))))))))))))))))))))))))))))))))))) (by decide)⟩
                            first | (simp [zf_42, hz, hc3, hc4, hc5]; done) | (simp [zf_42, hz, hc3, hc4, hc5]; unfold zw; decide)
          · skip
            refine zy_n 1 (mr := zm_m181) (pc' := 39) (ls' := [(0, .ref 55), (1, .int 0), (2, .int a2), (3, .int a3)]) (st' := [.int (-3)]) rfl rfl ?_
            refine zy_r (mr := zm_m181) rfl rfl rfl ?_
            refine ⟨⟨_, rfl, ?_⟩, Nat.le_trans (zs_lleE e1 KL) (by decide), Nat.le_trans (zs_szleE (w := 109) e1 ((K 55 (by decide) (by decide)).trans (zp_o F 10 rfl)) rfl rfl KS) (by decide)⟩
            first | (simp [zf_42, hz, hc3, hc4, hc5]; done) | (simp [zf_42, hz, hc3, hc4, hc5]; unfold zw; decide)
        · skip
          refine zy_n 1 (mr := zm_m181) (pc' := 32) (ls' := [(0, .ref 55), (1, .int 0), (2, .int a2), (3, .int a3)]) (st' := [.int (-2)]) rfl rfl ?_
          refine zy_r (mr := zm_m181) rfl rfl rfl ?_
          refine ⟨⟨_, rfl, ?_⟩, Nat.le_trans (zs_lleE e1 KL) (by decide), Nat.le_trans (zs_szleE (w := 109) e1 ((K 55 (by decide) (by decide)).trans (zp_o F 10 rfl)) rfl rfl KS) (by decide)⟩
          first | (simp [zf_42, hz, hc3, hc4]; done) | (simp [zf_42, hz, hc3, hc4]; unfold zw; decide)
      · skip
        refine zy_b (q := (30, [])) (mr := zm_m181) rfl rfl rfl ?_
        refine zy_n 1 (mr := zm_m181) (pc' := 32) (ls' := [(0, .ref 55), (1, .int 0), (2, .int a2), (3, .int a3)]) (st' := [.int (-2)]) rfl rfl ?_
        refine zy_r (mr := zm_m181) rfl rfl rfl ?_
        refine ⟨⟨_, rfl, ?_⟩, Nat.le_trans (zs_lleE e1 KL) (by decide), Nat.le_trans (zs_szleE (w := 109) e1 ((K 55 (by decide) (by decide)).trans (zp_o F 10 rfl)) rfl rfl KS) (by decide)⟩
        first | (simp [zf_42, hz, hc3]; done) | (simp [zf_42, hz, hc3]; unfold zw; decide)
    · skip
      refine zy_n 2 (mr := zm_m181) (pc' := 2) (ls' := [(0, .ref 55), (1, .int 1), (2, .int a2), (3, .int a3)]) (st' := [.int 0, .ref 55]) rfl rfl ?_
      refine zy_hS (x := .inr (11, [.int 0, .ref 56, .ref 57, .ref 58, .ref 59, .int 0, .int 0, .int 0, .int 0, .int 0, .int 0, .int 20, .int 30, .int 5, .int 2, .ref 60, .ref 61, .ref 62, .ref 63, .ref 64, .ref 65, .ref 66, .ref 67, .ref 68, .ref 69, .ref 70, .ref 71, .ref 72, .ref 73, .ref 74, .ref 75, .ref 76, .ref 77, .ref 78, .ref 79, .ref 80, .ref 81, .ref 82, .ref 83, .ref 84, .ref 85, .ref 86, .ref 87, .ref 88, .ref 89, .ref 90, .ref 91, .ref 92, .ref 93, .ref 94, .int 0, .int (-1), .ref 95, .ref 96, .ref 97, .ref 98, .int 0, .int 0, .int 0, .int 0, .int 0, .int 0, .int 0, .int 0, .int 0, .int 0, .int 0, .int 0, .int 0, .long 0, .int 0, .int 0, .int 0, .long 0, .long 0, .long 0, .long 0, .int 0, .int 0, .int 0, .int 0, .ref 99, .int 0, .int 0, .int 0, .ref 100, .ref 101, .ref 102, .ref 103, .ref 104, .ref 105, .ref 106, .ref 107, .ref 108, .ref 109, .ref 110, .ref 111, .ref 112, .ref 113, .ref 114, .int 0, .int 0, .int 0, .long 0, .long 0, .int 0, .ref 115, .ref 116, .int 0])) (mr := zm_m181) rfl rfl (zh_put ((K 55 (by decide) (by decide)).trans (zp_o F 10 rfl)) rfl rfl) (fun he94 e94 => ?_)
      refine zy_n 1 (mr := zm_m181) (pc' := 6) (ls' := [(0, .ref 55), (1, .int 1), (2, .int a2), (3, .int a3)]) (st' := [.int 1]) rfl rfl ?_
      refine zy_c (mc := zm_m182) (mr := zm_m181) rfl rfl rfl rfl rfl ?_
      refine zy_n 4 (mr := zm_m182) (pc' := 6) (ls' := [(0, .int 1)]) (st' := [.long 3, .long 0, .long 1]) rfl rfl ?_
      refine zy_c (mc := zm_m183) (mr := zm_m182) rfl rfl rfl rfl rfl (zm_Y.mono (zk_in 1 0 3 (by decide) (by decide) (by decide)) ?_)
      rintro r h1 ⟨rfl, ⟨rfl, hc95⟩ | ⟨rfl, hc95⟩⟩
      rotate_left
      · exact absurd hz hc95
      refine zy_r (mr := zm_m182) rfl rfl rfl ?_
      refine zy_b (q := (12, [])) (mr := zm_m181) rfl rfl rfl ?_
      refine zy_n 4 (mr := zm_m181) (pc' := 18) (ls' := [(0, .ref 55), (1, .int 1), (2, .int a2), (3, .int a3)]) (st' := [.long 3, .long 0, .long a2.toInt64]) rfl rfl ?_
      refine zy_c (mc := zm_m183) (mr := zm_m181) rfl rfl rfl rfl rfl (zm_Y.mono (zk_in a2 0 3 rfl (by decide) (by decide)) ?_)
      rintro r h1 ⟨rfl, ⟨rfl, hc96⟩ | ⟨rfl, hc96⟩⟩
      · skip
        refine zy_b (q := (24, [])) (mr := zm_m181) rfl rfl rfl ?_
        refine zy_n 2 (mr := zm_m181) (pc' := 27) (ls' := [(0, .ref 55), (1, .int 1), (2, .int a2), (3, .int a3)]) (st' := [.int 60, .int a3]) rfl rfl ?_
        refine zy_b (mr := zm_m181) rfl rfl rfl (zc_le (fun hc97 => ?_) (fun hc97 => ?_))
        · skip
          refine zy_n 1 (mr := zm_m181) (pc' := 34) (ls' := [(0, .ref 55), (1, .int 1), (2, .int a2), (3, .int a3)]) (st' := [.int a3]) rfl rfl ?_
          as_aux_lemma =>
            refine zy_b (mr := zm_m181) rfl rfl rfl (zi_ge (fun hc98 => ?_) (fun hc98 => ?_))
            · skip
              refine zy_n 1 (mr := zm_m181) (pc' := 41) (ls' := [(0, .ref 55), (1, .int 1), (2, .int a2), (3, .int a3)]) (st' := [.ref 55]) rfl rfl ?_
              refine zy_h (mr := zm_m181) rfl rfl (zh_get (v := .ref 56) (zs_eqE e94 ((K 55 (by decide) (by decide)).trans (zp_o F 10 rfl))) rfl) ?_
              refine zy_n 2 (mr := zm_m181) (pc' := 46) (ls' := [(0, .ref 55), (1, .int 1), (2, .int a2), (3, .int a3)]) (st' := [.int a2, .int 1, .ref 56]) rfl rfl ?_
              refine zy_hS (x := _) (mr := zm_m181) rfl rfl (zh_iast (zs_neE e94 ((K 56 (by decide) (by decide)).trans (zp_i F 34 rfl)) (by decide)) (by decide)) (fun he99 e99 => ?_)
              refine zy_n 1 (mr := zm_m181) (pc' := 48) (ls' := [(0, .ref 55), (1, .int 1), (2, .int a2), (3, .int a3)]) (st' := [.ref 55]) rfl rfl ?_
              have k100 := (zs_neE e99 (zs_eqE e94 ((K 55 (by decide) (by decide)).trans (zp_o F 10 rfl))) (by decide))
              refine zy_h (mr := zm_m181) rfl rfl (zh_get (v := .ref 57) k100 rfl) ?_
              refine zy_n 2 (mr := zm_m181) (pc' := 53) (ls' := [(0, .ref 55), (1, .int 1), (2, .int a2), (3, .int a3)]) (st' := [.int a3, .int 1, .ref 57]) rfl rfl ?_
              have k101 := (zs_neE e99 (zs_neE e94 ((K 57 (by decide) (by decide)).trans (zp_i F 35 rfl)) (by decide)) (by decide))
              refine zy_hS (x := _) (mr := zm_m181) rfl rfl (zh_iast k101 (by decide)) (fun he102 e102 => ?_)
              refine zy_n 4 (mr := zm_m181) (pc' := 61) (ls' := [(4, .int 0), (0, .ref 55), (1, .int 1), (2, .int a2), (3, .int a3)]) (st' := [.int 60, .int 0]) rfl rfl ?_
              refine zy_b (q := (64, [])) (mr := zm_m181) rfl rfl rfl ?_
              refine zy_n 1 (mr := zm_m181) (pc' := 65) (ls' := [(4, .int 0), (0, .ref 55), (1, .int 1), (2, .int a2), (3, .int a3)]) (st' := [.ref 55]) rfl rfl ?_
              refine zy_h (mr := zm_m181) rfl rfl (zh_get (v := .ref 58) (zs_neE e102 k100 (by decide)) rfl) ?_
              refine zy_n 6 (mr := zm_m181) (pc' := 76) (ls' := [(4, .int 0), (0, .ref 55), (1, .int 1), (2, .int a2), (3, .int a3)]) (st' := [.long 0, .int 60, .ref 58]) rfl rfl ?_
              have k103 := (zs_neE e102 (zs_neE e99 (zs_neE e94 ((K 58 (by decide) (by decide)).trans (zp_l F 8 rfl)) (by decide)) (by decide)) (by decide))
              refine zy_hS (x := _) (mr := zm_m181) rfl rfl (zh_last k103 (by decide)) (fun he104 e104 => ?_)
              refine zy_n 4 (mr := zm_m181) (pc' := 61) (ls' := [(4, .int 1), (0, .ref 55), (1, .int 1), (2, .int a2), (3, .int a3)]) (st' := [.int 60, .int 1]) rfl rfl ?_
              refine zy_b (q := (64, [])) (mr := zm_m181) rfl rfl rfl ?_
              refine zy_n 1 (mr := zm_m181) (pc' := 65) (ls' := [(4, .int 1), (0, .ref 55), (1, .int 1), (2, .int a2), (3, .int a3)]) (st' := [.ref 55]) rfl rfl ?_
              refine zy_h (mr := zm_m181) rfl rfl (zh_get (v := .ref 58) (zs_neE e104 (zs_neE e102 k100 (by decide)) (by decide)) rfl) ?_
              refine zy_n 6 (mr := zm_m181) (pc' := 76) (ls' := [(4, .int 1), (0, .ref 55), (1, .int 1), (2, .int a2), (3, .int a3)]) (st' := [.long 0, .int 61, .ref 58]) rfl rfl ?_
              refine zy_hS (x := _) (mr := zm_m181) rfl rfl (zh_last (zs_eqE e104 k103) (by decide)) (fun he105 e105 => ?_)
              refine zy_n 4 (mr := zm_m181) (pc' := 61) (ls' := [(4, .int 2), (0, .ref 55), (1, .int 1), (2, .int a2), (3, .int a3)]) (st' := [.int 60, .int 2]) rfl rfl ?_
              refine zy_b (q := (64, [])) (mr := zm_m181) rfl rfl rfl ?_
              refine zy_n 1 (mr := zm_m181) (pc' := 65) (ls' := [(4, .int 2), (0, .ref 55), (1, .int 1), (2, .int a2), (3, .int a3)]) (st' := [.ref 55]) rfl rfl ?_
              refine zy_h (mr := zm_m181) rfl rfl (zh_get (v := .ref 58) (zs_neE e105 (zs_neE e104 (zs_neE e102 k100 (by decide)) (by decide)) (by decide)) rfl) ?_
              refine zy_n 6 (mr := zm_m181) (pc' := 76) (ls' := [(4, .int 2), (0, .ref 55), (1, .int 1), (2, .int a2), (3, .int a3)]) (st' := [.long 0, .int 62, .ref 58]) rfl rfl ?_
              refine zy_hS (x := _) (mr := zm_m181) rfl rfl (zh_last (zs_eqE e105 (zs_eqE e104 k103)) (by decide)) (fun he106 e106 => ?_)
              refine zy_n 4 (mr := zm_m181) (pc' := 61) (ls' := [(4, .int 3), (0, .ref 55), (1, .int 1), (2, .int a2), (3, .int a3)]) (st' := [.int 60, .int 3]) rfl rfl ?_
              refine zy_b (q := (64, [])) (mr := zm_m181) rfl rfl rfl ?_
              refine zy_n 1 (mr := zm_m181) (pc' := 65) (ls' := [(4, .int 3), (0, .ref 55), (1, .int 1), (2, .int a2), (3, .int a3)]) (st' := [.ref 55]) rfl rfl ?_
              have k107 := (zs_neE e106 (zs_neE e105 (zs_neE e104 (zs_neE e102 k100 (by decide)) (by decide)) (by decide)) (by decide))
              refine zy_h (mr := zm_m181) rfl rfl (zh_get (v := .ref 58) k107 rfl) ?_
              refine zy_n 6 (mr := zm_m181) (pc' := 76) (ls' := [(4, .int 3), (0, .ref 55), (1, .int 1), (2, .int a2), (3, .int a3)]) (st' := [.long 0, .int 63, .ref 58]) rfl rfl ?_
              refine zy_hS (x := _) (mr := zm_m181) rfl rfl (zh_last (zs_eqE e106 (zs_eqE e105 (zs_eqE e104 k103))) (by decide)) (fun he108 e108 => ?_)
              refine zy_n 4 (mr := zm_m181) (pc' := 61) (ls' := [(4, .int 4), (0, .ref 55), (1, .int 1), (2, .int a2), (3, .int a3)]) (st' := [.int 60, .int 4]) rfl rfl ?_
              refine zy_b (q := (64, [])) (mr := zm_m181) rfl rfl rfl ?_
              refine zy_n 1 (mr := zm_m181) (pc' := 65) (ls' := [(4, .int 4), (0, .ref 55), (1, .int 1), (2, .int a2), (3, .int a3)]) (st' := [.ref 55]) rfl rfl ?_
              refine zy_h (mr := zm_m181) rfl rfl (zh_get (v := .ref 58) (zs_neE e108 k107 (by decide)) rfl) ?_
              refine zy_n 6 (mr := zm_m181) (pc' := 76) (ls' := [(4, .int 4), (0, .ref 55), (1, .int 1), (2, .int a2), (3, .int a3)]) (st' := [.long 0, .int 64, .ref 58]) rfl rfl ?_
              refine zy_hS (x := _) (mr := zm_m181) rfl rfl (zh_last (zs_eqE e108 (zs_eqE e106 (zs_eqE e105 (zs_eqE e104 k103)))) (by decide)) (fun he109 e109 => ?_)
              refine zy_n 4 (mr := zm_m181) (pc' := 61) (ls' := [(4, .int 5), (0, .ref 55), (1, .int 1), (2, .int a2), (3, .int a3)]) (st' := [.int 60, .int 5]) rfl rfl ?_
              refine zy_b (q := (64, [])) (mr := zm_m181) rfl rfl rfl ?_
              refine zy_n 1 (mr := zm_m181) (pc' := 65) (ls' := [(4, .int 5), (0, .ref 55), (1, .int 1), (2, .int a2), (3, .int a3)]) (st' := [.ref 55]) rfl rfl ?_
              refine zy_h (mr := zm_m181) rfl rfl (zh_get (v := .ref 58) (zs_neE e109 (zs_neE e108 k107 (by decide)) (by decide)) rfl) ?_
              refine zy_n 6 (mr := zm_m181) (pc' := 76) (ls' := [(4, .int 5), (0, .ref 55), (1, .int 1), (2, .int a2), (3, .int a3)]) (st' := [.long 0, .int 65, .ref 58]) rfl rfl ?_
              refine zy_hS (x := _) (mr := zm_m181) rfl rfl (zh_last (zs_eqE e109 (zs_eqE e108 (zs_eqE e106 (zs_eqE e105 (zs_eqE e104 k103))))) (by decide)) (fun he110 e110 => ?_)
              refine zy_n 4 (mr := zm_m181) (pc' := 61) (ls' := [(4, .int 6), (0, .ref 55), (1, .int 1), (2, .int a2), (3, .int a3)]) (st' := [.int 60, .int 6]) rfl rfl ?_
              as_aux_lemma =>
                refine zy_b (q := (64, [])) (mr := zm_m181) rfl rfl rfl ?_
                refine zy_n 1 (mr := zm_m181) (pc' := 65) (ls' := [(4, .int 6), (0, .ref 55), (1, .int 1), (2, .int a2), (3, .int a3)]) (st' := [.ref 55]) rfl rfl ?_
                refine zy_h (mr := zm_m181) rfl rfl (zh_get (v := .ref 58) (zs_neE e110 (zs_neE e109 (zs_neE e108 k107 (by decide)) (by decide)) (by decide)) rfl) ?_
                refine zy_n 6 (mr := zm_m181) (pc' := 76) (ls' := [(4, .int 6), (0, .ref 55), (1, .int 1), (2, .int a2), (3, .int a3)]) (st' := [.long 0, .int 66, .ref 58]) rfl rfl ?_
                refine zy_hS (x := _) (mr := zm_m181) rfl rfl (zh_last (zs_eqE e110 (zs_eqE e109 (zs_eqE e108 (zs_eqE e106 (zs_eqE e105 (zs_eqE e104 k103)))))) (by decide)) (fun he111 e111 => ?_)
                refine zy_n 4 (mr := zm_m181) (pc' := 61) (ls' := [(4, .int 7), (0, .ref 55), (1, .int 1), (2, .int a2), (3, .int a3)]) (st' := [.int 60, .int 7]) rfl rfl ?_
                refine zy_b (q := (64, [])) (mr := zm_m181) rfl rfl rfl ?_
                refine zy_n 1 (mr := zm_m181) (pc' := 65) (ls' := [(4, .int 7), (0, .ref 55), (1, .int 1), (2, .int a2), (3, .int a3)]) (st' := [.ref 55]) rfl rfl ?_
                have k112 := (zs_neE e111 (zs_neE e110 (zs_neE e109 (zs_neE e108 k107 (by decide)) (by decide)) (by decide)) (by decide))
                refine zy_h (mr := zm_m181) rfl rfl (zh_get (v := .ref 58) k112 rfl) ?_
                refine zy_n 6 (mr := zm_m181) (pc' := 76) (ls' := [(4, .int 7), (0, .ref 55), (1, .int 1), (2, .int a2), (3, .int a3)]) (st' := [.long 0, .int 67, .ref 58]) rfl rfl ?_
                have k113 := (zs_eqE e111 (zs_eqE e110 (zs_eqE e109 (zs_eqE e108 (zs_eqE e106 (zs_eqE e105 (zs_eqE e104 k103)))))))
                refine zy_hS (x := _) (mr := zm_m181) rfl rfl (zh_last k113 (by decide)) (fun he114 e114 => ?_)
                refine zy_n 4 (mr := zm_m181) (pc' := 61) (ls' := [(4, .int 8), (0, .ref 55), (1, .int 1), (2, .int a2), (3, .int a3)]) (st' := [.int 60, .int 8]) rfl rfl ?_
                refine zy_b (q := (64, [])) (mr := zm_m181) rfl rfl rfl ?_
                refine zy_n 1 (mr := zm_m181) (pc' := 65) (ls' := [(4, .int 8), (0, .ref 55), (1, .int 1), (2, .int a2), (3, .int a3)]) (st' := [.ref 55]) rfl rfl ?_
                refine zy_h (mr := zm_m181) rfl rfl (zh_get (v := .ref 58) (zs_neE e114 k112 (by decide)) rfl) ?_
                refine zy_n 6 (mr := zm_m181) (pc' := 76) (ls' := [(4, .int 8), (0, .ref 55), (1, .int 1), (2, .int a2), (3, .int a3)]) (st' := [.long 0, .int 68, .ref 58]) rfl rfl ?_
                refine zy_hS (x := _) (mr := zm_m181) rfl rfl (zh_last (zs_eqE e114 k113) (by decide)) (fun he115 e115 => ?_)
                refine zy_n 4 (mr := zm_m181) (pc' := 61) (ls' := [(4, .int 9), (0, .ref 55), (1, .int 1), (2, .int a2), (3, .int a3)]) (st' := [.int 60, .int 9]) rfl rfl ?_
                refine zy_b (q := (64, [])) (mr := zm_m181) rfl rfl rfl ?_
                refine zy_n 1 (mr := zm_m181) (pc' := 65) (ls' := [(4, .int 9), (0, .ref 55), (1, .int 1), (2, .int a2), (3, .int a3)]) (st' := [.ref 55]) rfl rfl ?_
                refine zy_h (mr := zm_m181) rfl rfl (zh_get (v := .ref 58) (zs_neE e115 (zs_neE e114 k112 (by decide)) (by decide)) rfl) ?_
                refine zy_n 6 (mr := zm_m181) (pc' := 76) (ls' := [(4, .int 9), (0, .ref 55), (1, .int 1), (2, .int a2), (3, .int a3)]) (st' := [.long 0, .int 69, .ref 58]) rfl rfl ?_
                refine zy_hS (x := _) (mr := zm_m181) rfl rfl (zh_last (zs_eqE e115 (zs_eqE e114 k113)) (by decide)) (fun he116 e116 => ?_)
                refine zy_n 4 (mr := zm_m181) (pc' := 61) (ls' := [(4, .int 10), (0, .ref 55), (1, .int 1), (2, .int a2), (3, .int a3)]) (st' := [.int 60, .int 10]) rfl rfl ?_
                refine zy_b (q := (64, [])) (mr := zm_m181) rfl rfl rfl ?_
                refine zy_n 1 (mr := zm_m181) (pc' := 65) (ls' := [(4, .int 10), (0, .ref 55), (1, .int 1), (2, .int a2), (3, .int a3)]) (st' := [.ref 55]) rfl rfl ?_
                refine zy_h (mr := zm_m181) rfl rfl (zh_get (v := .ref 58) (zs_neE e116 (zs_neE e115 (zs_neE e114 k112 (by decide)) (by decide)) (by decide)) rfl) ?_
                refine zy_n 6 (mr := zm_m181) (pc' := 76) (ls' := [(4, .int 10), (0, .ref 55), (1, .int 1), (2, .int a2), (3, .int a3)]) (st' := [.long 0, .int 70, .ref 58]) rfl rfl ?_
                refine zy_hS (x := _) (mr := zm_m181) rfl rfl (zh_last (zs_eqE e116 (zs_eqE e115 (zs_eqE e114 k113))) (by decide)) (fun he117 e117 => ?_)
                refine zy_n 4 (mr := zm_m181) (pc' := 61) (ls' := [(4, .int 11), (0, .ref 55), (1, .int 1), (2, .int a2), (3, .int a3)]) (st' := [.int 60, .int 11]) rfl rfl ?_
                refine zy_b (q := (64, [])) (mr := zm_m181) rfl rfl rfl ?_
                refine zy_n 1 (mr := zm_m181) (pc' := 65) (ls' := [(4, .int 11), (0, .ref 55), (1, .int 1), (2, .int a2), (3, .int a3)]) (st' := [.ref 55]) rfl rfl ?_
                have k118 := (zs_neE e117 (zs_neE e116 (zs_neE e115 (zs_neE e114 k112 (by decide)) (by decide)) (by decide)) (by decide))
                refine zy_h (mr := zm_m181) rfl rfl (zh_get (v := .ref 58) k118 rfl) ?_
                refine zy_n 6 (mr := zm_m181) (pc' := 76) (ls' := [(4, .int 11), (0, .ref 55), (1, .int 1), (2, .int a2), (3, .int a3)]) (st' := [.long 0, .int 71, .ref 58]) rfl rfl ?_
                refine zy_hS (x := _) (mr := zm_m181) rfl rfl (zh_last (zs_eqE e117 (zs_eqE e116 (zs_eqE e115 (zs_eqE e114 k113)))) (by decide)) (fun he119 e119 => ?_)
                refine zy_n 4 (mr := zm_m181) (pc' := 61) (ls' := [(4, .int 12), (0, .ref 55), (1, .int 1), (2, .int a2), (3, .int a3)]) (st' := [.int 60, .int 12]) rfl rfl ?_
                refine zy_b (q := (64, [])) (mr := zm_m181) rfl rfl rfl ?_
                refine zy_n 1 (mr := zm_m181) (pc' := 65) (ls' := [(4, .int 12), (0, .ref 55), (1, .int 1), (2, .int a2), (3, .int a3)]) (st' := [.ref 55]) rfl rfl ?_
                refine zy_h (mr := zm_m181) rfl rfl (zh_get (v := .ref 58) (zs_neE e119 k118 (by decide)) rfl) ?_
                refine zy_n 6 (mr := zm_m181) (pc' := 76) (ls' := [(4, .int 12), (0, .ref 55), (1, .int 1), (2, .int a2), (3, .int a3)]) (st' := [.long 0, .int 72, .ref 58]) rfl rfl ?_
                refine zy_hS (x := _) (mr := zm_m181) rfl rfl (zh_last (zs_eqE e119 (zs_eqE e117 (zs_eqE e116 (zs_eqE e115 (zs_eqE e114 k113))))) (by decide)) (fun he120 e120 => ?_)
                refine zy_n 4 (mr := zm_m181) (pc' := 61) (ls' := [(4, .int 13), (0, .ref 55), (1, .int 1), (2, .int a2), (3, .int a3)]) (st' := [.int 60, .int 13]) rfl rfl ?_
                refine zy_b (q := (64, [])) (mr := zm_m181) rfl rfl rfl ?_
                refine zy_n 1 (mr := zm_m181) (pc' := 65) (ls' := [(4, .int 13), (0, .ref 55), (1, .int 1), (2, .int a2), (3, .int a3)]) (st' := [.ref 55]) rfl rfl ?_
                refine zy_h (mr := zm_m181) rfl rfl (zh_get (v := .ref 58) (zs_neE e120 (zs_neE e119 k118 (by decide)) (by decide)) rfl) ?_
                refine zy_n 6 (mr := zm_m181) (pc' := 76) (ls' := [(4, .int 13), (0, .ref 55), (1, .int 1), (2, .int a2), (3, .int a3)]) (st' := [.long 0, .int 73, .ref 58]) rfl rfl ?_
                refine zy_hS (x := _) (mr := zm_m181) rfl rfl (zh_last (zs_eqE e120 (zs_eqE e119 (zs_eqE e117 (zs_eqE e116 (zs_eqE e115 (zs_eqE e114 k113)))))) (by decide)) (fun he121 e121 => ?_)
                refine zy_n 4 (mr := zm_m181) (pc' := 61) (ls' := [(4, .int 14), (0, .ref 55), (1, .int 1), (2, .int a2), (3, .int a3)]) (st' := [.int 60, .int 14]) rfl rfl ?_
                as_aux_lemma =>
                  refine zy_b (q := (64, [])) (mr := zm_m181) rfl rfl rfl ?_
                  refine zy_n 1 (mr := zm_m181) (pc' := 65) (ls' := [(4, .int 14), (0, .ref 55), (1, .int 1), (2, .int a2), (3, .int a3)]) (st' := [.ref 55]) rfl rfl ?_
                  refine zy_h (mr := zm_m181) rfl rfl (zh_get (v := .ref 58) (zs_neE e121 (zs_neE e120 (zs_neE e119 k118 (by decide)) (by decide)) (by decide)) rfl) ?_
                  refine zy_n 6 (mr := zm_m181) (pc' := 76) (ls' := [(4, .int 14), (0, .ref 55), (1, .int 1), (2, .int a2), (3, .int a3)]) (st' := [.long 0, .int 74, .ref 58]) rfl rfl ?_
                  have k122 := (zs_eqE e121 (zs_eqE e120 (zs_eqE e119 (zs_eqE e117 (zs_eqE e116 (zs_eqE e115 (zs_eqE e114 k113)))))))
                  refine zy_hS (x := _) (mr := zm_m181) rfl rfl (zh_last k122 (by decide)) (fun he123 e123 => ?_)
                  refine zy_n 4 (mr := zm_m181) (pc' := 61) (ls' := [(4, .int 15), (0, .ref 55), (1, .int 1), (2, .int a2), (3, .int a3)]) (st' := [.int 60, .int 15]) rfl rfl ?_
                  refine zy_b (q := (64, [])) (mr := zm_m181) rfl rfl rfl ?_
                  refine zy_n 1 (mr := zm_m181) (pc' := 65) (ls' := [(4, .int 15), (0, .ref 55), (1, .int 1), (2, .int a2), (3, .int a3)]) (st' := [.ref 55]) rfl rfl ?_
                  have k124 := (zs_neE e123 (zs_neE e121 (zs_neE e120 (zs_neE e119 k118 (by decide)) (by decide)) (by decide)) (by decide))
                  refine zy_h (mr := zm_m181) rfl rfl (zh_get (v := .ref 58) k124 rfl) ?_
                  refine zy_n 6 (mr := zm_m181) (pc' := 76) (ls' := [(4, .int 15), (0, .ref 55), (1, .int 1), (2, .int a2), (3, .int a3)]) (st' := [.long 0, .int 75, .ref 58]) rfl rfl ?_
                  refine zy_hS (x := _) (mr := zm_m181) rfl rfl (zh_last (zs_eqE e123 k122) (by decide)) (fun he125 e125 => ?_)
                  refine zy_n 4 (mr := zm_m181) (pc' := 61) (ls' := [(4, .int 16), (0, .ref 55), (1, .int 1), (2, .int a2), (3, .int a3)]) (st' := [.int 60, .int 16]) rfl rfl ?_
                  refine zy_b (q := (64, [])) (mr := zm_m181) rfl rfl rfl ?_
                  refine zy_n 1 (mr := zm_m181) (pc' := 65) (ls' := [(4, .int 16), (0, .ref 55), (1, .int 1), (2, .int a2), (3, .int a3)]) (st' := [.ref 55]) rfl rfl ?_
                  refine zy_h (mr := zm_m181) rfl rfl (zh_get (v := .ref 58) (zs_neE e125 k124 (by decide)) rfl) ?_
                  refine zy_n 6 (mr := zm_m181) (pc' := 76) (ls' := [(4, .int 16), (0, .ref 55), (1, .int 1), (2, .int a2), (3, .int a3)]) (st' := [.long 0, .int 76, .ref 58]) rfl rfl ?_
                  refine zy_hS (x := _) (mr := zm_m181) rfl rfl (zh_last (zs_eqE e125 (zs_eqE e123 k122)) (by decide)) (fun he126 e126 => ?_)
                  refine zy_n 4 (mr := zm_m181) (pc' := 61) (ls' := [(4, .int 17), (0, .ref 55), (1, .int 1), (2, .int a2), (3, .int a3)]) (st' := [.int 60, .int 17]) rfl rfl ?_
                  refine zy_b (q := (64, [])) (mr := zm_m181) rfl rfl rfl ?_
                  refine zy_n 1 (mr := zm_m181) (pc' := 65) (ls' := [(4, .int 17), (0, .ref 55), (1, .int 1), (2, .int a2), (3, .int a3)]) (st' := [.ref 55]) rfl rfl ?_
                  refine zy_h (mr := zm_m181) rfl rfl (zh_get (v := .ref 58) (zs_neE e126 (zs_neE e125 k124 (by decide)) (by decide)) rfl) ?_
                  refine zy_n 6 (mr := zm_m181) (pc' := 76) (ls' := [(4, .int 17), (0, .ref 55), (1, .int 1), (2, .int a2), (3, .int a3)]) (st' := [.long 0, .int 77, .ref 58]) rfl rfl ?_
                  refine zy_hS (x := _) (mr := zm_m181) rfl rfl (zh_last (zs_eqE e126 (zs_eqE e125 (zs_eqE e123 k122))) (by decide)) (fun he127 e127 => ?_)
                  refine zy_n 4 (mr := zm_m181) (pc' := 61) (ls' := [(4, .int 18), (0, .ref 55), (1, .int 1), (2, .int a2), (3, .int a3)]) (st' := [.int 60, .int 18]) rfl rfl ?_
                  refine zy_b (q := (64, [])) (mr := zm_m181) rfl rfl rfl ?_
                  refine zy_n 1 (mr := zm_m181) (pc' := 65) (ls' := [(4, .int 18), (0, .ref 55), (1, .int 1), (2, .int a2), (3, .int a3)]) (st' := [.ref 55]) rfl rfl ?_
                  refine zy_h (mr := zm_m181) rfl rfl (zh_get (v := .ref 58) (zs_neE e127 (zs_neE e126 (zs_neE e125 k124 (by decide)) (by decide)) (by decide)) rfl) ?_
                  refine zy_n 6 (mr := zm_m181) (pc' := 76) (ls' := [(4, .int 18), (0, .ref 55), (1, .int 1), (2, .int a2), (3, .int a3)]) (st' := [.long 0, .int 78, .ref 58]) rfl rfl ?_
                  refine zy_hS (x := _) (mr := zm_m181) rfl rfl (zh_last (zs_eqE e127 (zs_eqE e126 (zs_eqE e125 (zs_eqE e123 k122)))) (by decide)) (fun he128 e128 => ?_)
                  refine zy_n 4 (mr := zm_m181) (pc' := 61) (ls' := [(4, .int 19), (0, .ref 55), (1, .int 1), (2, .int a2), (3, .int a3)]) (st' := [.int 60, .int 19]) rfl rfl ?_
                  refine zy_b (q := (64, [])) (mr := zm_m181) rfl rfl rfl ?_
                  refine zy_n 1 (mr := zm_m181) (pc' := 65) (ls' := [(4, .int 19), (0, .ref 55), (1, .int 1), (2, .int a2), (3, .int a3)]) (st' := [.ref 55]) rfl rfl ?_
                  have k129 := (zs_neE e128 (zs_neE e127 (zs_neE e126 (zs_neE e125 k124 (by decide)) (by decide)) (by decide)) (by decide))
                  refine zy_h (mr := zm_m181) rfl rfl (zh_get (v := .ref 58) k129 rfl) ?_
                  refine zy_n 6 (mr := zm_m181) (pc' := 76) (ls' := [(4, .int 19), (0, .ref 55), (1, .int 1), (2, .int a2), (3, .int a3)]) (st' := [.long 0, .int 79, .ref 58]) rfl rfl ?_
                  refine zy_hS (x := _) (mr := zm_m181) rfl rfl (zh_last (zs_eqE e128 (zs_eqE e127 (zs_eqE e126 (zs_eqE e125 (zs_eqE e123 k122))))) (by decide)) (fun he130 e130 => ?_)
                  refine zy_n 4 (mr := zm_m181) (pc' := 61) (ls' := [(4, .int 20), (0, .ref 55), (1, .int 1), (2, .int a2), (3, .int a3)]) (st' := [.int 60, .int 20]) rfl rfl ?_
                  refine zy_b (q := (64, [])) (mr := zm_m181) rfl rfl rfl ?_
                  refine zy_n 1 (mr := zm_m181) (pc' := 65) (ls' := [(4, .int 20), (0, .ref 55), (1, .int 1), (2, .int a2), (3, .int a3)]) (st' := [.ref 55]) rfl rfl ?_
                  refine zy_h (mr := zm_m181) rfl rfl (zh_get (v := .ref 58) (zs_neE e130 k129 (by decide)) rfl) ?_
                  refine zy_n 6 (mr := zm_m181) (pc' := 76) (ls' := [(4, .int 20), (0, .ref 55), (1, .int 1), (2, .int a2), (3, .int a3)]) (st' := [.long 0, .int 80, .ref 58]) rfl rfl ?_
                  refine zy_hS (x := _) (mr := zm_m181) rfl rfl (zh_last (zs_eqE e130 (zs_eqE e128 (zs_eqE e127 (zs_eqE e126 (zs_eqE e125 (zs_eqE e123 k122)))))) (by decide)) (fun he131 e131 => ?_)
                  refine zy_n 4 (mr := zm_m181) (pc' := 61) (ls' := [(4, .int 21), (0, .ref 55), (1, .int 1), (2, .int a2), (3, .int a3)]) (st' := [.int 60, .int 21]) rfl rfl ?_
                  refine zy_b (q := (64, [])) (mr := zm_m181) rfl rfl rfl ?_
                  refine zy_n 1 (mr := zm_m181) (pc' := 65) (ls' := [(4, .int 21), (0, .ref 55), (1, .int 1), (2, .int a2), (3, .int a3)]) (st' := [.ref 55]) rfl rfl ?_
                  refine zy_h (mr := zm_m181) rfl rfl (zh_get (v := .ref 58) (zs_neE e131 (zs_neE e130 k129 (by decide)) (by decide)) rfl) ?_
                  refine zy_n 6 (mr := zm_m181) (pc' := 76) (ls' := [(4, .int 21), (0, .ref 55), (1, .int 1), (2, .int a2), (3, .int a3)]) (st' := [.long 0, .int 81, .ref 58]) rfl rfl ?_
                  have k132 := (zs_eqE e131 (zs_eqE e130 (zs_eqE e128 (zs_eqE e127 (zs_eqE e126 (zs_eqE e125 (zs_eqE e123 k122)))))))
                  refine zy_hS (x := _) (mr := zm_m181) rfl rfl (zh_last k132 (by decide)) (fun he133 e133 => ?_)
                  refine zy_n 4 (mr := zm_m181) (pc' := 61) (ls' := [(4, .int 22), (0, .ref 55), (1, .int 1), (2, .int a2), (3, .int a3)]) (st' := [.int 60, .int 22]) rfl rfl ?_
                  as_aux_lemma =>
                    refine zy_b (q := (64, [])) (mr := zm_m181) rfl rfl rfl ?_
                    refine zy_n 1 (mr := zm_m181) (pc' := 65) (ls' := [(4, .int 22), (0, .ref 55), (1, .int 1), (2, .int a2), (3, .int a3)]) (st' := [.ref 55]) rfl rfl ?_
                    refine zy_h (mr := zm_m181) rfl rfl (zh_get (v := .ref 58) (zs_neE e133 (zs_neE e131 (zs_neE e130 k129 (by decide)) (by decide)) (by decide)) rfl) ?_
                    refine zy_n 6 (mr := zm_m181) (pc' := 76) (ls' := [(4, .int 22), (0, .ref 55), (1, .int 1), (2, .int a2), (3, .int a3)]) (st' := [.long 0, .int 82, .ref 58]) rfl rfl ?_
                    refine zy_hS (x := _) (mr := zm_m181) rfl rfl (zh_last (zs_eqE e133 k132) (by decide)) (fun he134 e134 => ?_)
                    refine zy_n 4 (mr := zm_m181) (pc' := 61) (ls' := [(4, .int 23), (0, .ref 55), (1, .int 1), (2, .int a2), (3, .int a3)]) (st' := [.int 60, .int 23]) rfl rfl ?_
                    refine zy_b (q := (64, [])) (mr := zm_m181) rfl rfl rfl ?_
                    refine zy_n 1 (mr := zm_m181) (pc' := 65) (ls' := [(4, .int 23), (0, .ref 55), (1, .int 1), (2, .int a2), (3, .int a3)]) (st' := [.ref 55]) rfl rfl ?_
                    have k135 := (zs_neE e134 (zs_neE e133 (zs_neE e131 (zs_neE e130 k129 (by decide)) (by decide)) (by decide)) (by decide))
                    refine zy_h (mr := zm_m181) rfl rfl (zh_get (v := .ref 58) k135 rfl) ?_
                    refine zy_n 6 (mr := zm_m181) (pc' := 76) (ls' := [(4, .int 23), (0, .ref 55), (1, .int 1), (2, .int a2), (3, .int a3)]) (st' := [.long 0, .int 83, .ref 58]) rfl rfl ?_
                    refine zy_hS (x := _) (mr := zm_m181) rfl rfl (zh_last (zs_eqE e134 (zs_eqE e133 k132)) (by decide)) (fun he136 e136 => ?_)
                    refine zy_n 4 (mr := zm_m181) (pc' := 61) (ls' := [(4, .int 24), (0, .ref 55), (1, .int 1), (2, .int a2), (3, .int a3)]) (st' := [.int 60, .int 24]) rfl rfl ?_
                    refine zy_b (q := (64, [])) (mr := zm_m181) rfl rfl rfl ?_
                    refine zy_n 1 (mr := zm_m181) (pc' := 65) (ls' := [(4, .int 24), (0, .ref 55), (1, .int 1), (2, .int a2), (3, .int a3)]) (st' := [.ref 55]) rfl rfl ?_
                    refine zy_h (mr := zm_m181) rfl rfl (zh_get (v := .ref 58) (zs_neE e136 k135 (by decide)) rfl) ?_
                    refine zy_n 6 (mr := zm_m181) (pc' := 76) (ls' := [(4, .int 24), (0, .ref 55), (1, .int 1), (2, .int a2), (3, .int a3)]) (st' := [.long 0, .int 84, .ref 58]) rfl rfl ?_
                    refine zy_hS (x := _) (mr := zm_m181) rfl rfl (zh_last (zs_eqE e136 (zs_eqE e134 (zs_eqE e133 k132))) (by decide)) (fun he137 e137 => ?_)
                    refine zy_n 4 (mr := zm_m181) (pc' := 61) (ls' := [(4, .int 25), (0, .ref 55), (1, .int 1), (2, .int a2), (3, .int a3)]) (st' := [.int 60, .int 25]) rfl rfl ?_
                    refine zy_b (q := (64, [])) (mr := zm_m181) rfl rfl rfl ?_
                    refine zy_n 1 (mr := zm_m181) (pc' := 65) (ls' := [(4, .int 25), (0, .ref 55), (1, .int 1), (2, .int a2), (3, .int a3)]) (st' := [.ref 55]) rfl rfl ?_
                    refine zy_h (mr := zm_m181) rfl rfl (zh_get (v := .ref 58) (zs_neE e137 (zs_neE e136 k135 (by decide)) (by decide)) rfl) ?_
                    refine zy_n 6 (mr := zm_m181) (pc' := 76) (ls' := [(4, .int 25), (0, .ref 55), (1, .int 1), (2, .int a2), (3, .int a3)]) (st' := [.long 0, .int 85, .ref 58]) rfl rfl ?_
                    refine zy_hS (x := _) (mr := zm_m181) rfl rfl (zh_last (zs_eqE e137 (zs_eqE e136 (zs_eqE e134 (zs_eqE e133 k132)))) (by decide)) (fun he138 e138 => ?_)
                    refine zy_n 4 (mr := zm_m181) (pc' := 61) (ls' := [(4, .int 26), (0, .ref 55), (1, .int 1), (2, .int a2), (3, .int a3)]) (st' := [.int 60, .int 26]) rfl rfl ?_
                    refine zy_b (q := (64, [])) (mr := zm_m181) rfl rfl rfl ?_
                    refine zy_n 1 (mr := zm_m181) (pc' := 65) (ls' := [(4, .int 26), (0, .ref 55), (1, .int 1), (2, .int a2), (3, .int a3)]) (st' := [.ref 55]) rfl rfl ?_
                    refine zy_h (mr := zm_m181) rfl rfl (zh_get (v := .ref 58) (zs_neE e138 (zs_neE e137 (zs_neE e136 k135 (by decide)) (by decide)) (by decide)) rfl) ?_
                    refine zy_n 6 (mr := zm_m181) (pc' := 76) (ls' := [(4, .int 26), (0, .ref 55), (1, .int 1), (2, .int a2), (3, .int a3)]) (st' := [.long 0, .int 86, .ref 58]) rfl rfl ?_
                    refine zy_hS (x := _) (mr := zm_m181) rfl rfl (zh_last (zs_eqE e138 (zs_eqE e137 (zs_eqE e136 (zs_eqE e134 (zs_eqE e133 k132))))) (by decide)) (fun he139 e139 => ?_)
                    refine zy_n 4 (mr := zm_m181) (pc' := 61) (ls' := [(4, .int 27), (0, .ref 55), (1, .int 1), (2, .int a2), (3, .int a3)]) (st' := [.int 60, .int 27]) rfl rfl ?_
                    refine zy_b (q := (64, [])) (mr := zm_m181) rfl rfl rfl ?_
                    refine zy_n 1 (mr := zm_m181) (pc' := 65) (ls' := [(4, .int 27), (0, .ref 55), (1, .int 1), (2, .int a2), (3, .int a3)]) (st' := [.ref 55]) rfl rfl ?_
                    have k140 := (zs_neE e139 (zs_neE e138 (zs_neE e137 (zs_neE e136 k135 (by decide)) (by decide)) (by decide)) (by decide))
                    refine zy_h (mr := zm_m181) rfl rfl (zh_get (v := .ref 58) k140 rfl) ?_
                    refine zy_n 6 (mr := zm_m181) (pc' := 76) (ls' := [(4, .int 27), (0, .ref 55), (1, .int 1), (2, .int a2), (3, .int a3)]) (st' := [.long 0, .int 87, .ref 58]) rfl rfl ?_
                    refine zy_hS (x := _) (mr := zm_m181) rfl rfl (zh_last (zs_eqE e139 (zs_eqE e138 (zs_eqE e137 (zs_eqE e136 (zs_eqE e134 (zs_eqE e133 k132)))))) (by decide)) (fun he141 e141 => ?_)
                    refine zy_n 4 (mr := zm_m181) (pc' := 61) (ls' := [(4, .int 28), (0, .ref 55), (1, .int 1), (2, .int a2), (3, .int a3)]) (st' := [.int 60, .int 28]) rfl rfl ?_
                    refine zy_b (q := (64, [])) (mr := zm_m181) rfl rfl rfl ?_
                    refine zy_n 1 (mr := zm_m181) (pc' := 65) (ls' := [(4, .int 28), (0, .ref 55), (1, .int 1), (2, .int a2), (3, .int a3)]) (st' := [.ref 55]) rfl rfl ?_
                    refine zy_h (mr := zm_m181) rfl rfl (zh_get (v := .ref 58) (zs_neE e141 k140 (by decide)) rfl) ?_
                    refine zy_n 6 (mr := zm_m181) (pc' := 76) (ls' := [(4, .int 28), (0, .ref 55), (1, .int 1), (2, .int a2), (3, .int a3)]) (st' := [.long 0, .int 88, .ref 58]) rfl rfl ?_
                    have k142 := (zs_eqE e141 (zs_eqE e139 (zs_eqE e138 (zs_eqE e137 (zs_eqE e136 (zs_eqE e134 (zs_eqE e133 k132)))))))
                    refine zy_hS (x := _) (mr := zm_m181) rfl rfl (zh_last k142 (by decide)) (fun he143 e143 => ?_)
                    refine zy_n 4 (mr := zm_m181) (pc' := 61) (ls' := [(4, .int 29), (0, .ref 55), (1, .int 1), (2, .int a2), (3, .int a3)]) (st' := [.int 60, .int 29]) rfl rfl ?_
                    refine zy_b (q := (64, [])) (mr := zm_m181) rfl rfl rfl ?_
                    refine zy_n 1 (mr := zm_m181) (pc' := 65) (ls' := [(4, .int 29), (0, .ref 55), (1, .int 1), (2, .int a2), (3, .int a3)]) (st' := [.ref 55]) rfl rfl ?_
                    refine zy_h (mr := zm_m181) rfl rfl (zh_get (v := .ref 58) (zs_neE e143 (zs_neE e141 k140 (by decide)) (by decide)) rfl) ?_
                    refine zy_n 6 (mr := zm_m181) (pc' := 76) (ls' := [(4, .int 29), (0, .ref 55), (1, .int 1), (2, .int a2), (3, .int a3)]) (st' := [.long 0, .int 89, .ref 58]) rfl rfl ?_
                    refine zy_hS (x := _) (mr := zm_m181) rfl rfl (zh_last (zs_eqE e143 k142) (by decide)) (fun he144 e144 => ?_)
                    refine zy_n 4 (mr := zm_m181) (pc' := 61) (ls' := [(4, .int 30), (0, .ref 55), (1, .int 1), (2, .int a2), (3, .int a3)]) (st' := [.int 60, .int 30]) rfl rfl ?_
                    as_aux_lemma =>
                      refine zy_b (q := (64, [])) (mr := zm_m181) rfl rfl rfl ?_
                      refine zy_n 1 (mr := zm_m181) (pc' := 65) (ls' := [(4, .int 30), (0, .ref 55), (1, .int 1), (2, .int a2), (3, .int a3)]) (st' := [.ref 55]) rfl rfl ?_
                      refine zy_h (mr := zm_m181) rfl rfl (zh_get (v := .ref 58) (zs_neE e144 (zs_neE e143 (zs_neE e141 k140 (by decide)) (by decide)) (by decide)) rfl) ?_
                      refine zy_n 6 (mr := zm_m181) (pc' := 76) (ls' := [(4, .int 30), (0, .ref 55), (1, .int 1), (2, .int a2), (3, .int a3)]) (st' := [.long 0, .int 90, .ref 58]) rfl rfl ?_
                      refine zy_hS (x := _) (mr := zm_m181) rfl rfl (zh_last (zs_eqE e144 (zs_eqE e143 k142)) (by decide)) (fun he145 e145 => ?_)
                      refine zy_n 4 (mr := zm_m181) (pc' := 61) (ls' := [(4, .int 31), (0, .ref 55), (1, .int 1), (2, .int a2), (3, .int a3)]) (st' := [.int 60, .int 31]) rfl rfl ?_
                      refine zy_b (q := (64, [])) (mr := zm_m181) rfl rfl rfl ?_
                      refine zy_n 1 (mr := zm_m181) (pc' := 65) (ls' := [(4, .int 31), (0, .ref 55), (1, .int 1), (2, .int a2), (3, .int a3)]) (st' := [.ref 55]) rfl rfl ?_
                      have k146 := (zs_neE e145 (zs_neE e144 (zs_neE e143 (zs_neE e141 k140 (by decide)) (by decide)) (by decide)) (by decide))
                      refine zy_h (mr := zm_m181) rfl rfl (zh_get (v := .ref 58) k146 rfl) ?_
                      refine zy_n 6 (mr := zm_m181) (pc' := 76) (ls' := [(4, .int 31), (0, .ref 55), (1, .int 1), (2, .int a2), (3, .int a3)]) (st' := [.long 0, .int 91, .ref 58]) rfl rfl ?_
                      refine zy_hS (x := _) (mr := zm_m181) rfl rfl (zh_last (zs_eqE e145 (zs_eqE e144 (zs_eqE e143 k142))) (by decide)) (fun he147 e147 => ?_)
                      refine zy_n 4 (mr := zm_m181) (pc' := 61) (ls' := [(4, .int 32), (0, .ref 55), (1, .int 1), (2, .int a2), (3, .int a3)]) (st' := [.int 60, .int 32]) rfl rfl ?_
                      refine zy_b (q := (64, [])) (mr := zm_m181) rfl rfl rfl ?_
                      refine zy_n 1 (mr := zm_m181) (pc' := 65) (ls' := [(4, .int 32), (0, .ref 55), (1, .int 1), (2, .int a2), (3, .int a3)]) (st' := [.ref 55]) rfl rfl ?_
                      refine zy_h (mr := zm_m181) rfl rfl (zh_get (v := .ref 58) (zs_neE e147 k146 (by decide)) rfl) ?_
                      refine zy_n 6 (mr := zm_m181) (pc' := 76) (ls' := [(4, .int 32), (0, .ref 55), (1, .int 1), (2, .int a2), (3, .int a3)]) (st' := [.long 0, .int 92, .ref 58]) rfl rfl ?_
                      refine zy_hS (x := _) (mr := zm_m181) rfl rfl (zh_last (zs_eqE e147 (zs_eqE e145 (zs_eqE e144 (zs_eqE e143 k142)))) (by decide)) (fun he148 e148 => ?_)
                      refine zy_n 4 (mr := zm_m181) (pc' := 61) (ls' := [(4, .int 33), (0, .ref 55), (1, .int 1), (2, .int a2), (3, .int a3)]) (st' := [.int 60, .int 33]) rfl rfl ?_
                      refine zy_b (q := (64, [])) (mr := zm_m181) rfl rfl rfl ?_
                      refine zy_n 1 (mr := zm_m181) (pc' := 65) (ls' := [(4, .int 33), (0, .ref 55), (1, .int 1), (2, .int a2), (3, .int a3)]) (st' := [.ref 55]) rfl rfl ?_
                      refine zy_h (mr := zm_m181) rfl rfl (zh_get (v := .ref 58) (zs_neE e148 (zs_neE e147 k146 (by decide)) (by decide)) rfl) ?_
                      refine zy_n 6 (mr := zm_m181) (pc' := 76) (ls' := [(4, .int 33), (0, .ref 55), (1, .int 1), (2, .int a2), (3, .int a3)]) (st' := [.long 0, .int 93, .ref 58]) rfl rfl ?_
                      refine zy_hS (x := _) (mr := zm_m181) rfl rfl (zh_last (zs_eqE e148 (zs_eqE e147 (zs_eqE e145 (zs_eqE e144 (zs_eqE e143 k142))))) (by decide)) (fun he149 e149 => ?_)
                      refine zy_n 4 (mr := zm_m181) (pc' := 61) (ls' := [(4, .int 34), (0, .ref 55), (1, .int 1), (2, .int a2), (3, .int a3)]) (st' := [.int 60, .int 34]) rfl rfl ?_
                      refine zy_b (q := (64, [])) (mr := zm_m181) rfl rfl rfl ?_
                      refine zy_n 1 (mr := zm_m181) (pc' := 65) (ls' := [(4, .int 34), (0, .ref 55), (1, .int 1), (2, .int a2), (3, .int a3)]) (st' := [.ref 55]) rfl rfl ?_
                      refine zy_h (mr := zm_m181) rfl rfl (zh_get (v := .ref 58) (zs_neE e149 (zs_neE e148 (zs_neE e147 k146 (by decide)) (by decide)) (by decide)) rfl) ?_
                      refine zy_n 6 (mr := zm_m181) (pc' := 76) (ls' := [(4, .int 34), (0, .ref 55), (1, .int 1), (2, .int a2), (3, .int a3)]) (st' := [.long 0, .int 94, .ref 58]) rfl rfl ?_
                      refine zy_hS (x := _) (mr := zm_m181) rfl rfl (zh_last (zs_eqE e149 (zs_eqE e148 (zs_eqE e147 (zs_eqE e145 (zs_eqE e144 (zs_eqE e143 k142)))))) (by decide)) (fun he150 e150 => ?_)
                      refine zy_n 4 (mr := zm_m181) (pc' := 61) (ls' := [(4, .int 35), (0, .ref 55), (1, .int 1), (2, .int a2), (3, .int a3)]) (st' := [.int 60, .int 35]) rfl rfl ?_
                      refine zy_b (q := (64, [])) (mr := zm_m181) rfl rfl rfl ?_
                      refine zy_n 1 (mr := zm_m181) (pc' := 65) (ls' := [(4, .int 35), (0, .ref 55), (1, .int 1), (2, .int a2), (3, .int a3)]) (st' := [.ref 55]) rfl rfl ?_
                      have k151 := (zs_neE e150 (zs_neE e149 (zs_neE e148 (zs_neE e147 k146 (by decide)) (by decide)) (by decide)) (by decide))
                      refine zy_h (mr := zm_m181) rfl rfl (zh_get (v := .ref 58) k151 rfl) ?_
                      refine zy_n 6 (mr := zm_m181) (pc' := 76) (ls' := [(4, .int 35), (0, .ref 55), (1, .int 1), (2, .int a2), (3, .int a3)]) (st' := [.long 0, .int 95, .ref 58]) rfl rfl ?_
                      have k152 := (zs_eqE e150 (zs_eqE e149 (zs_eqE e148 (zs_eqE e147 (zs_eqE e145 (zs_eqE e144 (zs_eqE e143 k142)))))))
                      refine zy_hS (x := _) (mr := zm_m181) rfl rfl (zh_last k152 (by decide)) (fun he153 e153 => ?_)
                      refine zy_n 4 (mr := zm_m181) (pc' := 61) (ls' := [(4, .int 36), (0, .ref 55), (1, .int 1), (2, .int a2), (3, .int a3)]) (st' := [.int 60, .int 36]) rfl rfl ?_
                      refine zy_b (q := (64, [])) (mr := zm_m181) rfl rfl rfl ?_
                      refine zy_n 1 (mr := zm_m181) (pc' := 65) (ls' := [(4, .int 36), (0, .ref 55), (1, .int 1), (2, .int a2), (3, .int a3)]) (st' := [.ref 55]) rfl rfl ?_
                      refine zy_h (mr := zm_m181) rfl rfl (zh_get (v := .ref 58) (zs_neE e153 k151 (by decide)) rfl) ?_
                      refine zy_n 6 (mr := zm_m181) (pc' := 76) (ls' := [(4, .int 36), (0, .ref 55), (1, .int 1), (2, .int a2), (3, .int a3)]) (st' := [.long 0, .int 96, .ref 58]) rfl rfl ?_
                      refine zy_hS (x := _) (mr := zm_m181) rfl rfl (zh_last (zs_eqE e153 k152) (by decide)) (fun he154 e154 => ?_)
                      refine zy_n 4 (mr := zm_m181) (pc' := 61) (ls' := [(4, .int 37), (0, .ref 55), (1, .int 1), (2, .int a2), (3, .int a3)]) (st' := [.int 60, .int 37]) rfl rfl ?_
                      refine zy_b (q := (64, [])) (mr := zm_m181) rfl rfl rfl ?_
                      refine zy_n 1 (mr := zm_m181) (pc' := 65) (ls' := [(4, .int 37), (0, .ref 55), (1, .int 1), (2, .int a2), (3, .int a3)]) (st' := [.ref 55]) rfl rfl ?_
                      refine zy_h (mr := zm_m181) rfl rfl (zh_get (v := .ref 58) (zs_neE e154 (zs_neE e153 k151 (by decide)) (by decide)) rfl) ?_
                      refine zy_n 6 (mr := zm_m181) (pc' := 76) (ls' := [(4, .int 37), (0, .ref 55), (1, .int 1), (2, .int a2), (3, .int a3)]) (st' := [.long 0, .int 97, .ref 58]) rfl rfl ?_
                      refine zy_hS (x := _) (mr := zm_m181) rfl rfl (zh_last (zs_eqE e154 (zs_eqE e153 k152)) (by decide)) (fun he155 e155 => ?_)
                      refine zy_n 4 (mr := zm_m181) (pc' := 61) (ls' := [(4, .int 38), (0, .ref 55), (1, .int 1), (2, .int a2), (3, .int a3)]) (st' := [.int 60, .int 38]) rfl rfl ?_
                      as_aux_lemma =>
                        refine zy_b (q := (64, [])) (mr := zm_m181) rfl rfl rfl ?_
                        refine zy_n 1 (mr := zm_m181) (pc' := 65) (ls' := [(4, .int 38), (0, .ref 55), (1, .int 1), (2, .int a2), (3, .int a3)]) (st' := [.ref 55]) rfl rfl ?_
                        refine zy_h (mr := zm_m181) rfl rfl (zh_get (v := .ref 58) (zs_neE e155 (zs_neE e154 (zs_neE e153 k151 (by decide)) (by decide)) (by decide)) rfl) ?_
                        refine zy_n 6 (mr := zm_m181) (pc' := 76) (ls' := [(4, .int 38), (0, .ref 55), (1, .int 1), (2, .int a2), (3, .int a3)]) (st' := [.long 0, .int 98, .ref 58]) rfl rfl ?_
                        refine zy_hS (x := _) (mr := zm_m181) rfl rfl (zh_last (zs_eqE e155 (zs_eqE e154 (zs_eqE e153 k152))) (by decide)) (fun he156 e156 => ?_)
                        refine zy_n 4 (mr := zm_m181) (pc' := 61) (ls' := [(4, .int 39), (0, .ref 55), (1, .int 1), (2, .int a2), (3, .int a3)]) (st' := [.int 60, .int 39]) rfl rfl ?_
                        refine zy_b (q := (64, [])) (mr := zm_m181) rfl rfl rfl ?_
                        refine zy_n 1 (mr := zm_m181) (pc' := 65) (ls' := [(4, .int 39), (0, .ref 55), (1, .int 1), (2, .int a2), (3, .int a3)]) (st' := [.ref 55]) rfl rfl ?_
                        have k157 := (zs_neE e156 (zs_neE e155 (zs_neE e154 (zs_neE e153 k151 (by decide)) (by decide)) (by decide)) (by decide))
                        refine zy_h (mr := zm_m181) rfl rfl (zh_get (v := .ref 58) k157 rfl) ?_
                        refine zy_n 6 (mr := zm_m181) (pc' := 76) (ls' := [(4, .int 39), (0, .ref 55), (1, .int 1), (2, .int a2), (3, .int a3)]) (st' := [.long 0, .int 99, .ref 58]) rfl rfl ?_
                        refine zy_hS (x := _) (mr := zm_m181) rfl rfl (zh_last (zs_eqE e156 (zs_eqE e155 (zs_eqE e154 (zs_eqE e153 k152)))) (by decide)) (fun he158 e158 => ?_)
                        refine zy_n 4 (mr := zm_m181) (pc' := 61) (ls' := [(4, .int 40), (0, .ref 55), (1, .int 1), (2, .int a2), (3, .int a3)]) (st' := [.int 60, .int 40]) rfl rfl ?_
                        refine zy_b (q := (64, [])) (mr := zm_m181) rfl rfl rfl ?_
                        refine zy_n 1 (mr := zm_m181) (pc' := 65) (ls' := [(4, .int 40), (0, .ref 55), (1, .int 1), (2, .int a2), (3, .int a3)]) (st' := [.ref 55]) rfl rfl ?_
                        refine zy_h (mr := zm_m181) rfl rfl (zh_get (v := .ref 58) (zs_neE e158 k157 (by decide)) rfl) ?_
                        refine zy_n 6 (mr := zm_m181) (pc' := 76) (ls' := [(4, .int 40), (0, .ref 55), (1, .int 1), (2, .int a2), (3, .int a3)]) (st' := [.long 0, .int 100, .ref 58]) rfl rfl ?_
                        refine zy_hS (x := _) (mr := zm_m181) rfl rfl (zh_last (zs_eqE e158 (zs_eqE e156 (zs_eqE e155 (zs_eqE e154 (zs_eqE e153 k152))))) (by decide)) (fun he159 e159 => ?_)
                        refine zy_n 4 (mr := zm_m181) (pc' := 61) (ls' := [(4, .int 41), (0, .ref 55), (1, .int 1), (2, .int a2), (3, .int a3)]) (st' := [.int 60, .int 41]) rfl rfl ?_
                        refine zy_b (q := (64, [])) (mr := zm_m181) rfl rfl rfl ?_
                        refine zy_n 1 (mr := zm_m181) (pc' := 65) (ls' := [(4, .int 41), (0, .ref 55), (1, .int 1), (2, .int a2), (3, .int a3)]) (st' := [.ref 55]) rfl rfl ?_
                        refine zy_h (mr := zm_m181) rfl rfl (zh_get (v := .ref 58) (zs_neE e159 (zs_neE e158 k157 (by decide)) (by decide)) rfl) ?_
                        refine zy_n 6 (mr := zm_m181) (pc' := 76) (ls' := [(4, .int 41), (0, .ref 55), (1, .int 1), (2, .int a2), (3, .int a3)]) (st' := [.long 0, .int 101, .ref 58]) rfl rfl ?_
                        refine zy_hS (x := _) (mr := zm_m181) rfl rfl (zh_last (zs_eqE e159 (zs_eqE e158 (zs_eqE e156 (zs_eqE e155 (zs_eqE e154 (zs_eqE e153 k152)))))) (by decide)) (fun he160 e160 => ?_)
                        refine zy_n 4 (mr := zm_m181) (pc' := 61) (ls' := [(4, .int 42), (0, .ref 55), (1, .int 1), (2, .int a2), (3, .int a3)]) (st' := [.int 60, .int 42]) rfl rfl ?_
                        refine zy_b (q := (64, [])) (mr := zm_m181) rfl rfl rfl ?_
                        refine zy_n 1 (mr := zm_m181) (pc' := 65) (ls' := [(4, .int 42), (0, .ref 55), (1, .int 1), (2, .int a2), (3, .int a3)]) (st' := [.ref 55]) rfl rfl ?_
                        refine zy_h (mr := zm_m181) rfl rfl (zh_get (v := .ref 58) (zs_neE e160 (zs_neE e159 (zs_neE e158 k157 (by decide)) (by decide)) (by decide)) rfl) ?_
                        refine zy_n 6 (mr := zm_m181) (pc' := 76) (ls' := [(4, .int 42), (0, .ref 55), (1, .int 1), (2, .int a2), (3, .int a3)]) (st' := [.long 0, .int 102, .ref 58]) rfl rfl ?_
                        have k161 := (zs_eqE e160 (zs_eqE e159 (zs_eqE e158 (zs_eqE e156 (zs_eqE e155 (zs_eqE e154 (zs_eqE e153 k152)))))))
                        refine zy_hS (x := _) (mr := zm_m181) rfl rfl (zh_last k161 (by decide)) (fun he162 e162 => ?_)
                        refine zy_n 4 (mr := zm_m181) (pc' := 61) (ls' := [(4, .int 43), (0, .ref 55), (1, .int 1), (2, .int a2), (3, .int a3)]) (st' := [.int 60, .int 43]) rfl rfl ?_
                        refine zy_b (q := (64, [])) (mr := zm_m181) rfl rfl rfl ?_
                        refine zy_n 1 (mr := zm_m181) (pc' := 65) (ls' := [(4, .int 43), (0, .ref 55), (1, .int 1), (2, .int a2), (3, .int a3)]) (st' := [.ref 55]) rfl rfl ?_
                        have k163 := (zs_neE e162 (zs_neE e160 (zs_neE e159 (zs_neE e158 k157 (by decide)) (by decide)) (by decide)) (by decide))
                        refine zy_h (mr := zm_m181) rfl rfl (zh_get (v := .ref 58) k163 rfl) ?_
                        refine zy_n 6 (mr := zm_m181) (pc' := 76) (ls' := [(4, .int 43), (0, .ref 55), (1, .int 1), (2, .int a2), (3, .int a3)]) (st' := [.long 0, .int 103, .ref 58]) rfl rfl ?_
                        refine zy_hS (x := _) (mr := zm_m181) rfl rfl (zh_last (zs_eqE e162 k161) (by decide)) (fun he164 e164 => ?_)
                        refine zy_n 4 (mr := zm_m181) (pc' := 61) (ls' := [(4, .int 44), (0, .ref 55), (1, .int 1), (2, .int a2), (3, .int a3)]) (st' := [.int 60, .int 44]) rfl rfl ?_
                        refine zy_b (q := (64, [])) (mr := zm_m181) rfl rfl rfl ?_
                        refine zy_n 1 (mr := zm_m181) (pc' := 65) (ls' := [(4, .int 44), (0, .ref 55), (1, .int 1), (2, .int a2), (3, .int a3)]) (st' := [.ref 55]) rfl rfl ?_
                        refine zy_h (mr := zm_m181) rfl rfl (zh_get (v := .ref 58) (zs_neE e164 k163 (by decide)) rfl) ?_
                        refine zy_n 6 (mr := zm_m181) (pc' := 76) (ls' := [(4, .int 44), (0, .ref 55), (1, .int 1), (2, .int a2), (3, .int a3)]) (st' := [.long 0, .int 104, .ref 58]) rfl rfl ?_
                        refine zy_hS (x := _) (mr := zm_m181) rfl rfl (zh_last (zs_eqE e164 (zs_eqE e162 k161)) (by decide)) (fun he165 e165 => ?_)
                        refine zy_n 4 (mr := zm_m181) (pc' := 61) (ls' := [(4, .int 45), (0, .ref 55), (1, .int 1), (2, .int a2), (3, .int a3)]) (st' := [.int 60, .int 45]) rfl rfl ?_
                        refine zy_b (q := (64, [])) (mr := zm_m181) rfl rfl rfl ?_
                        refine zy_n 1 (mr := zm_m181) (pc' := 65) (ls' := [(4, .int 45), (0, .ref 55), (1, .int 1), (2, .int a2), (3, .int a3)]) (st' := [.ref 55]) rfl rfl ?_
                        refine zy_h (mr := zm_m181) rfl rfl (zh_get (v := .ref 58) (zs_neE e165 (zs_neE e164 k163 (by decide)) (by decide)) rfl) ?_
                        refine zy_n 6 (mr := zm_m181) (pc' := 76) (ls' := [(4, .int 45), (0, .ref 55), (1, .int 1), (2, .int a2), (3, .int a3)]) (st' := [.long 0, .int 105, .ref 58]) rfl rfl ?_
                        refine zy_hS (x := _) (mr := zm_m181) rfl rfl (zh_last (zs_eqE e165 (zs_eqE e164 (zs_eqE e162 k161))) (by decide)) (fun he166 e166 => ?_)
                        refine zy_n 4 (mr := zm_m181) (pc' := 61) (ls' := [(4, .int 46), (0, .ref 55), (1, .int 1), (2, .int a2), (3, .int a3)]) (st' := [.int 60, .int 46]) rfl rfl ?_
                        as_aux_lemma =>
                          refine zy_b (q := (64, [])) (mr := zm_m181) rfl rfl rfl ?_
                          refine zy_n 1 (mr := zm_m181) (pc' := 65) (ls' := [(4, .int 46), (0, .ref 55), (1, .int 1), (2, .int a2), (3, .int a3)]) (st' := [.ref 55]) rfl rfl ?_
                          refine zy_h (mr := zm_m181) rfl rfl (zh_get (v := .ref 58) (zs_neE e166 (zs_neE e165 (zs_neE e164 k163 (by decide)) (by decide)) (by decide)) rfl) ?_
                          refine zy_n 6 (mr := zm_m181) (pc' := 76) (ls' := [(4, .int 46), (0, .ref 55), (1, .int 1), (2, .int a2), (3, .int a3)]) (st' := [.long 0, .int 106, .ref 58]) rfl rfl ?_
                          refine zy_hS (x := _) (mr := zm_m181) rfl rfl (zh_last (zs_eqE e166 (zs_eqE e165 (zs_eqE e164 (zs_eqE e162 k161)))) (by decide)) (fun he167 e167 => ?_)
                          refine zy_n 4 (mr := zm_m181) (pc' := 61) (ls' := [(4, .int 47), (0, .ref 55), (1, .int 1), (2, .int a2), (3, .int a3)]) (st' := [.int 60, .int 47]) rfl rfl ?_
                          refine zy_b (q := (64, [])) (mr := zm_m181) rfl rfl rfl ?_
                          refine zy_n 1 (mr := zm_m181) (pc' := 65) (ls' := [(4, .int 47), (0, .ref 55), (1, .int 1), (2, .int a2), (3, .int a3)]) (st' := [.ref 55]) rfl rfl ?_
                          have k168 := (zs_neE e167 (zs_neE e166 (zs_neE e165 (zs_neE e164 k163 (by decide)) (by decide)) (by decide)) (by decide))
                          refine zy_h (mr := zm_m181) rfl rfl (zh_get (v := .ref 58) k168 rfl) ?_
                          refine zy_n 6 (mr := zm_m181) (pc' := 76) (ls' := [(4, .int 47), (0, .ref 55), (1, .int 1), (2, .int a2), (3, .int a3)]) (st' := [.long 0, .int 107, .ref 58]) rfl rfl ?_
                          refine zy_hS (x := _) (mr := zm_m181) rfl rfl (zh_last (zs_eqE e167 (zs_eqE e166 (zs_eqE e165 (zs_eqE e164 (zs_eqE e162 k161))))) (by decide)) (fun he169 e169 => ?_)
                          refine zy_n 4 (mr := zm_m181) (pc' := 61) (ls' := [(4, .int 48), (0, .ref 55), (1, .int 1), (2, .int a2), (3, .int a3)]) (st' := [.int 60, .int 48]) rfl rfl ?_
                          refine zy_b (q := (64, [])) (mr := zm_m181) rfl rfl rfl ?_
                          refine zy_n 1 (mr := zm_m181) (pc' := 65) (ls' := [(4, .int 48), (0, .ref 55), (1, .int 1), (2, .int a2), (3, .int a3)]) (st' := [.ref 55]) rfl rfl ?_
                          refine zy_h (mr := zm_m181) rfl rfl (zh_get (v := .ref 58) (zs_neE e169 k168 (by decide)) rfl) ?_
                          refine zy_n 6 (mr := zm_m181) (pc' := 76) (ls' := [(4, .int 48), (0, .ref 55), (1, .int 1), (2, .int a2), (3, .int a3)]) (st' := [.long 0, .int 108, .ref 58]) rfl rfl ?_
                          refine zy_hS (x := _) (mr := zm_m181) rfl rfl (zh_last (zs_eqE e169 (zs_eqE e167 (zs_eqE e166 (zs_eqE e165 (zs_eqE e164 (zs_eqE e162 k161)))))) (by decide)) (fun he170 e170 => ?_)
                          refine zy_n 4 (mr := zm_m181) (pc' := 61) (ls' := [(4, .int 49), (0, .ref 55), (1, .int 1), (2, .int a2), (3, .int a3)]) (st' := [.int 60, .int 49]) rfl rfl ?_
                          refine zy_b (q := (64, [])) (mr := zm_m181) rfl rfl rfl ?_
                          refine zy_n 1 (mr := zm_m181) (pc' := 65) (ls' := [(4, .int 49), (0, .ref 55), (1, .int 1), (2, .int a2), (3, .int a3)]) (st' := [.ref 55]) rfl rfl ?_
                          refine zy_h (mr := zm_m181) rfl rfl (zh_get (v := .ref 58) (zs_neE e170 (zs_neE e169 k168 (by decide)) (by decide)) rfl) ?_
                          refine zy_n 6 (mr := zm_m181) (pc' := 76) (ls' := [(4, .int 49), (0, .ref 55), (1, .int 1), (2, .int a2), (3, .int a3)]) (st' := [.long 0, .int 109, .ref 58]) rfl rfl ?_
                          have k171 := (zs_eqE e170 (zs_eqE e169 (zs_eqE e167 (zs_eqE e166 (zs_eqE e165 (zs_eqE e164 (zs_eqE e162 k161)))))))
                          refine zy_hS (x := _) (mr := zm_m181) rfl rfl (zh_last k171 (by decide)) (fun he172 e172 => ?_)
                          refine zy_n 4 (mr := zm_m181) (pc' := 61) (ls' := [(4, .int 50), (0, .ref 55), (1, .int 1), (2, .int a2), (3, .int a3)]) (st' := [.int 60, .int 50]) rfl rfl ?_
                          refine zy_b (q := (64, [])) (mr := zm_m181) rfl rfl rfl ?_
                          refine zy_n 1 (mr := zm_m181) (pc' := 65) (ls' := [(4, .int 50), (0, .ref 55), (1, .int 1), (2, .int a2), (3, .int a3)]) (st' := [.ref 55]) rfl rfl ?_
                          refine zy_h (mr := zm_m181) rfl rfl (zh_get (v := .ref 58) (zs_neE e172 (zs_neE e170 (zs_neE e169 k168 (by decide)) (by decide)) (by decide)) rfl) ?_
                          refine zy_n 6 (mr := zm_m181) (pc' := 76) (ls' := [(4, .int 50), (0, .ref 55), (1, .int 1), (2, .int a2), (3, .int a3)]) (st' := [.long 0, .int 110, .ref 58]) rfl rfl ?_
                          refine zy_hS (x := _) (mr := zm_m181) rfl rfl (zh_last (zs_eqE e172 k171) (by decide)) (fun he173 e173 => ?_)
                          refine zy_n 4 (mr := zm_m181) (pc' := 61) (ls' := [(4, .int 51), (0, .ref 55), (1, .int 1), (2, .int a2), (3, .int a3)]) (st' := [.int 60, .int 51]) rfl rfl ?_
                          refine zy_b (q := (64, [])) (mr := zm_m181) rfl rfl rfl ?_
                          refine zy_n 1 (mr := zm_m181) (pc' := 65) (ls' := [(4, .int 51), (0, .ref 55), (1, .int 1), (2, .int a2), (3, .int a3)]) (st' := [.ref 55]) rfl rfl ?_
                          have k174 := (zs_neE e173 (zs_neE e172 (zs_neE e170 (zs_neE e169 k168 (by decide)) (by decide)) (by decide)) (by decide))
                          refine zy_h (mr := zm_m181) rfl rfl (zh_get (v := .ref 58) k174 rfl) ?_
                          refine zy_n 6 (mr := zm_m181) (pc' := 76) (ls' := [(4, .int 51), (0, .ref 55), (1, .int 1), (2, .int a2), (3, .int a3)]) (st' := [.long 0, .int 111, .ref 58]) rfl rfl ?_
                          refine zy_hS (x := _) (mr := zm_m181) rfl rfl (zh_last (zs_eqE e173 (zs_eqE e172 k171)) (by decide)) (fun he175 e175 => ?_)
                          refine zy_n 4 (mr := zm_m181) (pc' := 61) (ls' := [(4, .int 52), (0, .ref 55), (1, .int 1), (2, .int a2), (3, .int a3)]) (st' := [.int 60, .int 52]) rfl rfl ?_
                          refine zy_b (q := (64, [])) (mr := zm_m181) rfl rfl rfl ?_
                          refine zy_n 1 (mr := zm_m181) (pc' := 65) (ls' := [(4, .int 52), (0, .ref 55), (1, .int 1), (2, .int a2), (3, .int a3)]) (st' := [.ref 55]) rfl rfl ?_
                          refine zy_h (mr := zm_m181) rfl rfl (zh_get (v := .ref 58) (zs_neE e175 k174 (by decide)) rfl) ?_
                          refine zy_n 6 (mr := zm_m181) (pc' := 76) (ls' := [(4, .int 52), (0, .ref 55), (1, .int 1), (2, .int a2), (3, .int a3)]) (st' := [.long 0, .int 112, .ref 58]) rfl rfl ?_
                          refine zy_hS (x := _) (mr := zm_m181) rfl rfl (zh_last (zs_eqE e175 (zs_eqE e173 (zs_eqE e172 k171))) (by decide)) (fun he176 e176 => ?_)
                          refine zy_n 4 (mr := zm_m181) (pc' := 61) (ls' := [(4, .int 53), (0, .ref 55), (1, .int 1), (2, .int a2), (3, .int a3)]) (st' := [.int 60, .int 53]) rfl rfl ?_
                          refine zy_b (q := (64, [])) (mr := zm_m181) rfl rfl rfl ?_
                          refine zy_n 1 (mr := zm_m181) (pc' := 65) (ls' := [(4, .int 53), (0, .ref 55), (1, .int 1), (2, .int a2), (3, .int a3)]) (st' := [.ref 55]) rfl rfl ?_
                          refine zy_h (mr := zm_m181) rfl rfl (zh_get (v := .ref 58) (zs_neE e176 (zs_neE e175 k174 (by decide)) (by decide)) rfl) ?_
                          refine zy_n 6 (mr := zm_m181) (pc' := 76) (ls' := [(4, .int 53), (0, .ref 55), (1, .int 1), (2, .int a2), (3, .int a3)]) (st' := [.long 0, .int 113, .ref 58]) rfl rfl ?_
                          refine zy_hS (x := _) (mr := zm_m181) rfl rfl (zh_last (zs_eqE e176 (zs_eqE e175 (zs_eqE e173 (zs_eqE e172 k171)))) (by decide)) (fun he177 e177 => ?_)
                          refine zy_n 4 (mr := zm_m181) (pc' := 61) (ls' := [(4, .int 54), (0, .ref 55), (1, .int 1), (2, .int a2), (3, .int a3)]) (st' := [.int 60, .int 54]) rfl rfl ?_
                          as_aux_lemma =>
                            refine zy_b (q := (64, [])) (mr := zm_m181) rfl rfl rfl ?_
                            refine zy_n 1 (mr := zm_m181) (pc' := 65) (ls' := [(4, .int 54), (0, .ref 55), (1, .int 1), (2, .int a2), (3, .int a3)]) (st' := [.ref 55]) rfl rfl ?_
                            refine zy_h (mr := zm_m181) rfl rfl (zh_get (v := .ref 58) (zs_neE e177 (zs_neE e176 (zs_neE e175 k174 (by decide)) (by decide)) (by decide)) rfl) ?_
                            refine zy_n 6 (mr := zm_m181) (pc' := 76) (ls' := [(4, .int 54), (0, .ref 55), (1, .int 1), (2, .int a2), (3, .int a3)]) (st' := [.long 0, .int 114, .ref 58]) rfl rfl ?_
                            refine zy_hS (x := _) (mr := zm_m181) rfl rfl (zh_last (zs_eqE e177 (zs_eqE e176 (zs_eqE e175 (zs_eqE e173 (zs_eqE e172 k171))))) (by decide)) (fun he178 e178 => ?_)
                            refine zy_n 4 (mr := zm_m181) (pc' := 61) (ls' := [(4, .int 55), (0, .ref 55), (1, .int 1), (2, .int a2), (3, .int a3)]) (st' := [.int 60, .int 55]) rfl rfl ?_
                            refine zy_b (q := (64, [])) (mr := zm_m181) rfl rfl rfl ?_
                            refine zy_n 1 (mr := zm_m181) (pc' := 65) (ls' := [(4, .int 55), (0, .ref 55), (1, .int 1), (2, .int a2), (3, .int a3)]) (st' := [.ref 55]) rfl rfl ?_
                            have k179 := (zs_neE e178 (zs_neE e177 (zs_neE e176 (zs_neE e175 k174 (by decide)) (by decide)) (by decide)) (by decide))
                            refine zy_h (mr := zm_m181) rfl rfl (zh_get (v := .ref 58) k179 rfl) ?_
                            refine zy_n 6 (mr := zm_m181) (pc' := 76) (ls' := [(4, .int 55), (0, .ref 55), (1, .int 1), (2, .int a2), (3, .int a3)]) (st' := [.long 0, .int 115, .ref 58]) rfl rfl ?_
                            refine zy_hS (x := _) (mr := zm_m181) rfl rfl (zh_last (zs_eqE e178 (zs_eqE e177 (zs_eqE e176 (zs_eqE e175 (zs_eqE e173 (zs_eqE e172 k171)))))) (by decide)) (fun he180 e180 => ?_)
                            refine zy_n 4 (mr := zm_m181) (pc' := 61) (ls' := [(4, .int 56), (0, .ref 55), (1, .int 1), (2, .int a2), (3, .int a3)]) (st' := [.int 60, .int 56]) rfl rfl ?_
                            refine zy_b (q := (64, [])) (mr := zm_m181) rfl rfl rfl ?_
                            refine zy_n 1 (mr := zm_m181) (pc' := 65) (ls' := [(4, .int 56), (0, .ref 55), (1, .int 1), (2, .int a2), (3, .int a3)]) (st' := [.ref 55]) rfl rfl ?_
                            refine zy_h (mr := zm_m181) rfl rfl (zh_get (v := .ref 58) (zs_neE e180 k179 (by decide)) rfl) ?_
                            refine zy_n 6 (mr := zm_m181) (pc' := 76) (ls' := [(4, .int 56), (0, .ref 55), (1, .int 1), (2, .int a2), (3, .int a3)]) (st' := [.long 0, .int 116, .ref 58]) rfl rfl ?_
                            have k181 := (zs_eqE e180 (zs_eqE e178 (zs_eqE e177 (zs_eqE e176 (zs_eqE e175 (zs_eqE e173 (zs_eqE e172 k171)))))))
                            refine zy_hS (x := _) (mr := zm_m181) rfl rfl (zh_last k181 (by decide)) (fun he182 e182 => ?_)
                            refine zy_n 4 (mr := zm_m181) (pc' := 61) (ls' := [(4, .int 57), (0, .ref 55), (1, .int 1), (2, .int a2), (3, .int a3)]) (st' := [.int 60, .int 57]) rfl rfl ?_
                            refine zy_b (q := (64, [])) (mr := zm_m181) rfl rfl rfl ?_
                            refine zy_n 1 (mr := zm_m181) (pc' := 65) (ls' := [(4, .int 57), (0, .ref 55), (1, .int 1), (2, .int a2), (3, .int a3)]) (st' := [.ref 55]) rfl rfl ?_
                            refine zy_h (mr := zm_m181) rfl rfl (zh_get (v := .ref 58) (zs_neE e182 (zs_neE e180 k179 (by decide)) (by decide)) rfl) ?_
                            refine zy_n 6 (mr := zm_m181) (pc' := 76) (ls' := [(4, .int 57), (0, .ref 55), (1, .int 1), (2, .int a2), (3, .int a3)]) (st' := [.long 0, .int 117, .ref 58]) rfl rfl ?_
                            refine zy_hS (x := _) (mr := zm_m181) rfl rfl (zh_last (zs_eqE e182 k181) (by decide)) (fun he183 e183 => ?_)
                            refine zy_n 4 (mr := zm_m181) (pc' := 61) (ls' := [(4, .int 58), (0, .ref 55), (1, .int 1), (2, .int a2), (3, .int a3)]) (st' := [.int 60, .int 58]) rfl rfl ?_
                            refine zy_b (q := (64, [])) (mr := zm_m181) rfl rfl rfl ?_
                            refine zy_n 1 (mr := zm_m181) (pc' := 65) (ls' := [(4, .int 58), (0, .ref 55), (1, .int 1), (2, .int a2), (3, .int a3)]) (st' := [.ref 55]) rfl rfl ?_
                            refine zy_h (mr := zm_m181) rfl rfl (zh_get (v := .ref 58) (zs_neE e183 (zs_neE e182 (zs_neE e180 k179 (by decide)) (by decide)) (by decide)) rfl) ?_
                            refine zy_n 6 (mr := zm_m181) (pc' := 76) (ls' := [(4, .int 58), (0, .ref 55), (1, .int 1), (2, .int a2), (3, .int a3)]) (st' := [.long 0, .int 118, .ref 58]) rfl rfl ?_
                            refine zy_hS (x := _) (mr := zm_m181) rfl rfl (zh_last (zs_eqE e183 (zs_eqE e182 k181)) (by decide)) (fun he184 e184 => ?_)
                            refine zy_n 4 (mr := zm_m181) (pc' := 61) (ls' := [(4, .int 59), (0, .ref 55), (1, .int 1), (2, .int a2), (3, .int a3)]) (st' := [.int 60, .int 59]) rfl rfl ?_
                            refine zy_b (q := (64, [])) (mr := zm_m181) rfl rfl rfl ?_
                            refine zy_n 1 (mr := zm_m181) (pc' := 65) (ls' := [(4, .int 59), (0, .ref 55), (1, .int 1), (2, .int a2), (3, .int a3)]) (st' := [.ref 55]) rfl rfl ?_
                            have k185 := (zs_neE e184 (zs_neE e183 (zs_neE e182 (zs_neE e180 k179 (by decide)) (by decide)) (by decide)) (by decide))
                            refine zy_h (mr := zm_m181) rfl rfl (zh_get (v := .ref 58) k185 rfl) ?_
                            refine zy_n 6 (mr := zm_m181) (pc' := 76) (ls' := [(4, .int 59), (0, .ref 55), (1, .int 1), (2, .int a2), (3, .int a3)]) (st' := [.long 0, .int 119, .ref 58]) rfl rfl ?_
                            refine zy_hS (x := _) (mr := zm_m181) rfl rfl (zh_last (zs_eqE e184 (zs_eqE e183 (zs_eqE e182 k181))) (by decide)) (fun he186 e186 => ?_)
                            refine zy_n 4 (mr := zm_m181) (pc' := 61) (ls' := [(4, .int 60), (0, .ref 55), (1, .int 1), (2, .int a2), (3, .int a3)]) (st' := [.int 60, .int 60]) rfl rfl ?_
                            refine zy_b (q := (83, [])) (mr := zm_m181) rfl rfl rfl ?_
                            refine zy_n 1 (mr := zm_m181) (pc' := 84) (ls' := [(4, .int 60), (0, .ref 55), (1, .int 1), (2, .int a2), (3, .int a3)]) (st' := [.int 0]) rfl rfl ?_
                            refine zy_r (mr := zm_m181) rfl rfl rfl ?_
                            refine ⟨⟨_, rfl, ?_⟩, Nat.le_trans (zs_lleE e186 (zs_lleE e184 (zs_lleE e183 (zs_lleE e182 (zs_lleE e180 (zs_lleE e178 (zs_lleE e177 (zs_lleE e176 (zs_lleE e175 (zs_lleE e173 (zs_lleE e172 (zs_lleE e170 (zs_lleE e169 (zs_lleE e167 (zs_lleE e166 (zs_lleE e165 (zs_lleE e164 (zs_lleE e162 (zs_lleE e160 (zs_lleE e159 (zs_lleE e158 (zs_lleE e156 (zs_lleE e155 (zs_lleE e154 (zs_lleE e153 (zs_lleE e150 (zs_lleE e149 (zs_lleE e148 (zs_lleE e147 (zs_lleE e145 (zs_lleE e144 (zs_lleE e143 (zs_lleE e141 (zs_lleE e139 (zs_lleE e138 (zs_lleE e137 (zs_lleE e136 (zs_lleE e134 (zs_lleE e133 (zs_lleE e131 (zs_lleE e130 (zs_lleE e128 (zs_lleE e127 (zs_lleE e126 (zs_lleE e125 (zs_lleE e123 (zs_lleE e121 (zs_lleE e120 (zs_lleE e119 (zs_lleE e117 (zs_lleE e116 (zs_lleE e115 (zs_lleE e114 (zs_lleE e111 (zs_lleE e110 (zs_lleE e109 (zs_lleE e108 (zs_lleE e106 (zs_lleE e105 (zs_lleE e104 (zs_lleE e102 (zs_lleE e99 (zs_lleE e94 KL))))))))))))))))))))))))))))))))))))))))))))))))))))))))))))))) (by decide), Nat.le_trans (zs_szleE (w := 240) e186 (zs_eqE e184 (zs_eqE e183 (zs_eqE e182 k181))) rfl rfl (zs_szleE (w := 240) e184 (zs_eqE e183 (zs_eqE e182 k181)) rfl rfl (zs_szleE (w := 240) e183 (zs_eqE e182 k181) rfl rfl (zs_szleE (w := 240) e182 k181 rfl rfl (zs_szleE (w := 240) e180 (zs_eqE e178 (zs_eqE e177 (zs_eqE e176 (zs_eqE e175 (zs_eqE e173 (zs_eqE e172 k171)))))) rfl rfl (zs_szleE (w := 240) e178 (zs_eqE e177 (zs_eqE e176 (zs_eqE e175 (zs_eqE e173 (zs_eqE e172 k171))))) rfl rfl (zs_szleE (w := 240) e177 (zs_eqE e176 (zs_eqE e175 (zs_eqE e173 (zs_eqE e172 k171)))) rfl rfl (zs_szleE (w := 240) e176 (zs_eqE e175 (zs_eqE e173 (zs_eqE e172 k171))) rfl rfl (zs_szleE (w := 240) e175 (zs_eqE e173 (zs_eqE e172 k171)) rfl rfl (zs_szleE (w := 240) e173 (zs_eqE e172 k171) rfl rfl (zs_szleE (w := 240) e172 k171 rfl rfl (zs_szleE (w := 240) e170 (zs_eqE e169 (zs_eqE e167 (zs_eqE e166 (zs_eqE e165 (zs_eqE e164 (zs_eqE e162 k161)))))) rfl rfl (zs_szleE (w := 240) e169 (zs_eqE e167 (zs_eqE e166 (zs_eqE e165 (zs_eqE e164 (zs_eqE e162 k161))))) rfl rfl (zs_szleE (w := 240) e167 (zs_eqE e166 (zs_eqE e165 (zs_eqE e164 (zs_eqE e162 k161)))) rfl rfl (zs_szleE (w := 240) e166 (zs_eqE e165 (zs_eqE e164 (zs_eqE e162 k161))) rfl rfl (zs_szleE (w := 240) e165 (zs_eqE e164 (zs_eqE e162 k161)) rfl rfl (zs_szleE (w := 240) e164 (zs_eqE e162 k161) rfl rfl (zs_szleE (w := 240) e162 k161 rfl rfl (zs_szleE (w := 240) e160 (zs_eqE e159 (zs_eqE e158 (zs_eqE e156 (zs_eqE e155 (zs_eqE e154 (zs_eqE e153 k152)))))) rfl rfl (zs_szleE (w := 240) e159 (zs_eqE e158 (zs_eqE e156 (zs_eqE e155 (zs_eqE e154 (zs_eqE e153 k152))))) rfl rfl (zs_szleE (w := 240) e158 (zs_eqE e156 (zs_eqE e155 (zs_eqE e154 (zs_eqE e153 k152)))) rfl rfl (zs_szleE (w := 240) e156 (zs_eqE e155 (zs_eqE e154 (zs_eqE e153 k152))) rfl rfl (zs_szleE (w := 240) e155 (zs_eqE e154 (zs_eqE e153 k152)) rfl rfl (zs_szleE (w := 240) e154 (zs_eqE e153 k152) rfl rfl (zs_szleE (w := 240) e153 k152 rfl rfl (zs_szleE (w := 240) e150 (zs_eqE e149 (zs_eqE e148 (zs_eqE e147 (zs_eqE e145 (zs_eqE e144 (zs_eqE e143 k142)))))) rfl rfl (zs_szleE (w := 240) e149 (zs_eqE e148 (zs_eqE e147 (zs_eqE e145 (zs_eqE e144 (zs_eqE e143 k142))))) rfl rfl (zs_szleE (w := 240) e148 (zs_eqE e147 (zs_eqE e145 (zs_eqE e144 (zs_eqE e143 k142)))) rfl rfl (zs_szleE (w := 240) e147 (zs_eqE e145 (zs_eqE e144 (zs_eqE e143 k142))) rfl rfl (zs_szleE (w := 240) e145 (zs_eqE e144 (zs_eqE e143 k142)) rfl rfl (zs_szleE (w := 240) e144 (zs_eqE e143 k142) rfl rfl (zs_szleE (w := 240) e143 k142 rfl rfl (zs_szleE (w := 240) e141 (zs_eqE e139 (zs_eqE e138 (zs_eqE e137 (zs_eqE e136 (zs_eqE e134 (zs_eqE e133 k132)))))) rfl rfl (zs_szleE (w := 240) e139 (zs_eqE e138 (zs_eqE e137 (zs_eqE e136 (zs_eqE e134 (zs_eqE e133 k132))))) rfl rfl (zs_szleE (w := 240) e138 (zs_eqE e137 (zs_eqE e136 (zs_eqE e134 (zs_eqE e133 k132)))) rfl rfl (zs_szleE (w := 240) e137 (zs_eqE e136 (zs_eqE e134 (zs_eqE e133 k132))) rfl rfl (zs_szleE (w := 240) e136 (zs_eqE e134 (zs_eqE e133 k132)) rfl rfl (zs_szleE (w := 240) e134 (zs_eqE e133 k132) rfl rfl (zs_szleE (w := 240) e133 k132 rfl rfl (zs_szleE (w := 240) e131 (zs_eqE e130 (zs_eqE e128 (zs_eqE e127 (zs_eqE e126 (zs_eqE e125 (zs_eqE e123 k122)))))) rfl rfl (zs_szleE (w := 240) e130 (zs_eqE e128 (zs_eqE e127 (zs_eqE e126 (zs_eqE e125 (zs_eqE e123 k122))))) rfl rfl (zs_szleE (w := 240) e128 (zs_eqE e127 (zs_eqE e126 (zs_eqE e125 (zs_eqE e123 k122)))) rfl rfl (zs_szleE (w := 240) e127 (zs_eqE e126 (zs_eqE e125 (zs_eqE e123 k122))) rfl rfl (zs_szleE (w := 240) e126 (zs_eqE e125 (zs_eqE e123 k122)) rfl rfl (zs_szleE (w := 240) e125 (zs_eqE e123 k122) rfl rfl (zs_szleE (w := 240) e123 k122 rfl rfl (zs_szleE (w := 240) e121 (zs_eqE e120 (zs_eqE e119 (zs_eqE e117 (zs_eqE e116 (zs_eqE e115 (zs_eqE e114 k113)))))) rfl rfl (zs_szleE (w := 240) e120 (zs_eqE e119 (zs_eqE e117 (zs_eqE e116 (zs_eqE e115 (zs_eqE e114 k113))))) rfl rfl (zs_szleE (w := 240) e119 (zs_eqE e117 (zs_eqE e116 (zs_eqE e115 (zs_eqE e114 k113)))) rfl rfl (zs_szleE (w := 240) e117 (zs_eqE e116 (zs_eqE e115 (zs_eqE e114 k113))) rfl rfl (zs_szleE (w := 240) e116 (zs_eqE e115 (zs_eqE e114 k113)) rfl rfl (zs_szleE (w := 240) e115 (zs_eqE e114 k113) rfl rfl (zs_szleE (w := 240) e114 k113 rfl rfl (zs_szleE (w := 240) e111 (zs_eqE e110 (zs_eqE e109 (zs_eqE e108 (zs_eqE e106 (zs_eqE e105 (zs_eqE e104 k103)))))) rfl rfl (zs_szleE (w := 240) e110 (zs_eqE e109 (zs_eqE e108 (zs_eqE e106 (zs_eqE e105 (zs_eqE e104 k103))))) rfl rfl (zs_szleE (w := 240) e109 (zs_eqE e108 (zs_eqE e106 (zs_eqE e105 (zs_eqE e104 k103)))) rfl rfl (zs_szleE (w := 240) e108 (zs_eqE e106 (zs_eqE e105 (zs_eqE e104 k103))) rfl rfl (zs_szleE (w := 240) e106 (zs_eqE e105 (zs_eqE e104 k103)) rfl rfl (zs_szleE (w := 240) e105 (zs_eqE e104 k103) rfl rfl (zs_szleE (w := 240) e104 k103 rfl rfl (zs_szleE (w := 4) e102 k101 rfl rfl (zs_szleE (w := 4) e99 (zs_neE e94 ((K 56 (by decide) (by decide)).trans (zp_i F 34 rfl)) (by decide)) rfl rfl (zs_szleE (w := 109) e94 ((K 55 (by decide) (by decide)).trans (zp_o F 10 rfl)) rfl rfl KS))))))))))))))))))))))))))))))))))))))))))))))))))))))))))))))) (by decide)⟩
                            first | (simp [zf_42, hz, hc96, hc97, hc98]; done) | (simp [zf_42, hz, hc96, hc97, hc98]; unfold zw; decide)
            · skip
              refine zy_n 1 (mr := zm_m181) (pc' := 39) (ls' := [(0, .ref 55), (1, .int 1), (2, .int a2), (3, .int a3)]) (st' := [.int (-3)]) rfl rfl ?_
              refine zy_r (mr := zm_m181) rfl rfl rfl ?_
              refine ⟨⟨_, rfl, ?_⟩, Nat.le_trans (zs_lleE e94 KL) (by decide), Nat.le_trans (zs_szleE (w := 109) e94 ((K 55 (by decide) (by decide)).trans (zp_o F 10 rfl)) rfl rfl KS) (by decide)⟩
              first | (simp [zf_42, hz, hc96, hc97, hc98]; done) | (simp [zf_42, hz, hc96, hc97, hc98]; unfold zw; decide)
        · skip
          refine zy_n 1 (mr := zm_m181) (pc' := 32) (ls' := [(0, .ref 55), (1, .int 1), (2, .int a2), (3, .int a3)]) (st' := [.int (-2)]) rfl rfl ?_
          as_aux_lemma =>
            refine zy_r (mr := zm_m181) rfl rfl rfl ?_
            refine ⟨⟨_, rfl, ?_⟩, Nat.le_trans (zs_lleE e94 KL) (by decide), Nat.le_trans (zs_szleE (w := 109) e94 ((K 55 (by decide) (by decide)).trans (zp_o F 10 rfl)) rfl rfl KS) (by decide)⟩
            first | (simp [zf_42, hz, hc96, hc97]; done) | (simp [zf_42, hz, hc96, hc97]; unfold zw; decide)
      · skip
        refine zy_b (q := (30, [])) (mr := zm_m181) rfl rfl rfl ?_
        refine zy_n 1 (mr := zm_m181) (pc' := 32) (ls' := [(0, .ref 55), (1, .int 1), (2, .int a2), (3, .int a3)]) (st' := [.int (-2)]) rfl rfl ?_
        refine zy_r (mr := zm_m181) rfl rfl rfl ?_
        refine ⟨⟨_, rfl, ?_⟩, Nat.le_trans (zs_lleE e94 KL) (by decide), Nat.le_trans (zs_szleE (w := 109) e94 ((K 55 (by decide) (by decide)).trans (zp_o F 10 rfl)) rfl rfl KS) (by decide)⟩
        first | (simp [zf_42, hz, hc96]; done) | (simp [zf_42, hz, hc96]; unfold zw; decide)
    · skip
      refine zy_n 2 (mr := zm_m181) (pc' := 2) (ls' := [(0, .ref 55), (1, .int 2), (2, .int a2), (3, .int a3)]) (st' := [.int 0, .ref 55]) rfl rfl ?_
      refine zy_hS (x := .inr (11, [.int 0, .ref 56, .ref 57, .ref 58, .ref 59, .int 0, .int 0, .int 0, .int 0, .int 0, .int 0, .int 20, .int 30, .int 5, .int 2, .ref 60, .ref 61, .ref 62, .ref 63, .ref 64, .ref 65, .ref 66, .ref 67, .ref 68, .ref 69, .ref 70, .ref 71, .ref 72, .ref 73, .ref 74, .ref 75, .ref 76, .ref 77, .ref 78, .ref 79, .ref 80, .ref 81, .ref 82, .ref 83, .ref 84, .ref 85, .ref 86, .ref 87, .ref 88, .ref 89, .ref 90, .ref 91, .ref 92, .ref 93, .ref 94, .int 0, .int (-1), .ref 95, .ref 96, .ref 97, .ref 98, .int 0, .int 0, .int 0, .int 0, .int 0, .int 0, .int 0, .int 0, .int 0, .int 0, .int 0, .int 0, .int 0, .long 0, .int 0, .int 0, .int 0, .long 0, .long 0, .long 0, .long 0, .int 0, .int 0, .int 0, .int 0, .ref 99, .int 0, .int 0, .int 0, .ref 100, .ref 101, .ref 102, .ref 103, .ref 104, .ref 105, .ref 106, .ref 107, .ref 108, .ref 109, .ref 110, .ref 111, .ref 112, .ref 113, .ref 114, .int 0, .int 0, .int 0, .long 0, .long 0, .int 0, .ref 115, .ref 116, .int 0])) (mr := zm_m181) rfl rfl (zh_put ((K 55 (by decide) (by decide)).trans (zp_o F 10 rfl)) rfl rfl) (fun he187 e187 => ?_)
      refine zy_n 1 (mr := zm_m181) (pc' := 6) (ls' := [(0, .ref 55), (1, .int 2), (2, .int a2), (3, .int a3)]) (st' := [.int 2]) rfl rfl ?_
      refine zy_c (mc := zm_m182) (mr := zm_m181) rfl rfl rfl rfl rfl ?_
      refine zy_n 4 (mr := zm_m182) (pc' := 6) (ls' := [(0, .int 2)]) (st' := [.long 3, .long 0, .long 2]) rfl rfl ?_
      refine zy_c (mc := zm_m183) (mr := zm_m182) rfl rfl rfl rfl rfl (zm_Y.mono (zk_in 2 0 3 (by decide) (by decide) (by decide)) ?_)
      rintro r h1 ⟨rfl, ⟨rfl, hc188⟩ | ⟨rfl, hc188⟩⟩
      rotate_left
      · exact absurd hz hc188
      refine zy_r (mr := zm_m182) rfl rfl rfl ?_
      refine zy_b (q := (12, [])) (mr := zm_m181) rfl rfl rfl ?_
      refine zy_n 4 (mr := zm_m181) (pc' := 18) (ls' := [(0, .ref 55), (1, .int 2), (2, .int a2), (3, .int a3)]) (st' := [.long 3, .long 0, .long a2.toInt64]) rfl rfl ?_
      refine zy_c (mc := zm_m183) (mr := zm_m181) rfl rfl rfl rfl rfl (zm_Y.mono (zk_in a2 0 3 rfl (by decide) (by decide)) ?_)
      rintro r h1 ⟨rfl, ⟨rfl, hc189⟩ | ⟨rfl, hc189⟩⟩
      · skip
        refine zy_b (q := (24, [])) (mr := zm_m181) rfl rfl rfl ?_
        refine zy_n 2 (mr := zm_m181) (pc' := 27) (ls' := [(0, .ref 55), (1, .int 2), (2, .int a2), (3, .int a3)]) (st' := [.int 60, .int a3]) rfl rfl ?_
        refine zy_b (mr := zm_m181) rfl rfl rfl (zc_le (fun hc190 => ?_) (fun hc190 => ?_))
        · skip
          refine zy_n 1 (mr := zm_m181) (pc' := 34) (ls' := [(0, .ref 55), (1, .int 2), (2, .int a2), (3, .int a3)]) (st' := [.int a3]) rfl rfl ?_
          refine zy_b (mr := zm_m181) rfl rfl rfl (zi_ge (fun hc191 => ?_) (fun hc191 => ?_))
          · skip
            refine zy_n 1 (mr := zm_m181) (pc' := 41) (ls' := [(0, .ref 55), (1, .int 2), (2, .int a2), (3, .int a3)]) (st' := [.ref 55]) rfl rfl ?_
            refine zy_h (mr := zm_m181) rfl rfl (zh_get (v := .ref 56) (zs_eqE e187 ((K 55 (by decide) (by decide)).trans (zp_o F 10 rfl))) rfl) ?_
            refine zy_n 2 (mr := zm_m181) (pc' := 46) (ls' := [(0, .ref 55), (1, .int 2), (2, .int a2), (3, .int a3)]) (st' := [.int a2, .int 2, .ref 56]) rfl rfl ?_
            refine zy_hS (x := _) (mr := zm_m181) rfl rfl (zh_iast (zs_neE e187 ((K 56 (by decide) (by decide)).trans (zp_i F 34 rfl)) (by decide)) (by decide)) (fun he192 e192 => ?_)
            refine zy_n 1 (mr := zm_m181) (pc' := 48) (ls' := [(0, .ref 55), (1, .int 2), (2, .int a2), (3, .int a3)]) (st' := [.ref 55]) rfl rfl ?_
            have k193 := (zs_neE e192 (zs_eqE e187 ((K 55 (by decide) (by decide)).trans (zp_o F 10 rfl))) (by decide))
            refine zy_h (mr := zm_m181) rfl rfl (zh_get (v := .ref 57) k193 rfl) ?_
            refine zy_n 2 (mr := zm_m181) (pc' := 53) (ls' := [(0, .ref 55), (1, .int 2), (2, .int a2), (3, .int a3)]) (st' := [.int a3, .int 2, .ref 57]) rfl rfl ?_
            have k194 := (zs_neE e192 (zs_neE e187 ((K 57 (by decide) (by decide)).trans (zp_i F 35 rfl)) (by decide)) (by decide))
            refine zy_hS (x := _) (mr := zm_m181) rfl rfl (zh_iast k194 (by decide)) (fun he195 e195 => ?_)
            refine zy_n 4 (mr := zm_m181) (pc' := 61) (ls' := [(4, .int 0), (0, .ref 55), (1, .int 2), (2, .int a2), (3, .int a3)]) (st' := [.int 60, .int 0]) rfl rfl ?_
            refine zy_b (q := (64, [])) (mr := zm_m181) rfl rfl rfl ?_
            refine zy_n 1 (mr := zm_m181) (pc' := 65) (ls' := [(4, .int 0), (0, .ref 55), (1, .int 2), (2, .int a2), (3, .int a3)]) (st' := [.ref 55]) rfl rfl ?_
            refine zy_h (mr := zm_m181) rfl rfl (zh_get (v := .ref 58) (zs_neE e195 k193 (by decide)) rfl) ?_
            refine zy_n 6 (mr := zm_m181) (pc' := 76) (ls' := [(4, .int 0), (0, .ref 55), (1, .int 2), (2, .int a2), (3, .int a3)]) (st' := [.long 0, .int 120, .ref 58]) rfl rfl ?_
            have k196 := (zs_neE e195 (zs_neE e192 (zs_neE e187 ((K 58 (by decide) (by decide)).trans (zp_l F 8 rfl)) (by decide)) (by decide)) (by decide))
            refine zy_hS (x := _) (mr := zm_m181) rfl rfl (zh_last k196 (by decide)) (fun he197 e197 => ?_)
            refine zy_n 4 (mr := zm_m181) (pc' := 61) (ls' := [(4, .int 1), (0, .ref 55), (1, .int 2), (2, .int a2), (3, .int a3)]) (st' := [.int 60, .int 1]) rfl rfl ?_
            refine zy_b (q := (64, [])) (mr := zm_m181) rfl rfl rfl ?_
            refine zy_n 1 (mr := zm_m181) (pc' := 65) (ls' := [(4, .int 1), (0, .ref 55), (1, .int 2), (2, .int a2), (3, .int a3)]) (st' := [.ref 55]) rfl rfl ?_
            as_aux_lemma =>
              refine zy_h (mr := zm_m181) rfl rfl (zh_get (v := .ref 58) (zs_neE e197 (zs_neE e195 k193 (by decide)) (by decide)) rfl) ?_
              refine zy_n 6 (mr := zm_m181) (pc' := 76) (ls' := [(4, .int 1), (0, .ref 55), (1, .int 2), (2, .int a2), (3, .int a3)]) (st' := [.long 0, .int 121, .ref 58]) rfl rfl ?_
              refine zy_hS (x := _) (mr := zm_m181) rfl rfl (zh_last (zs_eqE e197 k196) (by decide)) (fun he198 e198 => ?_)
              refine zy_n 4 (mr := zm_m181) (pc' := 61) (ls' := [(4, .int 2), (0, .ref 55), (1, .int 2), (2, .int a2), (3, .int a3)]) (st' := [.int 60, .int 2]) rfl rfl ?_
              refine zy_b (q := (64, [])) (mr := zm_m181) rfl rfl rfl ?_
              refine zy_n 1 (mr := zm_m181) (pc' := 65) (ls' := [(4, .int 2), (0, .ref 55), (1, .int 2), (2, .int a2), (3, .int a3)]) (st' := [.ref 55]) rfl rfl ?_
              refine zy_h (mr := zm_m181) rfl rfl (zh_get (v := .ref 58) (zs_neE e198 (zs_neE e197 (zs_neE e195 k193 (by decide)) (by decide)) (by decide)) rfl) ?_
              refine zy_n 6 (mr := zm_m181) (pc' := 76) (ls' := [(4, .int 2), (0, .ref 55), (1, .int 2), (2, .int a2), (3, .int a3)]) (st' := [.long 0, .int 122, .ref 58]) rfl rfl ?_
              refine zy_hS (x := _) (mr := zm_m181) rfl rfl (zh_last (zs_eqE e198 (zs_eqE e197 k196)) (by decide)) (fun he199 e199 => ?_)
              refine zy_n 4 (mr := zm_m181) (pc' := 61) (ls' := [(4, .int 3), (0, .ref 55), (1, .int 2), (2, .int a2), (3, .int a3)]) (st' := [.int 60, .int 3]) rfl rfl ?_
              refine zy_b (q := (64, [])) (mr := zm_m181) rfl rfl rfl ?_
              refine zy_n 1 (mr := zm_m181) (pc' := 65) (ls' := [(4, .int 3), (0, .ref 55), (1, .int 2), (2, .int a2), (3, .int a3)]) (st' := [.ref 55]) rfl rfl ?_
              have k200 := (zs_neE e199 (zs_neE e198 (zs_neE e197 (zs_neE e195 k193 (by decide)) (by decide)) (by decide)) (by decide))
              refine zy_h (mr := zm_m181) rfl rfl (zh_get (v := .ref 58) k200 rfl) ?_
              refine zy_n 6 (mr := zm_m181) (pc' := 76) (ls' := [(4, .int 3), (0, .ref 55), (1, .int 2), (2, .int a2), (3, .int a3)]) (st' := [.long 0, .int 123, .ref 58]) rfl rfl ?_
              refine zy_hS (x := _) (mr := zm_m181) rfl rfl (zh_last (zs_eqE e199 (zs_eqE e198 (zs_eqE e197 k196))) (by decide)) (fun he201 e201 => ?_)
              refine zy_n 4 (mr := zm_m181) (pc' := 61) (ls' := [(4, .int 4), (0, .ref 55), (1, .int 2), (2, .int a2), (3, .int a3)]) (st' := [.int 60, .int 4]) rfl rfl ?_
              refine zy_b (q := (64, [])) (mr := zm_m181) rfl rfl rfl ?_
              refine zy_n 1 (mr := zm_m181) (pc' := 65) (ls' := [(4, .int 4), (0, .ref 55), (1, .int 2), (2, .int a2), (3, .int a3)]) (st' := [.ref 55]) rfl rfl ?_
              refine zy_h (mr := zm_m181) rfl rfl (zh_get (v := .ref 58) (zs_neE e201 k200 (by decide)) rfl) ?_
              refine zy_n 6 (mr := zm_m181) (pc' := 76) (ls' := [(4, .int 4), (0, .ref 55), (1, .int 2), (2, .int a2), (3, .int a3)]) (st' := [.long 0, .int 124, .ref 58]) rfl rfl ?_
              refine zy_hS (x := _) (mr := zm_m181) rfl rfl (zh_last (zs_eqE e201 (zs_eqE e199 (zs_eqE e198 (zs_eqE e197 k196)))) (by decide)) (fun he202 e202 => ?_)
              refine zy_n 4 (mr := zm_m181) (pc' := 61) (ls' := [(4, .int 5), (0, .ref 55), (1, .int 2), (2, .int a2), (3, .int a3)]) (st' := [.int 60, .int 5]) rfl rfl ?_
              refine zy_b (q := (64, [])) (mr := zm_m181) rfl rfl rfl ?_
              refine zy_n 1 (mr := zm_m181) (pc' := 65) (ls' := [(4, .int 5), (0, .ref 55), (1, .int 2), (2, .int a2), (3, .int a3)]) (st' := [.ref 55]) rfl rfl ?_
              refine zy_h (mr := zm_m181) rfl rfl (zh_get (v := .ref 58) (zs_neE e202 (zs_neE e201 k200 (by decide)) (by decide)) rfl) ?_
              refine zy_n 6 (mr := zm_m181) (pc' := 76) (ls' := [(4, .int 5), (0, .ref 55), (1, .int 2), (2, .int a2), (3, .int a3)]) (st' := [.long 0, .int 125, .ref 58]) rfl rfl ?_
              refine zy_hS (x := _) (mr := zm_m181) rfl rfl (zh_last (zs_eqE e202 (zs_eqE e201 (zs_eqE e199 (zs_eqE e198 (zs_eqE e197 k196))))) (by decide)) (fun he203 e203 => ?_)
              refine zy_n 4 (mr := zm_m181) (pc' := 61) (ls' := [(4, .int 6), (0, .ref 55), (1, .int 2), (2, .int a2), (3, .int a3)]) (st' := [.int 60, .int 6]) rfl rfl ?_
              refine zy_b (q := (64, [])) (mr := zm_m181) rfl rfl rfl ?_
              refine zy_n 1 (mr := zm_m181) (pc' := 65) (ls' := [(4, .int 6), (0, .ref 55), (1, .int 2), (2, .int a2), (3, .int a3)]) (st' := [.ref 55]) rfl rfl ?_
              refine zy_h (mr := zm_m181) rfl rfl (zh_get (v := .ref 58) (zs_neE e203 (zs_neE e202 (zs_neE e201 k200 (by decide)) (by decide)) (by decide)) rfl) ?_
              refine zy_n 6 (mr := zm_m181) (pc' := 76) (ls' := [(4, .int 6), (0, .ref 55), (1, .int 2), (2, .int a2), (3, .int a3)]) (st' := [.long 0, .int 126, .ref 58]) rfl rfl ?_
              refine zy_hS (x := _) (mr := zm_m181) rfl rfl (zh_last (zs_eqE e203 (zs_eqE e202 (zs_eqE e201 (zs_eqE e199 (zs_eqE e198 (zs_eqE e197 k196)))))) (by decide)) (fun he204 e204 => ?_)
              refine zy_n 4 (mr := zm_m181) (pc' := 61) (ls' := [(4, .int 7), (0, .ref 55), (1, .int 2), (2, .int a2), (3, .int a3)]) (st' := [.int 60, .int 7]) rfl rfl ?_
              refine zy_b (q := (64, [])) (mr := zm_m181) rfl rfl rfl ?_
              refine zy_n 1 (mr := zm_m181) (pc' := 65) (ls' := [(4, .int 7), (0, .ref 55), (1, .int 2), (2, .int a2), (3, .int a3)]) (st' := [.ref 55]) rfl rfl ?_
              have k205 := (zs_neE e204 (zs_neE e203 (zs_neE e202 (zs_neE e201 k200 (by decide)) (by decide)) (by decide)) (by decide))
              refine zy_h (mr := zm_m181) rfl rfl (zh_get (v := .ref 58) k205 rfl) ?_
              refine zy_n 6 (mr := zm_m181) (pc' := 76) (ls' := [(4, .int 7), (0, .ref 55), (1, .int 2), (2, .int a2), (3, .int a3)]) (st' := [.long 0, .int 127, .ref 58]) rfl rfl ?_
              have k206 := (zs_eqE e204 (zs_eqE e203 (zs_eqE e202 (zs_eqE e201 (zs_eqE e199 (zs_eqE e198 (zs_eqE e197 k196)))))))
              refine zy_hS (x := _) (mr := zm_m181) rfl rfl (zh_last k206 (by decide)) (fun he207 e207 => ?_)
              refine zy_n 4 (mr := zm_m181) (pc' := 61) (ls' := [(4, .int 8), (0, .ref 55), (1, .int 2), (2, .int a2), (3, .int a3)]) (st' := [.int 60, .int 8]) rfl rfl ?_
              refine zy_b (q := (64, [])) (mr := zm_m181) rfl rfl rfl ?_
              refine zy_n 1 (mr := zm_m181) (pc' := 65) (ls' := [(4, .int 8), (0, .ref 55), (1, .int 2), (2, .int a2), (3, .int a3)]) (st' := [.ref 55]) rfl rfl ?_
              refine zy_h (mr := zm_m181) rfl rfl (zh_get (v := .ref 58) (zs_neE e207 k205 (by decide)) rfl) ?_
              refine zy_n 6 (mr := zm_m181) (pc' := 76) (ls' := [(4, .int 8), (0, .ref 55), (1, .int 2), (2, .int a2), (3, .int a3)]) (st' := [.long 0, .int 128, .ref 58]) rfl rfl ?_
              refine zy_hS (x := _) (mr := zm_m181) rfl rfl (zh_last (zs_eqE e207 k206) (by decide)) (fun he208 e208 => ?_)
              refine zy_n 4 (mr := zm_m181) (pc' := 61) (ls' := [(4, .int 9), (0, .ref 55), (1, .int 2), (2, .int a2), (3, .int a3)]) (st' := [.int 60, .int 9]) rfl rfl ?_
              refine zy_b (q := (64, [])) (mr := zm_m181) rfl rfl rfl ?_
              refine zy_n 1 (mr := zm_m181) (pc' := 65) (ls' := [(4, .int 9), (0, .ref 55), (1, .int 2), (2, .int a2), (3, .int a3)]) (st' := [.ref 55]) rfl rfl ?_
              as_aux_lemma =>
                refine zy_h (mr := zm_m181) rfl rfl (zh_get (v := .ref 58) (zs_neE e208 (zs_neE e207 k205 (by decide)) (by decide)) rfl) ?_
                refine zy_n 6 (mr := zm_m181) (pc' := 76) (ls' := [(4, .int 9), (0, .ref 55), (1, .int 2), (2, .int a2), (3, .int a3)]) (st' := [.long 0, .int 129, .ref 58]) rfl rfl ?_
                refine zy_hS (x := _) (mr := zm_m181) rfl rfl (zh_last (zs_eqE e208 (zs_eqE e207 k206)) (by decide)) (fun he209 e209 => ?_)
                refine zy_n 4 (mr := zm_m181) (pc' := 61) (ls' := [(4, .int 10), (0, .ref 55), (1, .int 2), (2, .int a2), (3, .int a3)]) (st' := [.int 60, .int 10]) rfl rfl ?_
                refine zy_b (q := (64, [])) (mr := zm_m181) rfl rfl rfl ?_
                refine zy_n 1 (mr := zm_m181) (pc' := 65) (ls' := [(4, .int 10), (0, .ref 55), (1, .int 2), (2, .int a2), (3, .int a3)]) (st' := [.ref 55]) rfl rfl ?_
                refine zy_h (mr := zm_m181) rfl rfl (zh_get (v := .ref 58) (zs_neE e209 (zs_neE e208 (zs_neE e207 k205 (by decide)) (by decide)) (by decide)) rfl) ?_
                refine zy_n 6 (mr := zm_m181) (pc' := 76) (ls' := [(4, .int 10), (0, .ref 55), (1, .int 2), (2, .int a2), (3, .int a3)]) (st' := [.long 0, .int 130, .ref 58]) rfl rfl ?_
                refine zy_hS (x := _) (mr := zm_m181) rfl rfl (zh_last (zs_eqE e209 (zs_eqE e208 (zs_eqE e207 k206))) (by decide)) (fun he210 e210 => ?_)
                refine zy_n 4 (mr := zm_m181) (pc' := 61) (ls' := [(4, .int 11), (0, .ref 55), (1, .int 2), (2, .int a2), (3, .int a3)]) (st' := [.int 60, .int 11]) rfl rfl ?_
                refine zy_b (q := (64, [])) (mr := zm_m181) rfl rfl rfl ?_
                refine zy_n 1 (mr := zm_m181) (pc' := 65) (ls' := [(4, .int 11), (0, .ref 55), (1, .int 2), (2, .int a2), (3, .int a3)]) (st' := [.ref 55]) rfl rfl ?_
                have k211 := (zs_neE e210 (zs_neE e209 (zs_neE e208 (zs_neE e207 k205 (by decide)) (by decide)) (by decide)) (by decide))
                refine zy_h (mr := zm_m181) rfl rfl (zh_get (v := .ref 58) k211 rfl) ?_
                refine zy_n 6 (mr := zm_m181) (pc' := 76) (ls' := [(4, .int 11), (0, .ref 55), (1, .int 2), (2, .int a2), (3, .int a3)]) (st' := [.long 0, .int 131, .ref 58]) rfl rfl ?_
                refine zy_hS (x := _) (mr := zm_m181) rfl rfl (zh_last (zs_eqE e210 (zs_eqE e209 (zs_eqE e208 (zs_eqE e207 k206)))) (by decide)) (fun he212 e212 => ?_)
                refine zy_n 4 (mr := zm_m181) (pc' := 61) (ls' := [(4, .int 12), (0, .ref 55), (1, .int 2), (2, .int a2), (3, .int a3)]) (st' := [.int 60, .int 12]) rfl rfl ?_
                refine zy_b (q := (64, [])) (mr := zm_m181) rfl rfl rfl ?_
                refine zy_n 1 (mr := zm_m181) (pc' := 65) (ls' := [(4, .int 12), (0, .ref 55), (1, .int 2), (2, .int a2), (3, .int a3)]) (st' := [.ref 55]) rfl rfl ?_
                refine zy_h (mr := zm_m181) rfl rfl (zh_get (v := .ref 58) (zs_neE e212 k211 (by decide)) rfl) ?_
                refine zy_n 6 (mr := zm_m181) (pc' := 76) (ls' := [(4, .int 12), (0, .ref 55), (1, .int 2), (2, .int a2), (3, .int a3)]) (st' := [.long 0, .int 132, .ref 58]) rfl rfl ?_
                refine zy_hS (x := _) (mr := zm_m181) rfl rfl (zh_last (zs_eqE e212 (zs_eqE e210 (zs_eqE e209 (zs_eqE e208 (zs_eqE e207 k206))))) (by decide)) (fun he213 e213 => ?_)
                refine zy_n 4 (mr := zm_m181) (pc' := 61) (ls' := [(4, .int 13), (0, .ref 55), (1, .int 2), (2, .int a2), (3, .int a3)]) (st' := [.int 60, .int 13]) rfl rfl ?_
                refine zy_b (q := (64, [])) (mr := zm_m181) rfl rfl rfl ?_
                refine zy_n 1 (mr := zm_m181) (pc' := 65) (ls' := [(4, .int 13), (0, .ref 55), (1, .int 2), (2, .int a2), (3, .int a3)]) (st' := [.ref 55]) rfl rfl ?_
                refine zy_h (mr := zm_m181) rfl rfl (zh_get (v := .ref 58) (zs_neE e213 (zs_neE e212 k211 (by decide)) (by decide)) rfl) ?_
                refine zy_n 6 (mr := zm_m181) (pc' := 76) (ls' := [(4, .int 13), (0, .ref 55), (1, .int 2), (2, .int a2), (3, .int a3)]) (st' := [.long 0, .int 133, .ref 58]) rfl rfl ?_
                refine zy_hS (x := _) (mr := zm_m181) rfl rfl (zh_last (zs_eqE e213 (zs_eqE e212 (zs_eqE e210 (zs_eqE e209 (zs_eqE e208 (zs_eqE e207 k206)))))) (by decide)) (fun he214 e214 => ?_)
                refine zy_n 4 (mr := zm_m181) (pc' := 61) (ls' := [(4, .int 14), (0, .ref 55), (1, .int 2), (2, .int a2), (3, .int a3)]) (st' := [.int 60, .int 14]) rfl rfl ?_
                refine zy_b (q := (64, [])) (mr := zm_m181) rfl rfl rfl ?_
                refine zy_n 1 (mr := zm_m181) (pc' := 65) (ls' := [(4, .int 14), (0, .ref 55), (1, .int 2), (2, .int a2), (3, .int a3)]) (st' := [.ref 55]) rfl rfl ?_
                refine zy_h (mr := zm_m181) rfl rfl (zh_get (v := .ref 58) (zs_neE e214 (zs_neE e213 (zs_neE e212 k211 (by decide)) (by decide)) (by decide)) rfl) ?_
                refine zy_n 6 (mr := zm_m181) (pc' := 76) (ls' := [(4, .int 14), (0, .ref 55), (1, .int 2), (2, .int a2), (3, .int a3)]) (st' := [.long 0, .int 134, .ref 58]) rfl rfl ?_
                have k215 := (zs_eqE e214 (zs_eqE e213 (zs_eqE e212 (zs_eqE e210 (zs_eqE e209 (zs_eqE e208 (zs_eqE e207 k206)))))))
                refine zy_hS (x := _) (mr := zm_m181) rfl rfl (zh_last k215 (by decide)) (fun he216 e216 => ?_)
                refine zy_n 4 (mr := zm_m181) (pc' := 61) (ls' := [(4, .int 15), (0, .ref 55), (1, .int 2), (2, .int a2), (3, .int a3)]) (st' := [.int 60, .int 15]) rfl rfl ?_
                refine zy_b (q := (64, [])) (mr := zm_m181) rfl rfl rfl ?_
                refine zy_n 1 (mr := zm_m181) (pc' := 65) (ls' := [(4, .int 15), (0, .ref 55), (1, .int 2), (2, .int a2), (3, .int a3)]) (st' := [.ref 55]) rfl rfl ?_
                have k217 := (zs_neE e216 (zs_neE e214 (zs_neE e213 (zs_neE e212 k211 (by decide)) (by decide)) (by decide)) (by decide))
                refine zy_h (mr := zm_m181) rfl rfl (zh_get (v := .ref 58) k217 rfl) ?_
                refine zy_n 6 (mr := zm_m181) (pc' := 76) (ls' := [(4, .int 15), (0, .ref 55), (1, .int 2), (2, .int a2), (3, .int a3)]) (st' := [.long 0, .int 135, .ref 58]) rfl rfl ?_
                refine zy_hS (x := _) (mr := zm_m181) rfl rfl (zh_last (zs_eqE e216 k215) (by decide)) (fun he218 e218 => ?_)
                refine zy_n 4 (mr := zm_m181) (pc' := 61) (ls' := [(4, .int 16), (0, .ref 55), (1, .int 2), (2, .int a2), (3, .int a3)]) (st' := [.int 60, .int 16]) rfl rfl ?_
                refine zy_b (q := (64, [])) (mr := zm_m181) rfl rfl rfl ?_
                refine zy_n 1 (mr := zm_m181) (pc' := 65) (ls' := [(4, .int 16), (0, .ref 55), (1, .int 2), (2, .int a2), (3, .int a3)]) (st' := [.ref 55]) rfl rfl ?_
                refine zy_h (mr := zm_m181) rfl rfl (zh_get (v := .ref 58) (zs_neE e218 k217 (by decide)) rfl) ?_
                refine zy_n 6 (mr := zm_m181) (pc' := 76) (ls' := [(4, .int 16), (0, .ref 55), (1, .int 2), (2, .int a2), (3, .int a3)]) (st' := [.long 0, .int 136, .ref 58]) rfl rfl ?_
                refine zy_hS (x := _) (mr := zm_m181) rfl rfl (zh_last (zs_eqE e218 (zs_eqE e216 k215)) (by decide)) (fun he219 e219 => ?_)
                refine zy_n 4 (mr := zm_m181) (pc' := 61) (ls' := [(4, .int 17), (0, .ref 55), (1, .int 2), (2, .int a2), (3, .int a3)]) (st' := [.int 60, .int 17]) rfl rfl ?_
                refine zy_b (q := (64, [])) (mr := zm_m181) rfl rfl rfl ?_
                refine zy_n 1 (mr := zm_m181) (pc' := 65) (ls' := [(4, .int 17), (0, .ref 55), (1, .int 2), (2, .int a2), (3, .int a3)]) (st' := [.ref 55]) rfl rfl ?_
                as_aux_lemma =>
                  refine zy_h (mr := zm_m181) rfl rfl (zh_get (v := .ref 58) (zs_neE e219 (zs_neE e218 k217 (by decide)) (by decide)) rfl) ?_
                  refine zy_n 6 (mr := zm_m181) (pc' := 76) (ls' := [(4, .int 17), (0, .ref 55), (1, .int 2), (2, .int a2), (3, .int a3)]) (st' := [.long 0, .int 137, .ref 58]) rfl rfl ?_
                  refine zy_hS (x := _) (mr := zm_m181) rfl rfl (zh_last (zs_eqE e219 (zs_eqE e218 (zs_eqE e216 k215))) (by decide)) (fun he220 e220 => ?_)
                  refine zy_n 4 (mr := zm_m181) (pc' := 61) (ls' := [(4, .int 18), (0, .ref 55), (1, .int 2), (2, .int a2), (3, .int a3)]) (st' := [.int 60, .int 18]) rfl rfl ?_
                  refine zy_b (q := (64, [])) (mr := zm_m181) rfl rfl rfl ?_
                  refine zy_n 1 (mr := zm_m181) (pc' := 65) (ls' := [(4, .int 18), (0, .ref 55), (1, .int 2), (2, .int a2), (3, .int a3)]) (st' := [.ref 55]) rfl rfl ?_
                  refine zy_h (mr := zm_m181) rfl rfl (zh_get (v := .ref 58) (zs_neE e220 (zs_neE e219 (zs_neE e218 k217 (by decide)) (by decide)) (by decide)) rfl) ?_
                  refine zy_n 6 (mr := zm_m181) (pc' := 76) (ls' := [(4, .int 18), (0, .ref 55), (1, .int 2), (2, .int a2), (3, .int a3)]) (st' := [.long 0, .int 138, .ref 58]) rfl rfl ?_
                  refine zy_hS (x := _) (mr := zm_m181) rfl rfl (zh_last (zs_eqE e220 (zs_eqE e219 (zs_eqE e218 (zs_eqE e216 k215)))) (by decide)) (fun he221 e221 => ?_)
                  refine zy_n 4 (mr := zm_m181) (pc' := 61) (ls' := [(4, .int 19), (0, .ref 55), (1, .int 2), (2, .int a2), (3, .int a3)]) (st' := [.int 60, .int 19]) rfl rfl ?_
                  refine zy_b (q := (64, [])) (mr := zm_m181) rfl rfl rfl ?_
                  refine zy_n 1 (mr := zm_m181) (pc' := 65) (ls' := [(4, .int 19), (0, .ref 55), (1, .int 2), (2, .int a2), (3, .int a3)]) (st' := [.ref 55]) rfl rfl ?_
                  have k222 := (zs_neE e221 (zs_neE e220 (zs_neE e219 (zs_neE e218 k217 (by decide)) (by decide)) (by decide)) (by decide))
                  refine zy_h (mr := zm_m181) rfl rfl (zh_get (v := .ref 58) k222 rfl) ?_
                  refine zy_n 6 (mr := zm_m181) (pc' := 76) (ls' := [(4, .int 19), (0, .ref 55), (1, .int 2), (2, .int a2), (3, .int a3)]) (st' := [.long 0, .int 139, .ref 58]) rfl rfl ?_
                  refine zy_hS (x := _) (mr := zm_m181) rfl rfl (zh_last (zs_eqE e221 (zs_eqE e220 (zs_eqE e219 (zs_eqE e218 (zs_eqE e216 k215))))) (by decide)) (fun he223 e223 => ?_)
                  refine zy_n 4 (mr := zm_m181) (pc' := 61) (ls' := [(4, .int 20), (0, .ref 55), (1, .int 2), (2, .int a2), (3, .int a3)]) (st' := [.int 60, .int 20]) rfl rfl ?_
                  refine zy_b (q := (64, [])) (mr := zm_m181) rfl rfl rfl ?_
                  refine zy_n 1 (mr := zm_m181) (pc' := 65) (ls' := [(4, .int 20), (0, .ref 55), (1, .int 2), (2, .int a2), (3, .int a3)]) (st' := [.ref 55]) rfl rfl ?_
                  refine zy_h (mr := zm_m181) rfl rfl (zh_get (v := .ref 58) (zs_neE e223 k222 (by decide)) rfl) ?_
                  refine zy_n 6 (mr := zm_m181) (pc' := 76) (ls' := [(4, .int 20), (0, .ref 55), (1, .int 2), (2, .int a2), (3, .int a3)]) (st' := [.long 0, .int 140, .ref 58]) rfl rfl ?_
                  refine zy_hS (x := _) (mr := zm_m181) rfl rfl (zh_last (zs_eqE e223 (zs_eqE e221 (zs_eqE e220 (zs_eqE e219 (zs_eqE e218 (zs_eqE e216 k215)))))) (by decide)) (fun he224 e224 => ?_)
                  refine zy_n 4 (mr := zm_m181) (pc' := 61) (ls' := [(4, .int 21), (0, .ref 55), (1, .int 2), (2, .int a2), (3, .int a3)]) (st' := [.int 60, .int 21]) rfl rfl ?_
                  refine zy_b (q := (64, [])) (mr := zm_m181) rfl rfl rfl ?_
                  refine zy_n 1 (mr := zm_m181) (pc' := 65) (ls' := [(4, .int 21), (0, .ref 55), (1, .int 2), (2, .int a2), (3, .int a3)]) (st' := [.ref 55]) rfl rfl ?_
                  refine zy_h (mr := zm_m181) rfl rfl (zh_get (v := .ref 58) (zs_neE e224 (zs_neE e223 k222 (by decide)) (by decide)) rfl) ?_
                  refine zy_n 6 (mr := zm_m181) (pc' := 76) (ls' := [(4, .int 21), (0, .ref 55), (1, .int 2), (2, .int a2), (3, .int a3)]) (st' := [.long 0, .int 141, .ref 58]) rfl rfl ?_
                  have k225 := (zs_eqE e224 (zs_eqE e223 (zs_eqE e221 (zs_eqE e220 (zs_eqE e219 (zs_eqE e218 (zs_eqE e216 k215)))))))
                  refine zy_hS (x := _) (mr := zm_m181) rfl rfl (zh_last k225 (by decide)) (fun he226 e226 => ?_)
                  refine zy_n 4 (mr := zm_m181) (pc' := 61) (ls' := [(4, .int 22), (0, .ref 55), (1, .int 2), (2, .int a2), (3, .int a3)]) (st' := [.int 60, .int 22]) rfl rfl ?_
                  refine zy_b (q := (64, [])) (mr := zm_m181) rfl rfl rfl ?_
                  refine zy_n 1 (mr := zm_m181) (pc' := 65) (ls' := [(4, .int 22), (0, .ref 55), (1, .int 2), (2, .int a2), (3, .int a3)]) (st' := [.ref 55]) rfl rfl ?_
                  refine zy_h (mr := zm_m181) rfl rfl (zh_get (v := .ref 58) (zs_neE e226 (zs_neE e224 (zs_neE e223 k222 (by decide)) (by decide)) (by decide)) rfl) ?_
                  refine zy_n 6 (mr := zm_m181) (pc' := 76) (ls' := [(4, .int 22), (0, .ref 55), (1, .int 2), (2, .int a2), (3, .int a3)]) (st' := [.long 0, .int 142, .ref 58]) rfl rfl ?_
                  refine zy_hS (x := _) (mr := zm_m181) rfl rfl (zh_last (zs_eqE e226 k225) (by decide)) (fun he227 e227 => ?_)
                  refine zy_n 4 (mr := zm_m181) (pc' := 61) (ls' := [(4, .int 23), (0, .ref 55), (1, .int 2), (2, .int a2), (3, .int a3)]) (st' := [.int 60, .int 23]) rfl rfl ?_
                  refine zy_b (q := (64, [])) (mr := zm_m181) rfl rfl rfl ?_
                  refine zy_n 1 (mr := zm_m181) (pc' := 65) (ls' := [(4, .int 23), (0, .ref 55), (1, .int 2), (2, .int a2), (3, .int a3)]) (st' := [.ref 55]) rfl rfl ?_
                  have k228 := (zs_neE e227 (zs_neE e226 (zs_neE e224 (zs_neE e223 k222 (by decide)) (by decide)) (by decide)) (by decide))
                  refine zy_h (mr := zm_m181) rfl rfl (zh_get (v := .ref 58) k228 rfl) ?_
                  refine zy_n 6 (mr := zm_m181) (pc' := 76) (ls' := [(4, .int 23), (0, .ref 55), (1, .int 2), (2, .int a2), (3, .int a3)]) (st' := [.long 0, .int 143, .ref 58]) rfl rfl ?_
                  refine zy_hS (x := _) (mr := zm_m181) rfl rfl (zh_last (zs_eqE e227 (zs_eqE e226 k225)) (by decide)) (fun he229 e229 => ?_)
                  refine zy_n 4 (mr := zm_m181) (pc' := 61) (ls' := [(4, .int 24), (0, .ref 55), (1, .int 2), (2, .int a2), (3, .int a3)]) (st' := [.int 60, .int 24]) rfl rfl ?_
                  refine zy_b (q := (64, [])) (mr := zm_m181) rfl rfl rfl ?_
                  refine zy_n 1 (mr := zm_m181) (pc' := 65) (ls' := [(4, .int 24), (0, .ref 55), (1, .int 2), (2, .int a2), (3, .int a3)]) (st' := [.ref 55]) rfl rfl ?_
                  refine zy_h (mr := zm_m181) rfl rfl (zh_get (v := .ref 58) (zs_neE e229 k228 (by decide)) rfl) ?_
                  refine zy_n 6 (mr := zm_m181) (pc' := 76) (ls' := [(4, .int 24), (0, .ref 55), (1, .int 2), (2, .int a2), (3, .int a3)]) (st' := [.long 0, .int 144, .ref 58]) rfl rfl ?_
                  refine zy_hS (x := _) (mr := zm_m181) rfl rfl (zh_last (zs_eqE e229 (zs_eqE e227 (zs_eqE e226 k225))) (by decide)) (fun he230 e230 => ?_)
                  refine zy_n 4 (mr := zm_m181) (pc' := 61) (ls' := [(4, .int 25), (0, .ref 55), (1, .int 2), (2, .int a2), (3, .int a3)]) (st' := [.int 60, .int 25]) rfl rfl ?_
                  refine zy_b (q := (64, [])) (mr := zm_m181) rfl rfl rfl ?_
                  refine zy_n 1 (mr := zm_m181) (pc' := 65) (ls' := [(4, .int 25), (0, .ref 55), (1, .int 2), (2, .int a2), (3, .int a3)]) (st' := [.ref 55]) rfl rfl ?_
                  as_aux_lemma =>
                    refine zy_h (mr := zm_m181) rfl rfl (zh_get (v := .ref 58) (zs_neE e230 (zs_neE e229 k228 (by decide)) (by decide)) rfl) ?_
                    refine zy_n 6 (mr := zm_m181) (pc' := 76) (ls' := [(4, .int 25), (0, .ref 55), (1, .int 2), (2, .int a2), (3, .int a3)]) (st' := [.long 0, .int 145, .ref 58]) rfl rfl ?_
                    refine zy_hS (x := _) (mr := zm_m181) rfl rfl (zh_last (zs_eqE e230 (zs_eqE e229 (zs_eqE e227 (zs_eqE e226 k225)))) (by decide)) (fun he231 e231 => ?_)
                    refine zy_n 4 (mr := zm_m181) (pc' := 61) (ls' := [(4, .int 26), (0, .ref 55), (1, .int 2), (2, .int a2), (3, .int a3)]) (st' := [.int 60, .int 26]) rfl rfl ?_
                    refine zy_b (q := (64, [])) (mr := zm_m181) rfl rfl rfl ?_
                    refine zy_n 1 (mr := zm_m181) (pc' := 65) (ls' := [(4, .int 26), (0, .ref 55), (1, .int 2), (2, .int a2), (3, .int a3)]) (st' := [.ref 55]) rfl rfl ?_
                    refine zy_h (mr := zm_m181) rfl rfl (zh_get (v := .ref 58) (zs_neE e231 (zs_neE e230 (zs_neE e229 k228 (by decide)) (by decide)) (by decide)) rfl) ?_
                    refine zy_n 6 (mr := zm_m181) (pc' := 76) (ls' := [(4, .int 26), (0, .ref 55), (1, .int 2), (2, .int a2), (3, .int a3)]) (st' := [.long 0, .int 146, .ref 58]) rfl rfl ?_
                    refine zy_hS (x := _) (mr := zm_m181) rfl rfl (zh_last (zs_eqE e231 (zs_eqE e230 (zs_eqE e229 (zs_eqE e227 (zs_eqE e226 k225))))) (by decide)) (fun he232 e232 => ?_)
                    refine zy_n 4 (mr := zm_m181) (pc' := 61) (ls' := [(4, .int 27), (0, .ref 55), (1, .int 2), (2, .int a2), (3, .int a3)]) (st' := [.int 60, .int 27]) rfl rfl ?_
                    refine zy_b (q := (64, [])) (mr := zm_m181) rfl rfl rfl ?_
                    refine zy_n 1 (mr := zm_m181) (pc' := 65) (ls' := [(4, .int 27), (0, .ref 55), (1, .int 2), (2, .int a2), (3, .int a3)]) (st' := [.ref 55]) rfl rfl ?_
                    have k233 := (zs_neE e232 (zs_neE e231 (zs_neE e230 (zs_neE e229 k228 (by decide)) (by decide)) (by decide)) (by decide))
                    refine zy_h (mr := zm_m181) rfl rfl (zh_get (v := .ref 58) k233 rfl) ?_
                    refine zy_n 6 (mr := zm_m181) (pc' := 76) (ls' := [(4, .int 27), (0, .ref 55), (1, .int 2), (2, .int a2), (3, .int a3)]) (st' := [.long 0, .int 147, .ref 58]) rfl rfl ?_
                    refine zy_hS (x := _) (mr := zm_m181) rfl rfl (zh_last (zs_eqE e232 (zs_eqE e231 (zs_eqE e230 (zs_eqE e229 (zs_eqE e227 (zs_eqE e226 k225)))))) (by decide)) (fun he234 e234 => ?_)
                    refine zy_n 4 (mr := zm_m181) (pc' := 61) (ls' := [(4, .int 28), (0, .ref 55), (1, .int 2), (2, .int a2), (3, .int a3)]) (st' := [.int 60, .int 28]) rfl rfl ?_
                    refine zy_b (q := (64, [])) (mr := zm_m181) rfl rfl rfl ?_
                    refine zy_n 1 (mr := zm_m181) (pc' := 65) (ls' := [(4, .int 28), (0, .ref 55), (1, .int 2), (2, .int a2), (3, .int a3)]) (st' := [.ref 55]) rfl rfl ?_
                    refine zy_h (mr := zm_m181) rfl rfl (zh_get (v := .ref 58) (zs_neE e234 k233 (by decide)) rfl) ?_
                    refine zy_n 6 (mr := zm_m181) (pc' := 76) (ls' := [(4, .int 28), (0, .ref 55), (1, .int 2), (2, .int a2), (3, .int a3)]) (st' := [.long 0, .int 148, .ref 58]) rfl rfl ?_
                    have k235 := (zs_eqE e234 (zs_eqE e232 (zs_eqE e231 (zs_eqE e230 (zs_eqE e229 (zs_eqE e227 (zs_eqE e226 k225)))))))
                    refine zy_hS (x := _) (mr := zm_m181) rfl rfl (zh_last k235 (by decide)) (fun he236 e236 => ?_)
                    refine zy_n 4 (mr := zm_m181) (pc' := 61) (ls' := [(4, .int 29), (0, .ref 55), (1, .int 2), (2, .int a2), (3, .int a3)]) (st' := [.int 60, .int 29]) rfl rfl ?_
                    refine zy_b (q := (64, [])) (mr := zm_m181) rfl rfl rfl ?_
                    refine zy_n 1 (mr := zm_m181) (pc' := 65) (ls' := [(4, .int 29), (0, .ref 55), (1, .int 2), (2, .int a2), (3, .int a3)]) (st' := [.ref 55]) rfl rfl ?_
                    refine zy_h (mr := zm_m181) rfl rfl (zh_get (v := .ref 58) (zs_neE e236 (zs_neE e234 k233 (by decide)) (by decide)) rfl) ?_
                    refine zy_n 6 (mr := zm_m181) (pc' := 76) (ls' := [(4, .int 29), (0, .ref 55), (1, .int 2), (2, .int a2), (3, .int a3)]) (st' := [.long 0, .int 149, .ref 58]) rfl rfl ?_
                    refine zy_hS (x := _) (mr := zm_m181) rfl rfl (zh_last (zs_eqE e236 k235) (by decide)) (fun he237 e237 => ?_)
                    refine zy_n 4 (mr := zm_m181) (pc' := 61) (ls' := [(4, .int 30), (0, .ref 55), (1, .int 2), (2, .int a2), (3, .int a3)]) (st' := [.int 60, .int 30]) rfl rfl ?_
                    refine zy_b (q := (64, [])) (mr := zm_m181) rfl rfl rfl ?_
                    refine zy_n 1 (mr := zm_m181) (pc' := 65) (ls' := [(4, .int 30), (0, .ref 55), (1, .int 2), (2, .int a2), (3, .int a3)]) (st' := [.ref 55]) rfl rfl ?_
                    refine zy_h (mr := zm_m181) rfl rfl (zh_get (v := .ref 58) (zs_neE e237 (zs_neE e236 (zs_neE e234 k233 (by decide)) (by decide)) (by decide)) rfl) ?_
                    refine zy_n 6 (mr := zm_m181) (pc' := 76) (ls' := [(4, .int 30), (0, .ref 55), (1, .int 2), (2, .int a2), (3, .int a3)]) (st' := [.long 0, .int 150, .ref 58]) rfl rfl ?_
                    refine zy_hS (x := _) (mr := zm_m181) rfl rfl (zh_last (zs_eqE e237 (zs_eqE e236 k235)) (by decide)) (fun he238 e238 => ?_)
                    refine zy_n 4 (mr := zm_m181) (pc' := 61) (ls' := [(4, .int 31), (0, .ref 55), (1, .int 2), (2, .int a2), (3, .int a3)]) (st' := [.int 60, .int 31]) rfl rfl ?_
                    refine zy_b (q := (64, [])) (mr := zm_m181) rfl rfl rfl ?_
                    refine zy_n 1 (mr := zm_m181) (pc' := 65) (ls' := [(4, .int 31), (0, .ref 55), (1, .int 2), (2, .int a2), (3, .int a3)]) (st' := [.ref 55]) rfl rfl ?_
                    have k239 := (zs_neE e238 (zs_neE e237 (zs_neE e236 (zs_neE e234 k233 (by decide)) (by decide)) (by decide)) (by decide))
                    refine zy_h (mr := zm_m181) rfl rfl (zh_get (v := .ref 58) k239 rfl) ?_
                    refine zy_n 6 (mr := zm_m181) (pc' := 76) (ls' := [(4, .int 31), (0, .ref 55), (1, .int 2), (2, .int a2), (3, .int a3)]) (st' := [.long 0, .int 151, .ref 58]) rfl rfl ?_
                    refine zy_hS (x := _) (mr := zm_m181) rfl rfl (zh_last (zs_eqE e238 (zs_eqE e237 (zs_eqE e236 k235))) (by decide)) (fun he240 e240 => ?_)
                    refine zy_n 4 (mr := zm_m181) (pc' := 61) (ls' := [(4, .int 32), (0, .ref 55), (1, .int 2), (2, .int a2), (3, .int a3)]) (st' := [.int 60, .int 32]) rfl rfl ?_
                    refine zy_b (q := (64, [])) (mr := zm_m181) rfl rfl rfl ?_
                    refine zy_n 1 (mr := zm_m181) (pc' := 65) (ls' := [(4, .int 32), (0, .ref 55), (1, .int 2), (2, .int a2), (3, .int a3)]) (st' := [.ref 55]) rfl rfl ?_
                    refine zy_h (mr := zm_m181) rfl rfl (zh_get (v := .ref 58) (zs_neE e240 k239 (by decide)) rfl) ?_
                    refine zy_n 6 (mr := zm_m181) (pc' := 76) (ls' := [(4, .int 32), (0, .ref 55), (1, .int 2), (2, .int a2), (3, .int a3)]) (st' := [.long 0, .int 152, .ref 58]) rfl rfl ?_
                    refine zy_hS (x := _) (mr := zm_m181) rfl rfl (zh_last (zs_eqE e240 (zs_eqE e238 (zs_eqE e237 (zs_eqE e236 k235)))) (by decide)) (fun he241 e241 => ?_)
                    refine zy_n 4 (mr := zm_m181) (pc' := 61) (ls' := [(4, .int 33), (0, .ref 55), (1, .int 2), (2, .int a2), (3, .int a3)]) (st' := [.int 60, .int 33]) rfl rfl ?_
                    refine zy_b (q := (64, [])) (mr := zm_m181) rfl rfl rfl ?_
                    refine zy_n 1 (mr := zm_m181) (pc' := 65) (ls' := [(4, .int 33), (0, .ref 55), (1, .int 2), (2, .int a2), (3, .int a3)]) (st' := [.ref 55]) rfl rfl ?_
                    as_aux_lemma =>
                      refine zy_h (mr := zm_m181) rfl rfl (zh_get (v := .ref 58) (zs_neE e241 (zs_neE e240 k239 (by decide)) (by decide)) rfl) ?_
                      refine zy_n 6 (mr := zm_m181) (pc' := 76) (ls' := [(4, .int 33), (0, .ref 55), (1, .int 2), (2, .int a2), (3, .int a3)]) (st' := [.long 0, .int 153, .ref 58]) rfl rfl ?_
                      refine zy_hS (x := _) (mr := zm_m181) rfl rfl (zh_last (zs_eqE e241 (zs_eqE e240 (zs_eqE e238 (zs_eqE e237 (zs_eqE e236 k235))))) (by decide)) (fun he242 e242 => ?_)
                      refine zy_n 4 (mr := zm_m181) (pc' := 61) (ls' := [(4, .int 34), (0, .ref 55), (1, .int 2), (2, .int a2), (3, .int a3)]) (st' := [.int 60, .int 34]) rfl rfl ?_
                      refine zy_b (q := (64, [])) (mr := zm_m181) rfl rfl rfl ?_
                      refine zy_n 1 (mr := zm_m181) (pc' := 65) (ls' := [(4, .int 34), (0, .ref 55), (1, .int 2), (2, .int a2), (3, .int a3)]) (st' := [.ref 55]) rfl rfl ?_
                      refine zy_h (mr := zm_m181) rfl rfl (zh_get (v := .ref 58) (zs_neE e242 (zs_neE e241 (zs_neE e240 k239 (by decide)) (by decide)) (by decide)) rfl) ?_
                      refine zy_n 6 (mr := zm_m181) (pc' := 76) (ls' := [(4, .int 34), (0, .ref 55), (1, .int 2), (2, .int a2), (3, .int a3)]) (st' := [.long 0, .int 154, .ref 58]) rfl rfl ?_
                      refine zy_hS (x := _) (mr := zm_m181) rfl rfl (zh_last (zs_eqE e242 (zs_eqE e241 (zs_eqE e240 (zs_eqE e238 (zs_eqE e237 (zs_eqE e236 k235)))))) (by decide)) (fun he243 e243 => ?_)
                      refine zy_n 4 (mr := zm_m181) (pc' := 61) (ls' := [(4, .int 35), (0, .ref 55), (1, .int 2), (2, .int a2), (3, .int a3)]) (st' := [.int 60, .int 35]) rfl rfl ?_
                      refine zy_b (q := (64, [])) (mr := zm_m181) rfl rfl rfl ?_
                      refine zy_n 1 (mr := zm_m181) (pc' := 65) (ls' := [(4, .int 35), (0, .ref 55), (1, .int 2), (2, .int a2), (3, .int a3)]) (st' := [.ref 55]) rfl rfl ?_
                      have k244 := (zs_neE e243 (zs_neE e242 (zs_neE e241 (zs_neE e240 k239 (by decide)) (by decide)) (by decide)) (by decide))
                      refine zy_h (mr := zm_m181) rfl rfl (zh_get (v := .ref 58) k244 rfl) ?_
                      refine zy_n 6 (mr := zm_m181) (pc' := 76) (ls' := [(4, .int 35), (0, .ref 55), (1, .int 2), (2, .int a2), (3, .int a3)]) (st' := [.long 0, .int 155, .ref 58]) rfl rfl ?_
                      have k245 := (zs_eqE e243 (zs_eqE e242 (zs_eqE e241 (zs_eqE e240 (zs_eqE e238 (zs_eqE e237 (zs_eqE e236 k235)))))))
                      refine zy_hS (x := _) (mr := zm_m181) rfl rfl (zh_last k245 (by decide)) (fun he246 e246 => ?_)
                      refine zy_n 4 (mr := zm_m181) (pc' := 61) (ls' := [(4, .int 36), (0, .ref 55), (1, .int 2), (2, .int a2), (3, .int a3)]) (st' := [.int 60, .int 36]) rfl rfl ?_
                      refine zy_b (q := (64, [])) (mr := zm_m181) rfl rfl rfl ?_
                      refine zy_n 1 (mr := zm_m181) (pc' := 65) (ls' := [(4, .int 36), (0, .ref 55), (1, .int 2), (2, .int a2), (3, .int a3)]) (st' := [.ref 55]) rfl rfl ?_
                      refine zy_h (mr := zm_m181) rfl rfl (zh_get (v := .ref 58) (zs_neE e246 k244 (by decide)) rfl) ?_
                      refine zy_n 6 (mr := zm_m181) (pc' := 76) (ls' := [(4, .int 36), (0, .ref 55), (1, .int 2), (2, .int a2), (3, .int a3)]) (st' := [.long 0, .int 156, .ref 58]) rfl rfl ?_
                      refine zy_hS (x := _) (mr := zm_m181) rfl rfl (zh_last (zs_eqE e246 k245) (by decide)) (fun he247 e247 => ?_)
                      refine zy_n 4 (mr := zm_m181) (pc' := 61) (ls' := [(4, .int 37), (0, .ref 55), (1, .int 2), (2, .int a2), (3, .int a3)]) (st' := [.int 60, .int 37]) rfl rfl ?_
                      refine zy_b (q := (64, [])) (mr := zm_m181) rfl rfl rfl ?_
                      refine zy_n 1 (mr := zm_m181) (pc' := 65) (ls' := [(4, .int 37), (0, .ref 55), (1, .int 2), (2, .int a2), (3, .int a3)]) (st' := [.ref 55]) rfl rfl ?_
                      refine zy_h (mr := zm_m181) rfl rfl (zh_get (v := .ref 58) (zs_neE e247 (zs_neE e246 k244 (by decide)) (by decide)) rfl) ?_
                      refine zy_n 6 (mr := zm_m181) (pc' := 76) (ls' := [(4, .int 37), (0, .ref 55), (1, .int 2), (2, .int a2), (3, .int a3)]) (st' := [.long 0, .int 157, .ref 58]) rfl rfl ?_
                      refine zy_hS (x := _) (mr := zm_m181) rfl rfl (zh_last (zs_eqE e247 (zs_eqE e246 k245)) (by decide)) (fun he248 e248 => ?_)
                      refine zy_n 4 (mr := zm_m181) (pc' := 61) (ls' := [(4, .int 38), (0, .ref 55), (1, .int 2), (2, .int a2), (3, .int a3)]) (st' := [.int 60, .int 38]) rfl rfl ?_
                      refine zy_b (q := (64, [])) (mr := zm_m181) rfl rfl rfl ?_
                      refine zy_n 1 (mr := zm_m181) (pc' := 65) (ls' := [(4, .int 38), (0, .ref 55), (1, .int 2), (2, .int a2), (3, .int a3)]) (st' := [.ref 55]) rfl rfl ?_
                      refine zy_h (mr := zm_m181) rfl rfl (zh_get (v := .ref 58) (zs_neE e248 (zs_neE e247 (zs_neE e246 k244 (by decide)) (by decide)) (by decide)) rfl) ?_
                      refine zy_n 6 (mr := zm_m181) (pc' := 76) (ls' := [(4, .int 38), (0, .ref 55), (1, .int 2), (2, .int a2), (3, .int a3)]) (st' := [.long 0, .int 158, .ref 58]) rfl rfl ?_
                      refine zy_hS (x := _) (mr := zm_m181) rfl rfl (zh_last (zs_eqE e248 (zs_eqE e247 (zs_eqE e246 k245))) (by decide)) (fun he249 e249 => ?_)
                      refine zy_n 4 (mr := zm_m181) (pc' := 61) (ls' := [(4, .int 39), (0, .ref 55), (1, .int 2), (2, .int a2), (3, .int a3)]) (st' := [.int 60, .int 39]) rfl rfl ?_
                      refine zy_b (q := (64, [])) (mr := zm_m181) rfl rfl rfl ?_
                      refine zy_n 1 (mr := zm_m181) (pc' := 65) (ls' := [(4, .int 39), (0, .ref 55), (1, .int 2), (2, .int a2), (3, .int a3)]) (st' := [.ref 55]) rfl rfl ?_
                      have k250 := (zs_neE e249 (zs_neE e248 (zs_neE e247 (zs_neE e246 k244 (by decide)) (by decide)) (by decide)) (by decide))
                      refine zy_h (mr := zm_m181) rfl rfl (zh_get (v := .ref 58) k250 rfl) ?_
                      refine zy_n 6 (mr := zm_m181) (pc' := 76) (ls' := [(4, .int 39), (0, .ref 55), (1, .int 2), (2, .int a2), (3, .int a3)]) (st' := [.long 0, .int 159, .ref 58]) rfl rfl ?_
                      refine zy_hS (x := _) (mr := zm_m181) rfl rfl (zh_last (zs_eqE e249 (zs_eqE e248 (zs_eqE e247 (zs_eqE e246 k245)))) (by decide)) (fun he251 e251 => ?_)
                      refine zy_n 4 (mr := zm_m181) (pc' := 61) (ls' := [(4, .int 40), (0, .ref 55), (1, .int 2), (2, .int a2), (3, .int a3)]) (st' := [.int 60, .int 40]) rfl rfl ?_
                      refine zy_b (q := (64, [])) (mr := zm_m181) rfl rfl rfl ?_
                      refine zy_n 1 (mr := zm_m181) (pc' := 65) (ls' := [(4, .int 40), (0, .ref 55), (1, .int 2), (2, .int a2), (3, .int a3)]) (st' := [.ref 55]) rfl rfl ?_
                      refine zy_h (mr := zm_m181) rfl rfl (zh_get (v := .ref 58) (zs_neE e251 k250 (by decide)) rfl) ?_
                      refine zy_n 6 (mr := zm_m181) (pc' := 76) (ls' := [(4, .int 40), (0, .ref 55), (1, .int 2), (2, .int a2), (3, .int a3)]) (st' := [.long 0, .int 160, .ref 58]) rfl rfl ?_
                      refine zy_hS (x := _) (mr := zm_m181) rfl rfl (zh_last (zs_eqE e251 (zs_eqE e249 (zs_eqE e248 (zs_eqE e247 (zs_eqE e246 k245))))) (by decide)) (fun he252 e252 => ?_)
                      refine zy_n 4 (mr := zm_m181) (pc' := 61) (ls' := [(4, .int 41), (0, .ref 55), (1, .int 2), (2, .int a2), (3, .int a3)]) (st' := [.int 60, .int 41]) rfl rfl ?_
                      refine zy_b (q := (64, [])) (mr := zm_m181) rfl rfl rfl ?_
                      refine zy_n 1 (mr := zm_m181) (pc' := 65) (ls' := [(4, .int 41), (0, .ref 55), (1, .int 2), (2, .int a2), (3, .int a3)]) (st' := [.ref 55]) rfl rfl ?_
                      as_aux_lemma =>
                        refine zy_h (mr := zm_m181) rfl rfl (zh_get (v := .ref 58) (zs_neE e252 (zs_neE e251 k250 (by decide)) (by decide)) rfl) ?_
                        refine zy_n 6 (mr := zm_m181) (pc' := 76) (ls' := [(4, .int 41), (0, .ref 55), (1, .int 2), (2, .int a2), (3, .int a3)]) (st' := [.long 0, .int 161, .ref 58]) rfl rfl ?_
                        refine zy_hS (x := _) (mr := zm_m181) rfl rfl (zh_last (zs_eqE e252 (zs_eqE e251 (zs_eqE e249 (zs_eqE e248 (zs_eqE e247 (zs_eqE e246 k245)))))) (by decide)) (fun he253 e253 => ?_)
                        refine zy_n 4 (mr := zm_m181) (pc' := 61) (ls' := [(4, .int 42), (0, .ref 55), (1, .int 2), (2, .int a2), (3, .int a3)]) (st' := [.int 60, .int 42]) rfl rfl ?_
                        refine zy_b (q := (64, [])) (mr := zm_m181) rfl rfl rfl ?_
                        refine zy_n 1 (mr := zm_m181) (pc' := 65) (ls' := [(4, .int 42), (0, .ref 55), (1, .int 2), (2, .int a2), (3, .int a3)]) (st' := [.ref 55]) rfl rfl ?_
                        refine zy_h (mr := zm_m181) rfl rfl (zh_get (v := .ref 58) (zs_neE e253 (zs_neE e252 (zs_neE e251 k250 (by decide)) (by decide)) (by decide)) rfl) ?_
                        refine zy_n 6 (mr := zm_m181) (pc' := 76) (ls' := [(4, .int 42), (0, .ref 55), (1, .int 2), (2, .int a2), (3, .int a3)]) (st' := [.long 0, .int 162, .ref 58]) rfl rfl ?_
                        have k254 := (zs_eqE e253 (zs_eqE e252 (zs_eqE e251 (zs_eqE e249 (zs_eqE e248 (zs_eqE e247 (zs_eqE e246 k245)))))))
                        refine zy_hS (x := _) (mr := zm_m181) rfl rfl (zh_last k254 (by decide)) (fun he255 e255 => ?_)
                        refine zy_n 4 (mr := zm_m181) (pc' := 61) (ls' := [(4, .int 43), (0, .ref 55), (1, .int 2), (2, .int a2), (3, .int a3)]) (st' := [.int 60, .int 43]) rfl rfl ?_
                        refine zy_b (q := (64, [])) (mr := zm_m181) rfl rfl rfl ?_
                        refine zy_n 1 (mr := zm_m181) (pc' := 65) (ls' := [(4, .int 43), (0, .ref 55), (1, .int 2), (2, .int a2), (3, .int a3)]) (st' := [.ref 55]) rfl rfl ?_
                        have k256 := (zs_neE e255 (zs_neE e253 (zs_neE e252 (zs_neE e251 k250 (by decide)) (by decide)) (by decide)) (by decide))
                        refine zy_h (mr := zm_m181) rfl rfl (zh_get (v := .ref 58) k256 rfl) ?_
                        refine zy_n 6 (mr := zm_m181) (pc' := 76) (ls' := [(4, .int 43), (0, .ref 55), (1, .int 2), (2, .int a2), (3, .int a3)]) (st' := [.long 0, .int 163, .ref 58]) rfl rfl ?_
                        refine zy_hS (x := _) (mr := zm_m181) rfl rfl (zh_last (zs_eqE e255 k254) (by decide)) (fun he257 e257 => ?_)
                        refine zy_n 4 (mr := zm_m181) (pc' := 61) (ls' := [(4, .int 44), (0, .ref 55), (1, .int 2), (2, .int a2), (3, .int a3)]) (st' := [.int 60, .int 44]) rfl rfl ?_
                        refine zy_b (q := (64, [])) (mr := zm_m181) rfl rfl rfl ?_
                        refine zy_n 1 (mr := zm_m181) (pc' := 65) (ls' := [(4, .int 44), (0, .ref 55), (1, .int 2), (2, .int a2), (3, .int a3)]) (st' := [.ref 55]) rfl rfl ?_
                        refine zy_h (mr := zm_m181) rfl rfl (zh_get (v := .ref 58) (zs_neE e257 k256 (by decide)) rfl) ?_
                        refine zy_n 6 (mr := zm_m181) (pc' := 76) (ls' := [(4, .int 44), (0, .ref 55), (1, .int 2), (2, .int a2), (3, .int a3)]) (st' := [.long 0, .int 164, .ref 58]) rfl rfl ?_
                        refine zy_hS (x := _) (mr := zm_m181) rfl rfl (zh_last (zs_eqE e257 (zs_eqE e255 k254)) (by decide)) (fun he258 e258 => ?_)
                        refine zy_n 4 (mr := zm_m181) (pc' := 61) (ls' := [(4, .int 45), (0, .ref 55), (1, .int 2), (2, .int a2), (3, .int a3)]) (st' := [.int 60, .int 45]) rfl rfl ?_
                        refine zy_b (q := (64, [])) (mr := zm_m181) rfl rfl rfl ?_
                        refine zy_n 1 (mr := zm_m181) (pc' := 65) (ls' := [(4, .int 45), (0, .ref 55), (1, .int 2), (2, .int a2), (3, .int a3)]) (st' := [.ref 55]) rfl rfl ?_
                        refine zy_h (mr := zm_m181) rfl rfl (zh_get (v := .ref 58) (zs_neE e258 (zs_neE e257 k256 (by decide)) (by decide)) rfl) ?_
                        refine zy_n 6 (mr := zm_m181) (pc' := 76) (ls' := [(4, .int 45), (0, .ref 55), (1, .int 2), (2, .int a2), (3, .int a3)]) (st' := [.long 0, .int 165, .ref 58]) rfl rfl ?_
                        refine zy_hS (x := _) (mr := zm_m181) rfl rfl (zh_last (zs_eqE e258 (zs_eqE e257 (zs_eqE e255 k254))) (by decide)) (fun he259 e259 => ?_)
                        refine zy_n 4 (mr := zm_m181) (pc' := 61) (ls' := [(4, .int 46), (0, .ref 55), (1, .int 2), (2, .int a2), (3, .int a3)]) (st' := [.int 60, .int 46]) rfl rfl ?_
                        refine zy_b (q := (64, [])) (mr := zm_m181) rfl rfl rfl ?_
                        refine zy_n 1 (mr := zm_m181) (pc' := 65) (ls' := [(4, .int 46), (0, .ref 55), (1, .int 2), (2, .int a2), (3, .int a3)]) (st' := [.ref 55]) rfl rfl ?_
                        refine zy_h (mr := zm_m181) rfl rfl (zh_get (v := .ref 58) (zs_neE e259 (zs_neE e258 (zs_neE e257 k256 (by decide)) (by decide)) (by decide)) rfl) ?_
                        refine zy_n 6 (mr := zm_m181) (pc' := 76) (ls' := [(4, .int 46), (0, .ref 55), (1, .int 2), (2, .int a2), (3, .int a3)]) (st' := [.long 0, .int 166, .ref 58]) rfl rfl ?_
                        refine zy_hS (x := _) (mr := zm_m181) rfl rfl (zh_last (zs_eqE e259 (zs_eqE e258 (zs_eqE e257 (zs_eqE e255 k254)))) (by decide)) (fun he260 e260 => ?_)
                        refine zy_n 4 (mr := zm_m181) (pc' := 61) (ls' := [(4, .int 47), (0, .ref 55), (1, .int 2), (2, .int a2), (3, .int a3)]) (st' := [.int 60, .int 47]) rfl rfl ?_
                        refine zy_b (q := (64, [])) (mr := zm_m181) rfl rfl rfl ?_
                        refine zy_n 1 (mr := zm_m181) (pc' := 65) (ls' := [(4, .int 47), (0, .ref 55), (1, .int 2), (2, .int a2), (3, .int a3)]) (st' := [.ref 55]) rfl rfl ?_
                        have k261 := (zs_neE e260 (zs_neE e259 (zs_neE e258 (zs_neE e257 k256 (by decide)) (by decide)) (by decide)) (by decide))
                        refine zy_h (mr := zm_m181) rfl rfl (zh_get (v := .ref 58) k261 rfl) ?_
                        refine zy_n 6 (mr := zm_m181) (pc' := 76) (ls' := [(4, .int 47), (0, .ref 55), (1, .int 2), (2, .int a2), (3, .int a3)]) (st' := [.long 0, .int 167, .ref 58]) rfl rfl ?_
                        refine zy_hS (x := _) (mr := zm_m181) rfl rfl (zh_last (zs_eqE e260 (zs_eqE e259 (zs_eqE e258 (zs_eqE e257 (zs_eqE e255 k254))))) (by decide)) (fun he262 e262 => ?_)
                        refine zy_n 4 (mr := zm_m181) (pc' := 61) (ls' := [(4, .int 48), (0, .ref 55), (1, .int 2), (2, .int a2), (3, .int a3)]) (st' := [.int 60, .int 48]) rfl rfl ?_
                        refine zy_b (q := (64, [])) (mr := zm_m181) rfl rfl rfl ?_
                        refine zy_n 1 (mr := zm_m181) (pc' := 65) (ls' := [(4, .int 48), (0, .ref 55), (1, .int 2), (2, .int a2), (3, .int a3)]) (st' := [.ref 55]) rfl rfl ?_
                        refine zy_h (mr := zm_m181) rfl rfl (zh_get (v := .ref 58) (zs_neE e262 k261 (by decide)) rfl) ?_
                        refine zy_n 6 (mr := zm_m181) (pc' := 76) (ls' := [(4, .int 48), (0, .ref 55), (1, .int 2), (2, .int a2), (3, .int a3)]) (st' := [.long 0, .int 168, .ref 58]) rfl rfl ?_
                        refine zy_hS (x := _) (mr := zm_m181) rfl rfl (zh_last (zs_eqE e262 (zs_eqE e260 (zs_eqE e259 (zs_eqE e258 (zs_eqE e257 (zs_eqE e255 k254)))))) (by decide)) (fun he263 e263 => ?_)
                        refine zy_n 4 (mr := zm_m181) (pc' := 61) (ls' := [(4, .int 49), (0, .ref 55), (1, .int 2), (2, .int a2), (3, .int a3)]) (st' := [.int 60, .int 49]) rfl rfl ?_
                        refine zy_b (q := (64, [])) (mr := zm_m181) rfl rfl rfl ?_
                        refine zy_n 1 (mr := zm_m181) (pc' := 65) (ls' := [(4, .int 49), (0, .ref 55), (1, .int 2), (2, .int a2), (3, .int a3)]) (st' := [.ref 55]) rfl rfl ?_
                        as_aux_lemma =>
                          refine zy_h (mr := zm_m181) rfl rfl (zh_get (v := .ref 58) (zs_neE e263 (zs_neE e262 k261 (by decide)) (by decide)) rfl) ?_
                          refine zy_n 6 (mr := zm_m181) (pc' := 76) (ls' := [(4, .int 49), (0, .ref 55), (1, .int 2), (2, .int a2), (3, .int a3)]) (st' := [.long 0, .int 169, .ref 58]) rfl rfl ?_
                          have k264 := (zs_eqE e263 (zs_eqE e262 (zs_eqE e260 (zs_eqE e259 (zs_eqE e258 (zs_eqE e257 (zs_eqE e255 k254)))))))
                          refine zy_hS (x := _) (mr := zm_m181) rfl rfl (zh_last k264 (by decide)) (fun he265 e265 => ?_)
                          refine zy_n 4 (mr := zm_m181) (pc' := 61) (ls' := [(4, .int 50), (0, .ref 55), (1, .int 2), (2, .int a2), (3, .int a3)]) (st' := [.int 60, .int 50]) rfl rfl ?_
                          refine zy_b (q := (64, [])) (mr := zm_m181) rfl rfl rfl ?_
                          refine zy_n 1 (mr := zm_m181) (pc' := 65) (ls' := [(4, .int 50), (0, .ref 55), (1, .int 2), (2, .int a2), (3, .int a3)]) (st' := [.ref 55]) rfl rfl ?_
                          refine zy_h (mr := zm_m181) rfl rfl (zh_get (v := .ref 58) (zs_neE e265 (zs_neE e263 (zs_neE e262 k261 (by decide)) (by decide)) (by decide)) rfl) ?_
                          refine zy_n 6 (mr := zm_m181) (pc' := 76) (ls' := [(4, .int 50), (0, .ref 55), (1, .int 2), (2, .int a2), (3, .int a3)]) (st' := [.long 0, .int 170, .ref 58]) rfl rfl ?_
                          refine zy_hS (x := _) (mr := zm_m181) rfl rfl (zh_last (zs_eqE e265 k264) (by decide)) (fun he266 e266 => ?_)
                          refine zy_n 4 (mr := zm_m181) (pc' := 61) (ls' := [(4, .int 51), (0, .ref 55), (1, .int 2), (2, .int a2), (3, .int a3)]) (st' := [.int 60, .int 51]) rfl rfl ?_
                          refine zy_b (q := (64, [])) (mr := zm_m181) rfl rfl rfl ?_
                          refine zy_n 1 (mr := zm_m181) (pc' := 65) (ls' := [(4, .int 51), (0, .ref 55), (1, .int 2), (2, .int a2), (3, .int a3)]) (st' := [.ref 55]) rfl rfl ?_
                          have k267 := (zs_neE e266 (zs_neE e265 (zs_neE e263 (zs_neE e262 k261 (by decide)) (by decide)) (by decide)) (by decide))
                          refine zy_h (mr := zm_m181) rfl rfl (zh_get (v := .ref 58) k267 rfl) ?_
                          refine zy_n 6 (mr := zm_m181) (pc' := 76) (ls' := [(4, .int 51), (0, .ref 55), (1, .int 2), (2, .int a2), (3, .int a3)]) (st' := [.long 0, .int 171, .ref 58]) rfl rfl ?_
                          refine zy_hS (x := _) (mr := zm_m181) rfl rfl (zh_last (zs_eqE e266 (zs_eqE e265 k264)) (by decide)) (fun he268 e268 => ?_)
                          refine zy_n 4 (mr := zm_m181) (pc' := 61) (ls' := [(4, .int 52), (0, .ref 55), (1, .int 2), (2, .int a2), (3, .int a3)]) (st' := [.int 60, .int 52]) rfl rfl ?_
                          refine zy_b (q := (64, [])) (mr := zm_m181) rfl rfl rfl ?_
                          refine zy_n 1 (mr := zm_m181) (pc' := 65) (ls' := [(4, .int 52), (0, .ref 55), (1, .int 2), (2, .int a2), (3, .int a3)]) (st' := [.ref 55]) rfl rfl ?_
                          refine zy_h (mr := zm_m181) rfl rfl (zh_get (v := .ref 58) (zs_neE e268 k267 (by decide)) rfl) ?_
                          refine zy_n 6 (mr := zm_m181) (pc' := 76) (ls' := [(4, .int 52), (0, .ref 55), (1, .int 2), (2, .int a2), (3, .int a3)]) (st' := [.long 0, .int 172, .ref 58]) rfl rfl ?_
                          refine zy_hS (x := _) (mr := zm_m181) rfl rfl (zh_last (zs_eqE e268 (zs_eqE e266 (zs_eqE e265 k264))) (by decide)) (fun he269 e269 => ?_)
                          refine zy_n 4 (mr := zm_m181) (pc' := 61) (ls' := [(4, .int 53), (0, .ref 55), (1, .int 2), (2, .int a2), (3, .int a3)]) (st' := [.int 60, .int 53]) rfl rfl ?_
                          refine zy_b (q := (64, [])) (mr := zm_m181) rfl rfl rfl ?_
                          refine zy_n 1 (mr := zm_m181) (pc' := 65) (ls' := [(4, .int 53), (0, .ref 55), (1, .int 2), (2, .int a2), (3, .int a3)]) (st' := [.ref 55]) rfl rfl ?_
                          refine zy_h (mr := zm_m181) rfl rfl (zh_get (v := .ref 58) (zs_neE e269 (zs_neE e268 k267 (by decide)) (by decide)) rfl) ?_
                          refine zy_n 6 (mr := zm_m181) (pc' := 76) (ls' := [(4, .int 53), (0, .ref 55), (1, .int 2), (2, .int a2), (3, .int a3)]) (st' := [.long 0, .int 173, .ref 58]) rfl rfl ?_
                          refine zy_hS (x := _) (mr := zm_m181) rfl rfl (zh_last (zs_eqE e269 (zs_eqE e268 (zs_eqE e266 (zs_eqE e265 k264)))) (by decide)) (fun he270 e270 => ?_)
                          refine zy_n 4 (mr := zm_m181) (pc' := 61) (ls' := [(4, .int 54), (0, .ref 55), (1, .int 2), (2, .int a2), (3, .int a3)]) (st' := [.int 60, .int 54]) rfl rfl ?_
                          refine zy_b (q := (64, [])) (mr := zm_m181) rfl rfl rfl ?_
                          refine zy_n 1 (mr := zm_m181) (pc' := 65) (ls' := [(4, .int 54), (0, .ref 55), (1, .int 2), (2, .int a2), (3, .int a3)]) (st' := [.ref 55]) rfl rfl ?_
                          refine zy_h (mr := zm_m181) rfl rfl (zh_get (v := .ref 58) (zs_neE e270 (zs_neE e269 (zs_neE e268 k267 (by decide)) (by decide)) (by decide)) rfl) ?_
                          refine zy_n 6 (mr := zm_m181) (pc' := 76) (ls' := [(4, .int 54), (0, .ref 55), (1, .int 2), (2, .int a2), (3, .int a3)]) (st' := [.long 0, .int 174, .ref 58]) rfl rfl ?_
                          refine zy_hS (x := _) (mr := zm_m181) rfl rfl (zh_last (zs_eqE e270 (zs_eqE e269 (zs_eqE e268 (zs_eqE e266 (zs_eqE e265 k264))))) (by decide)) (fun he271 e271 => ?_)
                          refine zy_n 4 (mr := zm_m181) (pc' := 61) (ls' := [(4, .int 55), (0, .ref 55), (1, .int 2), (2, .int a2), (3, .int a3)]) (st' := [.int 60, .int 55]) rfl rfl ?_
                          refine zy_b (q := (64, [])) (mr := zm_m181) rfl rfl rfl ?_
                          refine zy_n 1 (mr := zm_m181) (pc' := 65) (ls' := [(4, .int 55), (0, .ref 55), (1, .int 2), (2, .int a2), (3, .int a3)]) (st' := [.ref 55]) rfl rfl ?_
                          have k272 := (zs_neE e271 (zs_neE e270 (zs_neE e269 (zs_neE e268 k267 (by decide)) (by decide)) (by decide)) (by decide))
                          refine zy_h (mr := zm_m181) rfl rfl (zh_get (v := .ref 58) k272 rfl) ?_
                          refine zy_n 6 (mr := zm_m181) (pc' := 76) (ls' := [(4, .int 55), (0, .ref 55), (1, .int 2), (2, .int a2), (3, .int a3)]) (st' := [.long 0, .int 175, .ref 58]) rfl rfl ?_
                          refine zy_hS (x := _) (mr := zm_m181) rfl rfl (zh_last (zs_eqE e271 (zs_eqE e270 (zs_eqE e269 (zs_eqE e268 (zs_eqE e266 (zs_eqE e265 k264)))))) (by decide)) (fun he273 e273 => ?_)
                          refine zy_n 4 (mr := zm_m181) (pc' := 61) (ls' := [(4, .int 56), (0, .ref 55), (1, .int 2), (2, .int a2), (3, .int a3)]) (st' := [.int 60, .int 56]) rfl rfl ?_
                          refine zy_b (q := (64, [])) (mr := zm_m181) rfl rfl rfl ?_
                          refine zy_n 1 (mr := zm_m181) (pc' := 65) (ls' := [(4, .int 56), (0, .ref 55), (1, .int 2), (2, .int a2), (3, .int a3)]) (st' := [.ref 55]) rfl rfl ?_
                          refine zy_h (mr := zm_m181) rfl rfl (zh_get (v := .ref 58) (zs_neE e273 k272 (by decide)) rfl) ?_
                          refine zy_n 6 (mr := zm_m181) (pc' := 76) (ls' := [(4, .int 56), (0, .ref 55), (1, .int 2), (2, .int a2), (3, .int a3)]) (st' := [.long 0, .int 176, .ref 58]) rfl rfl ?_
                          have k274 := (zs_eqE e273 (zs_eqE e271 (zs_eqE e270 (zs_eqE e269 (zs_eqE e268 (zs_eqE e266 (zs_eqE e265 k264)))))))
                          refine zy_hS (x := _) (mr := zm_m181) rfl rfl (zh_last k274 (by decide)) (fun he275 e275 => ?_)
                          refine zy_n 4 (mr := zm_m181) (pc' := 61) (ls' := [(4, .int 57), (0, .ref 55), (1, .int 2), (2, .int a2), (3, .int a3)]) (st' := [.int 60, .int 57]) rfl rfl ?_
                          refine zy_b (q := (64, [])) (mr := zm_m181) rfl rfl rfl ?_
                          refine zy_n 1 (mr := zm_m181) (pc' := 65) (ls' := [(4, .int 57), (0, .ref 55), (1, .int 2), (2, .int a2), (3, .int a3)]) (st' := [.ref 55]) rfl rfl ?_
                          as_aux_lemma =>
                            refine zy_h (mr := zm_m181) rfl rfl (zh_get (v := .ref 58) (zs_neE e275 (zs_neE e273 k272 (by decide)) (by decide)) rfl) ?_
                            refine zy_n 6 (mr := zm_m181) (pc' := 76) (ls' := [(4, .int 57), (0, .ref 55), (1, .int 2), (2, .int a2), (3, .int a3)]) (st' := [.long 0, .int 177, .ref 58]) rfl rfl ?_
                            refine zy_hS (x := _) (mr := zm_m181) rfl rfl (zh_last (zs_eqE e275 k274) (by decide)) (fun he276 e276 => ?_)
                            refine zy_n 4 (mr := zm_m181) (pc' := 61) (ls' := [(4, .int 58), (0, .ref 55), (1, .int 2), (2, .int a2), (3, .int a3)]) (st' := [.int 60, .int 58]) rfl rfl ?_
                            refine zy_b (q := (64, [])) (mr := zm_m181) rfl rfl rfl ?_
                            refine zy_n 1 (mr := zm_m181) (pc' := 65) (ls' := [(4, .int 58), (0, .ref 55), (1, .int 2), (2, .int a2), (3, .int a3)]) (st' := [.ref 55]) rfl rfl ?_
                            refine zy_h (mr := zm_m181) rfl rfl (zh_get (v := .ref 58) (zs_neE e276 (zs_neE e275 (zs_neE e273 k272 (by decide)) (by decide)) (by decide)) rfl) ?_
                            refine zy_n 6 (mr := zm_m181) (pc' := 76) (ls' := [(4, .int 58), (0, .ref 55), (1, .int 2), (2, .int a2), (3, .int a3)]) (st' := [.long 0, .int 178, .ref 58]) rfl rfl ?_
                            refine zy_hS (x := _) (mr := zm_m181) rfl rfl (zh_last (zs_eqE e276 (zs_eqE e275 k274)) (by decide)) (fun he277 e277 => ?_)
                            refine zy_n 4 (mr := zm_m181) (pc' := 61) (ls' := [(4, .int 59), (0, .ref 55), (1, .int 2), (2, .int a2), (3, .int a3)]) (st' := [.int 60, .int 59]) rfl rfl ?_
                            refine zy_b (q := (64, [])) (mr := zm_m181) rfl rfl rfl ?_
                            refine zy_n 1 (mr := zm_m181) (pc' := 65) (ls' := [(4, .int 59), (0, .ref 55), (1, .int 2), (2, .int a2), (3, .int a3)]) (st' := [.ref 55]) rfl rfl ?_
                            have k278 := (zs_neE e277 (zs_neE e276 (zs_neE e275 (zs_neE e273 k272 (by decide)) (by decide)) (by decide)) (by decide))
                            refine zy_h (mr := zm_m181) rfl rfl (zh_get (v := .ref 58) k278 rfl) ?_
                            refine zy_n 6 (mr := zm_m181) (pc' := 76) (ls' := [(4, .int 59), (0, .ref 55), (1, .int 2), (2, .int a2), (3, .int a3)]) (st' := [.long 0, .int 179, .ref 58]) rfl rfl ?_
                            refine zy_hS (x := _) (mr := zm_m181) rfl rfl (zh_last (zs_eqE e277 (zs_eqE e276 (zs_eqE e275 k274))) (by decide)) (fun he279 e279 => ?_)
                            refine zy_n 4 (mr := zm_m181) (pc' := 61) (ls' := [(4, .int 60), (0, .ref 55), (1, .int 2), (2, .int a2), (3, .int a3)]) (st' := [.int 60, .int 60]) rfl rfl ?_
                            refine zy_b (q := (83, [])) (mr := zm_m181) rfl rfl rfl ?_
                            refine zy_n 1 (mr := zm_m181) (pc' := 84) (ls' := [(4, .int 60), (0, .ref 55), (1, .int 2), (2, .int a2), (3, .int a3)]) (st' := [.int 0]) rfl rfl ?_
                            refine zy_r (mr := zm_m181) rfl rfl rfl ?_
                            refine ⟨⟨_, rfl, ?_⟩, Nat.le_trans (zs_lleE e279 (zs_lleE e277 (zs_lleE e276 (zs_lleE e275 (zs_lleE e273 (zs_lleE e271 (zs_lleE e270 (zs_lleE e269 (zs_lleE e268 (zs_lleE e266 (zs_lleE e265 (zs_lleE e263 (zs_lleE e262 (zs_lleE e260 (zs_lleE e259 (zs_lleE e258 (zs_lleE e257 (zs_lleE e255 (zs_lleE e253 (zs_lleE e252 (zs_lleE e251 (zs_lleE e249 (zs_lleE e248 (zs_lleE e247 (zs_lleE e246 (zs_lleE e243 (zs_lleE e242 (zs_lleE e241 (zs_lleE e240 (zs_lleE e238 (zs_lleE e237 (zs_lleE e236 (zs_lleE e234 (zs_lleE e232 (zs_lleE e231 (zs_lleE e230 (zs_lleE e229 (zs_lleE e227 (zs_lleE e226 (zs_lleE e224 (zs_lleE e223 (zs_lleE e221 (zs_lleE e220 (zs_lleE e219 (zs_lleE e218 (zs_lleE e216 (zs_lleE e214 (zs_lleE e213 (zs_lleE e212 (zs_lleE e210 (zs_lleE e209 (zs_lleE e208 (zs_lleE e207 (zs_lleE e204 (zs_lleE e203 (zs_lleE e202 (zs_lleE e201 (zs_lleE e199 (zs_lleE e198 (zs_lleE e197 (zs_lleE e195 (zs_lleE e192 (zs_lleE e187 KL))))))))))))))))))))))))))))))))))))))))))))))))))))))))))))))) (by decide), Nat.le_trans (zs_szleE (w := 240) e279 (zs_eqE e277 (zs_eqE e276 (zs_eqE e275 k274))) rfl rfl (zs_szleE (w := 240) e277 (zs_eqE e276 (zs_eqE e275 k274)) rfl rfl (zs_szleE (w := 240) e276 (zs_eqE e275 k274) rfl rfl (zs_szleE (w := 240) e275 k274 rfl rfl (zs_szleE (w := 240) e273 (zs_eqE e271 (zs_eqE e270 (zs_eqE e269 (zs_eqE e268 (zs_eqE e266 (zs_eqE e265 k264)))))) rfl rfl (zs_szleE (w := 240) e271 (zs_eqE e270 (zs_eqE e269 (zs_eqE e268 (zs_eqE e266 (zs_eqE e265 k264))))) rfl rfl (zs_szleE (w := 240) e270 (zs_eqE e269 (zs_eqE e268 (zs_eqE e266 (zs_eqE e265 k264)))) rfl rfl (zs_szleE (w := 240) e269 (zs_eqE e268 (zs_eqE e266 (zs_eqE e265 k264))) rfl rfl (zs_szleE (w := 240) e268 (zs_eqE e266 (zs_eqE e265 k264)) rfl rfl (zs_szleE (w := 240) e266 (zs_eqE e265 k264) rfl rfl (zs_szleE (w := 240) e265 k264 rfl rfl (zs_szleE (w := 240) e263 (zs_eqE e262 (zs_eqE e260 (zs_eqE e259 (zs_eqE e258 (zs_eqE e257 (zs_eqE e255 k254)))))) rfl rfl (zs_szleE (w := 240) e262 (zs_eqE e260 (zs_eqE e259 (zs_eqE e258 (zs_eqE e257 (zs_eqE e255 k254))))) rfl rfl (zs_szleE (w := 240) e260 (zs_eqE e259 (zs_eqE e258 (zs_eqE e257 (zs_eqE e255 k254)))) rfl rfl (zs_szleE (w := 240) e259 (zs_eqE e258 (zs_eqE e257 (zs_eqE e255 k254))) rfl rfl (zs_szleE (w := 240) e258 (zs_eqE e257 (zs_eqE e255 k254)) rfl rfl (zs_szleE (w := 240) e257 (zs_eqE e255 k254) rfl rfl (zs_szleE (w := 240) e255 k254 rfl rfl (zs_szleE (w := 240) e253 (zs_eqE e252 (zs_eqE e251 (zs_eqE e249 (zs_eqE e248 (zs_eqE e247 (zs_eqE e246 k245)))))) rfl rfl (zs_szleE (w := 240) e252 (zs_eqE e251 (zs_eqE e249 (zs_eqE e248 (zs_eqE e247 (zs_eqE e246 k245))))) rfl rfl (zs_szleE (w := 240) e251 (zs_eqE e249 (zs_eqE e248 (zs_eqE e247 (zs_eqE e246 k245)))) rfl rfl (zs_szleE (w := 240) e249 (zs_eqE e248 (zs_eqE e247 (zs_eqE e246 k245))) rfl rfl (zs_szleE (w := 240) e248 (zs_eqE e247 (zs_eqE e246 k245)) rfl rfl (zs_szleE (w := 240) e247 (zs_eqE e246 k245) rfl rfl (zs_szleE (w := 240) e246 k245 rfl rfl (zs_szleE (w := 240) e243 (zs_eqE e242 (zs_eqE e241 (zs_eqE e240 (zs_eqE e238 (zs_eqE e237 (zs_eqE e236 k235)))))) rfl rfl (zs_szleE (w := 240) e242 (zs_eqE e241 (zs_eqE e240 (zs_eqE e238 (zs_eqE e237 (zs_eqE e236 k235))))) rfl rfl (zs_szleE (w := 240) e241 (zs_eqE e240 (zs_eqE e238 (zs_eqE e237 (zs_eqE e236 k235)))) rfl rfl (zs_szleE (w := 240) e240 (zs_eqE e238 (zs_eqE e237 (zs_eqE e236 k235))) rfl rfl (zs_szleE (w := 240) e238 (zs_eqE e237 (zs_eqE e236 k235)) rfl rfl (zs_szleE (w := 240) e237 (zs_eqE e236 k235) rfl rfl (zs_szleE (w := 240) e236 k235 rfl rfl (zs_szleE (w := 240) e234 (zs_eqE e232 (zs_eqE e231 (zs_eqE e230 (zs_eqE e229 (zs_eqE e227 (zs_eqE e226 k225)))))) rfl rfl (zs_szleE (w := 240) e232 (zs_eqE e231 (zs_eqE e230 (zs_eqE e229 (zs_eqE e227 (zs_eqE e226 k225))))) rfl rfl (zs_szleE (w := 240) e231 (zs_eqE e230 (zs_eqE e229 (zs_eqE e227 (zs_eqE e226 k225)))) rfl rfl (zs_szleE (w := 240) e230 (zs_eqE e229 (zs_eqE e227 (zs_eqE e226 k225))) rfl rfl (zs_szleE (w := 240) e229 (zs_eqE e227 (zs_eqE e226 k225)) rfl rfl (zs_szleE (w := 240) e227 (zs_eqE e226 k225) rfl rfl (zs_szleE (w := 240) e226 k225 rfl rfl (zs_szleE (w := 240) e224 (zs_eqE e223 (zs_eqE e221 (zs_eqE e220 (zs_eqE e219 (zs_eqE e218 (zs_eqE e216 k215)))))) rfl rfl (zs_szleE (w := 240) e223 (zs_eqE e221 (zs_eqE e220 (zs_eqE e219 (zs_eqE e218 (zs_eqE e216 k215))))) rfl rfl (zs_szleE (w := 240) e221 (zs_eqE e220 (zs_eqE e219 (zs_eqE e218 (zs_eqE e216 k215)))) rfl rfl (zs_szleE (w := 240) e220 (zs_eqE e219 (zs_eqE e218 (zs_eqE e216 k215))) rfl rfl (zs_szleE (w := 240) e219 (zs_eqE e218 (zs_eqE e216 k215)) rfl rfl (zs_szleE (w := 240) e218 (zs_eqE e216 k215) rfl rfl (zs_szleE (w := 240) e216 k215 rfl rfl (zs_szleE (w := 240) e214 (zs_eqE e213 (zs_eqE e212 (zs_eqE e210 (zs_eqE e209 (zs_eqE e208 (zs_eqE e207 k206)))))) rfl rfl (zs_szleE (w := 240) e213 (zs_eqE e212 (zs_eqE e210 (zs_eqE e209 (zs_eqE e208 (zs_eqE e207 k206))))) rfl rfl (zs_szleE (w := 240) e212 (zs_eqE e210 (zs_eqE e209 (zs_eqE e208 (zs_eqE e207 k206)))) rfl rfl (zs_szleE (w := 240) e210 (zs_eqE e209 (zs_eqE e208 (zs_eqE e207 k206))) rfl rfl (zs_szleE (w := 240) e209 (zs_eqE e208 (zs_eqE e207 k206)) rfl rfl (zs_szleE (w := 240) e208 (zs_eqE e207 k206) rfl rfl (zs_szleE (w := 240) e207 k206 rfl rfl (zs_szleE (w := 240) e204 (zs_eqE e203 (zs_eqE e202 (zs_eqE e201 (zs_eqE e199 (zs_eqE e198 (zs_eqE e197 k196)))))) rfl rfl (zs_szleE (w := 240) e203 (zs_eqE e202 (zs_eqE e201 (zs_eqE e199 (zs_eqE e198 (zs_eqE e197 k196))))) rfl rfl (zs_szleE (w := 240) e202 (zs_eqE e201 (zs_eqE e199 (zs_eqE e198 (zs_eqE e197 k196)))) rfl rfl (zs_szleE (w := 240) e201 (zs_eqE e199 (zs_eqE e198 (zs_eqE e197 k196))) rfl rfl (zs_szleE (w := 240) e199 (zs_eqE e198 (zs_eqE e197 k196)) rfl rfl (zs_szleE (w := 240) e198 (zs_eqE e197 k196) rfl rfl (zs_szleE (w := 240) e197 k196 rfl rfl (zs_szleE (w := 4) e195 k194 rfl rfl (zs_szleE (w := 4) e192 (zs_neE e187 ((K 56 (by decide) (by decide)).trans (zp_i F 34 rfl)) (by decide)) rfl rfl (zs_szleE (w := 109) e187 ((K 55 (by decide) (by decide)).trans (zp_o F 10 rfl)) rfl rfl KS))))))))))))))))))))))))))))))))))))))))))))))))))))))))))))))) (by decide)⟩
                            first | (simp [zf_42, hz, hc189, hc190, hc191]; done) | (simp [zf_42, hz, hc189, hc190, hc191]; unfold zw; decide)
          · skip
            refine zy_n 1 (mr := zm_m181) (pc' := 39) (ls' := [(0, .ref 55), (1, .int 2), (2, .int a2), (3, .int a3)]) (st' := [.int (-3)]) rfl rfl ?_
            refine zy_r (mr := zm_m181) rfl rfl rfl ?_
            refine ⟨⟨_, rfl, ?_⟩, Nat.le_trans (zs_lleE e187 KL) (by decide), Nat.le_trans (zs_szleE (w := 109) e187 ((K 55 (by decide) (by decide)).trans (zp_o F 10 rfl)) rfl rfl KS) (by decide)⟩
            first | (simp [zf_42, hz, hc189, hc190, hc191]; done) | (simp [zf_42, hz, hc189, hc190, hc191]; unfold zw; decide)
        · skip
          refine zy_n 1 (mr := zm_m181) (pc' := 32) (ls' := [(0, .ref 55), (1, .int 2), (2, .int a2), (3, .int a3)]) (st' := [.int (-2)]) rfl rfl ?_
          refine zy_r (mr := zm_m181) rfl rfl rfl ?_
          refine ⟨⟨_, rfl, ?_⟩, Nat.le_trans (zs_lleE e187 KL) (by decide), Nat.le_trans (zs_szleE (w := 109) e187 ((K 55 (by decide) (by decide)).trans (zp_o F 10 rfl)) rfl rfl KS) (by decide)⟩
          first | (simp [zf_42, hz, hc189, hc190]; done) | (simp [zf_42, hz, hc189, hc190]; unfold zw; decide)
      · skip
        refine zy_b (q := (30, [])) (mr := zm_m181) rfl rfl rfl ?_
        refine zy_n 1 (mr := zm_m181) (pc' := 32) (ls' := [(0, .ref 55), (1, .int 2), (2, .int a2), (3, .int a3)]) (st' := [.int (-2)]) rfl rfl ?_
        refine zy_r (mr := zm_m181) rfl rfl rfl ?_
        refine ⟨⟨_, rfl, ?_⟩, Nat.le_trans (zs_lleE e187 KL) (by decide), Nat.le_trans (zs_szleE (w := 109) e187 ((K 55 (by decide) (by decide)).trans (zp_o F 10 rfl)) rfl rfl KS) (by decide)⟩
        first | (simp [zf_42, hz, hc189]; done) | (simp [zf_42, hz, hc189]; unfold zw; decide)
    · skip
      refine zy_n 2 (mr := zm_m181) (pc' := 2) (ls' := [(0, .ref 55), (1, .int 3), (2, .int a2), (3, .int a3)]) (st' := [.int 0, .ref 55]) rfl rfl ?_
      refine zy_hS (x := .inr (11, [.int 0, .ref 56, .ref 57, .ref 58, .ref 59, .int 0, .int 0, .int 0, .int 0, .int 0, .int 0, .int 20, .int 30, .int 5, .int 2, .ref 60, .ref 61, .ref 62, .ref 63, .ref 64, .ref 65, .ref 66, .ref 67, .ref 68, .ref 69, .ref 70, .ref 71, .ref 72, .ref 73, .ref 74, .ref 75, .ref 76, .ref 77, .ref 78, .ref 79, .ref 80, .ref 81, .ref 82, .ref 83, .ref 84, .ref 85, .ref 86, .ref 87, .ref 88, .ref 89, .ref 90, .ref 91, .ref 92, .ref 93, .ref 94, .int 0, .int (-1), .ref 95, .ref 96, .ref 97, .ref 98, .int 0, .int 0, .int 0, .int 0, .int 0, .int 0, .int 0, .int 0, .int 0, .int 0, .int 0, .int 0, .int 0, .long 0, .int 0, .int 0, .int 0, .long 0, .long 0, .long 0, .long 0, .int 0, .int 0, .int 0, .int 0, .ref 99, .int 0, .int 0, .int 0, .ref 100, .ref 101, .ref 102, .ref 103, .ref 104, .ref 105, .ref 106, .ref 107, .ref 108, .ref 109, .ref 110, .ref 111, .ref 112, .ref 113, .ref 114, .int 0, .int 0, .int 0, .long 0, .long 0, .int 0, .ref 115, .ref 116, .int 0])) (mr := zm_m181) rfl rfl (zh_put ((K 55 (by decide) (by decide)).trans (zp_o F 10 rfl)) rfl rfl) (fun he280 e280 => ?_)
      refine zy_n 1 (mr := zm_m181) (pc' := 6) (ls' := [(0, .ref 55), (1, .int 3), (2, .int a2), (3, .int a3)]) (st' := [.int 3]) rfl rfl ?_
      refine zy_c (mc := zm_m182) (mr := zm_m181) rfl rfl rfl rfl rfl ?_
      refine zy_n 4 (mr := zm_m182) (pc' := 6) (ls' := [(0, .int 3)]) (st' := [.long 3, .long 0, .long 3]) rfl rfl ?_
      refine zy_c (mc := zm_m183) (mr := zm_m182) rfl rfl rfl rfl rfl (zm_Y.mono (zk_in 3 0 3 (by decide) (by decide) (by decide)) ?_)
      rintro r h1 ⟨rfl, ⟨rfl, hc281⟩ | ⟨rfl, hc281⟩⟩
      rotate_left
      · exact absurd hz hc281
      refine zy_r (mr := zm_m182) rfl rfl rfl ?_
      refine zy_b (q := (12, [])) (mr := zm_m181) rfl rfl rfl ?_
      refine zy_n 4 (mr := zm_m181) (pc' := 18) (ls' := [(0, .ref 55), (1, .int 3), (2, .int a2), (3, .int a3)]) (st' := [.long 3, .long 0, .long a2.toInt64]) rfl rfl ?_
      as_aux_lemma =>
        refine zy_c (mc := zm_m183) (mr := zm_m181) rfl rfl rfl rfl rfl (zm_Y.mono (zk_in a2 0 3 rfl (by decide) (by decide)) ?_)
        rintro r h1 ⟨rfl, ⟨rfl, hc282⟩ | ⟨rfl, hc282⟩⟩
        · skip
          refine zy_b (q := (24, [])) (mr := zm_m181) rfl rfl rfl ?_
          refine zy_n 2 (mr := zm_m181) (pc' := 27) (ls' := [(0, .ref 55), (1, .int 3), (2, .int a2), (3, .int a3)]) (st' := [.int 60, .int a3]) rfl rfl ?_
          refine zy_b (mr := zm_m181) rfl rfl rfl (zc_le (fun hc283 => ?_) (fun hc283 => ?_))
          · skip
            refine zy_n 1 (mr := zm_m181) (pc' := 34) (ls' := [(0, .ref 55), (1, .int 3), (2, .int a2), (3, .int a3)]) (st' := [.int a3]) rfl rfl ?_
            refine zy_b (mr := zm_m181) rfl rfl rfl (zi_ge (fun hc284 => ?_) (fun hc284 => ?_))
            · skip
              refine zy_n 1 (mr := zm_m181) (pc' := 41) (ls' := [(0, .ref 55), (1, .int 3), (2, .int a2), (3, .int a3)]) (st' := [.ref 55]) rfl rfl ?_
              refine zy_h (mr := zm_m181) rfl rfl (zh_get (v := .ref 56) (zs_eqE e280 ((K 55 (by decide) (by decide)).trans (zp_o F 10 rfl))) rfl) ?_
              refine zy_n 2 (mr := zm_m181) (pc' := 46) (ls' := [(0, .ref 55), (1, .int 3), (2, .int a2), (3, .int a3)]) (st' := [.int a2, .int 3, .ref 56]) rfl rfl ?_
              refine zy_hS (x := _) (mr := zm_m181) rfl rfl (zh_iast (zs_neE e280 ((K 56 (by decide) (by decide)).trans (zp_i F 34 rfl)) (by decide)) (by decide)) (fun he285 e285 => ?_)
              refine zy_n 1 (mr := zm_m181) (pc' := 48) (ls' := [(0, .ref 55), (1, .int 3), (2, .int a2), (3, .int a3)]) (st' := [.ref 55]) rfl rfl ?_
              have k286 := (zs_neE e285 (zs_eqE e280 ((K 55 (by decide) (by decide)).trans (zp_o F 10 rfl))) (by decide))
              refine zy_h (mr := zm_m181) rfl rfl (zh_get (v := .ref 57) k286 rfl) ?_
              refine zy_n 2 (mr := zm_m181) (pc' := 53) (ls' := [(0, .ref 55), (1, .int 3), (2, .int a2), (3, .int a3)]) (st' := [.int a3, .int 3, .ref 57]) rfl rfl ?_
              have k287 := (zs_neE e285 (zs_neE e280 ((K 57 (by decide) (by decide)).trans (zp_i F 35 rfl)) (by decide)) (by decide))
              refine zy_hS (x := _) (mr := zm_m181) rfl rfl (zh_iast k287 (by decide)) (fun he288 e288 => ?_)
              refine zy_n 4 (mr := zm_m181) (pc' := 61) (ls' := [(4, .int 0), (0, .ref 55), (1, .int 3), (2, .int a2), (3, .int a3)]) (st' := [.int 60, .int 0]) rfl rfl ?_
              refine zy_b (q := (64, [])) (mr := zm_m181) rfl rfl rfl ?_
              refine zy_n 1 (mr := zm_m181) (pc' := 65) (ls' := [(4, .int 0), (0, .ref 55), (1, .int 3), (2, .int a2), (3, .int a3)]) (st' := [.ref 55]) rfl rfl ?_
              refine zy_h (mr := zm_m181) rfl rfl (zh_get (v := .ref 58) (zs_neE e288 k286 (by decide)) rfl) ?_
              refine zy_n 6 (mr := zm_m181) (pc' := 76) (ls' := [(4, .int 0), (0, .ref 55), (1, .int 3), (2, .int a2), (3, .int a3)]) (st' := [.long 0, .int 180, .ref 58]) rfl rfl ?_
              have k289 := (zs_neE e288 (zs_neE e285 (zs_neE e280 ((K 58 (by decide) (by decide)).trans (zp_l F 8 rfl)) (by decide)) (by decide)) (by decide))
              refine zy_hS (x := _) (mr := zm_m181) rfl rfl (zh_last k289 (by decide)) (fun he290 e290 => ?_)
              refine zy_n 4 (mr := zm_m181) (pc' := 61) (ls' := [(4, .int 1), (0, .ref 55), (1, .int 3), (2, .int a2), (3, .int a3)]) (st' := [.int 60, .int 1]) rfl rfl ?_
              refine zy_b (q := (64, [])) (mr := zm_m181) rfl rfl rfl ?_
              refine zy_n 1 (mr := zm_m181) (pc' := 65) (ls' := [(4, .int 1), (0, .ref 55), (1, .int 3), (2, .int a2), (3, .int a3)]) (st' := [.ref 55]) rfl rfl ?_
              refine zy_h (mr := zm_m181) rfl rfl (zh_get (v := .ref 58) (zs_neE e290 (zs_neE e288 k286 (by decide)) (by decide)) rfl) ?_
              refine zy_n 6 (mr := zm_m181) (pc' := 76) (ls' := [(4, .int 1), (0, .ref 55), (1, .int 3), (2, .int a2), (3, .int a3)]) (st' := [.long 0, .int 181, .ref 58]) rfl rfl ?_
              refine zy_hS (x := _) (mr := zm_m181) rfl rfl (zh_last (zs_eqE e290 k289) (by decide)) (fun he291 e291 => ?_)
              refine zy_n 4 (mr := zm_m181) (pc' := 61) (ls' := [(4, .int 2), (0, .ref 55), (1, .int 3), (2, .int a2), (3, .int a3)]) (st' := [.int 60, .int 2]) rfl rfl ?_
              refine zy_b (q := (64, [])) (mr := zm_m181) rfl rfl rfl ?_
              refine zy_n 1 (mr := zm_m181) (pc' := 65) (ls' := [(4, .int 2), (0, .ref 55), (1, .int 3), (2, .int a2), (3, .int a3)]) (st' := [.ref 55]) rfl rfl ?_
              refine zy_h (mr := zm_m181) rfl rfl (zh_get (v := .ref 58) (zs_neE e291 (zs_neE e290 (zs_neE e288 k286 (by decide)) (by decide)) (by decide)) rfl) ?_
              refine zy_n 6 (mr := zm_m181) (pc' := 76) (ls' := [(4, .int 2), (0, .ref 55), (1, .int 3), (2, .int a2), (3, .int a3)]) (st' := [.long 0, .int 182, .ref 58]) rfl rfl ?_
              refine zy_hS (x := _) (mr := zm_m181) rfl rfl (zh_last (zs_eqE e291 (zs_eqE e290 k289)) (by decide)) (fun he292 e292 => ?_)
              refine zy_n 4 (mr := zm_m181) (pc' := 61) (ls' := [(4, .int 3), (0, .ref 55), (1, .int 3), (2, .int a2), (3, .int a3)]) (st' := [.int 60, .int 3]) rfl rfl ?_
              refine zy_b (q := (64, [])) (mr := zm_m181) rfl rfl rfl ?_
              refine zy_n 1 (mr := zm_m181) (pc' := 65) (ls' := [(4, .int 3), (0, .ref 55), (1, .int 3), (2, .int a2), (3, .int a3)]) (st' := [.ref 55]) rfl rfl ?_
              have k293 := (zs_neE e292 (zs_neE e291 (zs_neE e290 (zs_neE e288 k286 (by decide)) (by decide)) (by decide)) (by decide))
              refine zy_h (mr := zm_m181) rfl rfl (zh_get (v := .ref 58) k293 rfl) ?_
              refine zy_n 6 (mr := zm_m181) (pc' := 76) (ls' := [(4, .int 3), (0, .ref 55), (1, .int 3), (2, .int a2), (3, .int a3)]) (st' := [.long 0, .int 183, .ref 58]) rfl rfl ?_
              refine zy_hS (x := _) (mr := zm_m181) rfl rfl (zh_last (zs_eqE e292 (zs_eqE e291 (zs_eqE e290 k289))) (by decide)) (fun he294 e294 => ?_)
              refine zy_n 4 (mr := zm_m181) (pc' := 61) (ls' := [(4, .int 4), (0, .ref 55), (1, .int 3), (2, .int a2), (3, .int a3)]) (st' := [.int 60, .int 4]) rfl rfl ?_
              refine zy_b (q := (64, [])) (mr := zm_m181) rfl rfl rfl ?_
              refine zy_n 1 (mr := zm_m181) (pc' := 65) (ls' := [(4, .int 4), (0, .ref 55), (1, .int 3), (2, .int a2), (3, .int a3)]) (st' := [.ref 55]) rfl rfl ?_
              refine zy_h (mr := zm_m181) rfl rfl (zh_get (v := .ref 58) (zs_neE e294 k293 (by decide)) rfl) ?_
              refine zy_n 6 (mr := zm_m181) (pc' := 76) (ls' := [(4, .int 4), (0, .ref 55), (1, .int 3), (2, .int a2), (3, .int a3)]) (st' := [.long 0, .int 184, .ref 58]) rfl rfl ?_
              as_aux_lemma =>
                refine zy_hS (x := _) (mr := zm_m181) rfl rfl (zh_last (zs_eqE e294 (zs_eqE e292 (zs_eqE e291 (zs_eqE e290 k289)))) (by decide)) (fun he295 e295 => ?_)
                refine zy_n 4 (mr := zm_m181) (pc' := 61) (ls' := [(4, .int 5), (0, .ref 55), (1, .int 3), (2, .int a2), (3, .int a3)]) (st' := [.int 60, .int 5]) rfl rfl ?_
                refine zy_b (q := (64, [])) (mr := zm_m181) rfl rfl rfl ?_
                refine zy_n 1 (mr := zm_m181) (pc' := 65) (ls' := [(4, .int 5), (0, .ref 55), (1, .int 3), (2, .int a2), (3, .int a3)]) (st' := [.ref 55]) rfl rfl ?_
                refine zy_h (mr := zm_m181) rfl rfl (zh_get (v := .ref 58) (zs_neE e295 (zs_neE e294 k293 (by decide)) (by decide)) rfl) ?_
                refine zy_n 6 (mr := zm_m181) (pc' := 76) (ls' := [(4, .int 5), (0, .ref 55), (1, .int 3), (2, .int a2), (3, .int a3)]) (st' := [.long 0, .int 185, .ref 58]) rfl rfl ?_
                refine zy_hS (x := _) (mr := zm_m181) rfl rfl (zh_last (zs_eqE e295 (zs_eqE e294 (zs_eqE e292 (zs_eqE e291 (zs_eqE e290 k289))))) (by decide)) (fun he296 e296 => ?_)
                refine zy_n 4 (mr := zm_m181) (pc' := 61) (ls' := [(4, .int 6), (0, .ref 55), (1, .int 3), (2, .int a2), (3, .int a3)]) (st' := [.int 60, .int 6]) rfl rfl ?_
                refine zy_b (q := (64, [])) (mr := zm_m181) rfl rfl rfl ?_
                refine zy_n 1 (mr := zm_m181) (pc' := 65) (ls' := [(4, .int 6), (0, .ref 55), (1, .int 3), (2, .int a2), (3, .int a3)]) (st' := [.ref 55]) rfl rfl ?_
                refine zy_h (mr := zm_m181) rfl rfl (zh_get (v := .ref 58) (zs_neE e296 (zs_neE e295 (zs_neE e294 k293 (by decide)) (by decide)) (by decide)) rfl) ?_
                refine zy_n 6 (mr := zm_m181) (pc' := 76) (ls' := [(4, .int 6), (0, .ref 55), (1, .int 3), (2, .int a2), (3, .int a3)]) (st' := [.long 0, .int 186, .ref 58]) rfl rfl ?_
                refine zy_hS (x := _) (mr := zm_m181) rfl rfl (zh_last (zs_eqE e296 (zs_eqE e295 (zs_eqE e294 (zs_eqE e292 (zs_eqE e291 (zs_eqE e290 k289)))))) (by decide)) (fun he297 e297 => ?_)
                refine zy_n 4 (mr := zm_m181) (pc' := 61) (ls' := [(4, .int 7), (0, .ref 55), (1, .int 3), (2, .int a2), (3, .int a3)]) (st' := [.int 60, .int 7]) rfl rfl ?_
                refine zy_b (q := (64, [])) (mr := zm_m181) rfl rfl rfl ?_
                refine zy_n 1 (mr := zm_m181) (pc' := 65) (ls' := [(4, .int 7), (0, .ref 55), (1, .int 3), (2, .int a2), (3, .int a3)]) (st' := [.ref 55]) rfl rfl ?_
                have k298 := (zs_neE e297 (zs_neE e296 (zs_neE e295 (zs_neE e294 k293 (by decide)) (by decide)) (by decide)) (by decide))
                refine zy_h (mr := zm_m181) rfl rfl (zh_get (v := .ref 58) k298 rfl) ?_
                refine zy_n 6 (mr := zm_m181) (pc' := 76) (ls' := [(4, .int 7), (0, .ref 55), (1, .int 3), (2, .int a2), (3, .int a3)]) (st' := [.long 0, .int 187, .ref 58]) rfl rfl ?_
                have k299 := (zs_eqE e297 (zs_eqE e296 (zs_eqE e295 (zs_eqE e294 (zs_eqE e292 (zs_eqE e291 (zs_eqE e290 k289)))))))
                refine zy_hS (x := _) (mr := zm_m181) rfl rfl (zh_last k299 (by decide)) (fun he300 e300 => ?_)
                refine zy_n 4 (mr := zm_m181) (pc' := 61) (ls' := [(4, .int 8), (0, .ref 55), (1, .int 3), (2, .int a2), (3, .int a3)]) (st' := [.int 60, .int 8]) rfl rfl ?_
                refine zy_b (q := (64, [])) (mr := zm_m181) rfl rfl rfl ?_
                refine zy_n 1 (mr := zm_m181) (pc' := 65) (ls' := [(4, .int 8), (0, .ref 55), (1, .int 3), (2, .int a2), (3, .int a3)]) (st' := [.ref 55]) rfl rfl ?_
                refine zy_h (mr := zm_m181) rfl rfl (zh_get (v := .ref 58) (zs_neE e300 k298 (by decide)) rfl) ?_
                refine zy_n 6 (mr := zm_m181) (pc' := 76) (ls' := [(4, .int 8), (0, .ref 55), (1, .int 3), (2, .int a2), (3, .int a3)]) (st' := [.long 0, .int 188, .ref 58]) rfl rfl ?_
                refine zy_hS (x := _) (mr := zm_m181) rfl rfl (zh_last (zs_eqE e300 k299) (by decide)) (fun he301 e301 => ?_)
                refine zy_n 4 (mr := zm_m181) (pc' := 61) (ls' := [(4, .int 9), (0, .ref 55), (1, .int 3), (2, .int a2), (3, .int a3)]) (st' := [.int 60, .int 9]) rfl rfl ?_
                refine zy_b (q := (64, [])) (mr := zm_m181) rfl rfl rfl ?_
                refine zy_n 1 (mr := zm_m181) (pc' := 65) (ls' := [(4, .int 9), (0, .ref 55), (1, .int 3), (2, .int a2), (3, .int a3)]) (st' := [.ref 55]) rfl rfl ?_
                refine zy_h (mr := zm_m181) rfl rfl (zh_get (v := .ref 58) (zs_neE e301 (zs_neE e300 k298 (by decide)) (by decide)) rfl) ?_
                refine zy_n 6 (mr := zm_m181) (pc' := 76) (ls' := [(4, .int 9), (0, .ref 55), (1, .int 3), (2, .int a2), (3, .int a3)]) (st' := [.long 0, .int 189, .ref 58]) rfl rfl ?_
                refine zy_hS (x := _) (mr := zm_m181) rfl rfl (zh_last (zs_eqE e301 (zs_eqE e300 k299)) (by decide)) (fun he302 e302 => ?_)
                refine zy_n 4 (mr := zm_m181) (pc' := 61) (ls' := [(4, .int 10), (0, .ref 55), (1, .int 3), (2, .int a2), (3, .int a3)]) (st' := [.int 60, .int 10]) rfl rfl ?_
                refine zy_b (q := (64, [])) (mr := zm_m181) rfl rfl rfl ?_
                refine zy_n 1 (mr := zm_m181) (pc' := 65) (ls' := [(4, .int 10), (0, .ref 55), (1, .int 3), (2, .int a2), (3, .int a3)]) (st' := [.ref 55]) rfl rfl ?_
                refine zy_h (mr := zm_m181) rfl rfl (zh_get (v := .ref 58) (zs_neE e302 (zs_neE e301 (zs_neE e300 k298 (by decide)) (by decide)) (by decide)) rfl) ?_
                refine zy_n 6 (mr := zm_m181) (pc' := 76) (ls' := [(4, .int 10), (0, .ref 55), (1, .int 3), (2, .int a2), (3, .int a3)]) (st' := [.long 0, .int 190, .ref 58]) rfl rfl ?_
                refine zy_hS (x := _) (mr := zm_m181) rfl rfl (zh_last (zs_eqE e302 (zs_eqE e301 (zs_eqE e300 k299))) (by decide)) (fun he303 e303 => ?_)
                refine zy_n 4 (mr := zm_m181) (pc' := 61) (ls' := [(4, .int 11), (0, .ref 55), (1, .int 3), (2, .int a2), (3, .int a3)]) (st' := [.int 60, .int 11]) rfl rfl ?_
                refine zy_b (q := (64, [])) (mr := zm_m181) rfl rfl rfl ?_
                refine zy_n 1 (mr := zm_m181) (pc' := 65) (ls' := [(4, .int 11), (0, .ref 55), (1, .int 3), (2, .int a2), (3, .int a3)]) (st' := [.ref 55]) rfl rfl ?_
                have k304 := (zs_neE e303 (zs_neE e302 (zs_neE e301 (zs_neE e300 k298 (by decide)) (by decide)) (by decide)) (by decide))
                refine zy_h (mr := zm_m181) rfl rfl (zh_get (v := .ref 58) k304 rfl) ?_
                refine zy_n 6 (mr := zm_m181) (pc' := 76) (ls' := [(4, .int 11), (0, .ref 55), (1, .int 3), (2, .int a2), (3, .int a3)]) (st' := [.long 0, .int 191, .ref 58]) rfl rfl ?_
                refine zy_hS (x := _) (mr := zm_m181) rfl rfl (zh_last (zs_eqE e303 (zs_eqE e302 (zs_eqE e301 (zs_eqE e300 k299)))) (by decide)) (fun he305 e305 => ?_)
                refine zy_n 4 (mr := zm_m181) (pc' := 61) (ls' := [(4, .int 12), (0, .ref 55), (1, .int 3), (2, .int a2), (3, .int a3)]) (st' := [.int 60, .int 12]) rfl rfl ?_
                refine zy_b (q := (64, [])) (mr := zm_m181) rfl rfl rfl ?_
                refine zy_n 1 (mr := zm_m181) (pc' := 65) (ls' := [(4, .int 12), (0, .ref 55), (1, .int 3), (2, .int a2), (3, .int a3)]) (st' := [.ref 55]) rfl rfl ?_
                refine zy_h (mr := zm_m181) rfl rfl (zh_get (v := .ref 58) (zs_neE e305 k304 (by decide)) rfl) ?_
                refine zy_n 6 (mr := zm_m181) (pc' := 76) (ls' := [(4, .int 12), (0, .ref 55), (1, .int 3), (2, .int a2), (3, .int a3)]) (st' := [.long 0, .int 192, .ref 58]) rfl rfl ?_
                as_aux_lemma =>
                  refine zy_hS (x := _) (mr := zm_m181) rfl rfl (zh_last (zs_eqE e305 (zs_eqE e303 (zs_eqE e302 (zs_eqE e301 (zs_eqE e300 k299))))) (by decide)) (fun he306 e306 => ?_)
                  refine zy_n 4 (mr := zm_m181) (pc' := 61) (ls' := [(4, .int 13), (0, .ref 55), (1, .int 3), (2, .int a2), (3, .int a3)]) (st' := [.int 60, .int 13]) rfl rfl ?_
                  refine zy_b (q := (64, [])) (mr := zm_m181) rfl rfl rfl ?_
                  refine zy_n 1 (mr := zm_m181) (pc' := 65) (ls' := [(4, .int 13), (0, .ref 55), (1, .int 3), (2, .int a2), (3, .int a3)]) (st' := [.ref 55]) rfl rfl ?_
                  refine zy_h (mr := zm_m181) rfl rfl (zh_get (v := .ref 58) (zs_neE e306 (zs_neE e305 k304 (by decide)) (by decide)) rfl) ?_
                  refine zy_n 6 (mr := zm_m181) (pc' := 76) (ls' := [(4, .int 13), (0, .ref 55), (1, .int 3), (2, .int a2), (3, .int a3)]) (st' := [.long 0, .int 193, .ref 58]) rfl rfl ?_
                  refine zy_hS (x := _) (mr := zm_m181) rfl rfl (zh_last (zs_eqE e306 (zs_eqE e305 (zs_eqE e303 (zs_eqE e302 (zs_eqE e301 (zs_eqE e300 k299)))))) (by decide)) (fun he307 e307 => ?_)
                  refine zy_n 4 (mr := zm_m181) (pc' := 61) (ls' := [(4, .int 14), (0, .ref 55), (1, .int 3), (2, .int a2), (3, .int a3)]) (st' := [.int 60, .int 14]) rfl rfl ?_
                  refine zy_b (q := (64, [])) (mr := zm_m181) rfl rfl rfl ?_
                  refine zy_n 1 (mr := zm_m181) (pc' := 65) (ls' := [(4, .int 14), (0, .ref 55), (1, .int 3), (2, .int a2), (3, .int a3)]) (st' := [.ref 55]) rfl rfl ?_
                  refine zy_h (mr := zm_m181) rfl rfl (zh_get (v := .ref 58) (zs_neE e307 (zs_neE e306 (zs_neE e305 k304 (by decide)) (by decide)) (by decide)) rfl) ?_
                  refine zy_n 6 (mr := zm_m181) (pc' := 76) (ls' := [(4, .int 14), (0, .ref 55), (1, .int 3), (2, .int a2), (3, .int a3)]) (st' := [.long 0, .int 194, .ref 58]) rfl rfl ?_
                  have k308 := (zs_eqE e307 (zs_eqE e306 (zs_eqE e305 (zs_eqE e303 (zs_eqE e302 (zs_eqE e301 (zs_eqE e300 k299)))))))
                  refine zy_hS (x := _) (mr := zm_m181) rfl rfl (zh_last k308 (by decide)) (fun he309 e309 => ?_)
                  refine zy_n 4 (mr := zm_m181) (pc' := 61) (ls' := [(4, .int 15), (0, .ref 55), (1, .int 3), (2, .int a2), (3, .int a3)]) (st' := [.int 60, .int 15]) rfl rfl ?_
                  refine zy_b (q := (64, [])) (mr := zm_m181) rfl rfl rfl ?_
                  refine zy_n 1 (mr := zm_m181) (pc' := 65) (ls' := [(4, .int 15), (0, .ref 55), (1, .int 3), (2, .int a2), (3, .int a3)]) (st' := [.ref 55]) rfl rfl ?_
                  have k310 := (zs_neE e309 (zs_neE e307 (zs_neE e306 (zs_neE e305 k304 (by decide)) (by decide)) (by decide)) (by decide))
                  refine zy_h (mr := zm_m181) rfl rfl (zh_get (v := .ref 58) k310 rfl) ?_
                  refine zy_n 6 (mr := zm_m181) (pc' := 76) (ls' := [(4, .int 15), (0, .ref 55), (1, .int 3), (2, .int a2), (3, .int a3)]) (st' := [.long 0, .int 195, .ref 58]) rfl rfl ?_
                  refine zy_hS (x := _) (mr := zm_m181) rfl rfl (zh_last (zs_eqE e309 k308) (by decide)) (fun he311 e311 => ?_)
                  refine zy_n 4 (mr := zm_m181) (pc' := 61) (ls' := [(4, .int 16), (0, .ref 55), (1, .int 3), (2, .int a2), (3, .int a3)]) (st' := [.int 60, .int 16]) rfl rfl ?_
                  refine zy_b (q := (64, [])) (mr := zm_m181) rfl rfl rfl ?_
                  refine zy_n 1 (mr := zm_m181) (pc' := 65) (ls' := [(4, .int 16), (0, .ref 55), (1, .int 3), (2, .int a2), (3, .int a3)]) (st' := [.ref 55]) rfl rfl ?_
                  refine zy_h (mr := zm_m181) rfl rfl (zh_get (v := .ref 58) (zs_neE e311 k310 (by decide)) rfl) ?_
                  refine zy_n 6 (mr := zm_m181) (pc' := 76) (ls' := [(4, .int 16), (0, .ref 55), (1, .int 3), (2, .int a2), (3, .int a3)]) (st' := [.long 0, .int 196, .ref 58]) rfl rfl ?_
                  refine zy_hS (x := _) (mr := zm_m181) rfl rfl (zh_last (zs_eqE e311 (zs_eqE e309 k308)) (by decide)) (fun he312 e312 => ?_)
                  refine zy_n 4 (mr := zm_m181) (pc' := 61) (ls' := [(4, .int 17), (0, .ref 55), (1, .int 3), (2, .int a2), (3, .int a3)]) (st' := [.int 60, .int 17]) rfl rfl ?_
                  refine zy_b (q := (64, [])) (mr := zm_m181) rfl rfl rfl ?_
                  refine zy_n 1 (mr := zm_m181) (pc' := 65) (ls' := [(4, .int 17), (0, .ref 55), (1, .int 3), (2, .int a2), (3, .int a3)]) (st' := [.ref 55]) rfl rfl ?_
                  refine zy_h (mr := zm_m181) rfl rfl (zh_get (v := .ref 58) (zs_neE e312 (zs_neE e311 k310 (by decide)) (by decide)) rfl) ?_
                  refine zy_n 6 (mr := zm_m181) (pc' := 76) (ls' := [(4, .int 17), (0, .ref 55), (1, .int 3), (2, .int a2), (3, .int a3)]) (st' := [.long 0, .int 197, .ref 58]) rfl rfl ?_
                  refine zy_hS (x := _) (mr := zm_m181) rfl rfl (zh_last (zs_eqE e312 (zs_eqE e311 (zs_eqE e309 k308))) (by decide)) (fun he313 e313 => ?_)
                  refine zy_n 4 (mr := zm_m181) (pc' := 61) (ls' := [(4, .int 18), (0, .ref 55), (1, .int 3), (2, .int a2), (3, .int a3)]) (st' := [.int 60, .int 18]) rfl rfl ?_
                  refine zy_b (q := (64, [])) (mr := zm_m181) rfl rfl rfl ?_
                  refine zy_n 1 (mr := zm_m181) (pc' := 65) (ls' := [(4, .int 18), (0, .ref 55), (1, .int 3), (2, .int a2), (3, .int a3)]) (st' := [.ref 55]) rfl rfl ?_
                  refine zy_h (mr := zm_m181) rfl rfl (zh_get (v := .ref 58) (zs_neE e313 (zs_neE e312 (zs_neE e311 k310 (by decide)) (by decide)) (by decide)) rfl) ?_
                  refine zy_n 6 (mr := zm_m181) (pc' := 76) (ls' := [(4, .int 18), (0, .ref 55), (1, .int 3), (2, .int a2), (3, .int a3)]) (st' := [.long 0, .int 198, .ref 58]) rfl rfl ?_
                  refine zy_hS (x := _) (mr := zm_m181) rfl rfl (zh_last (zs_eqE e313 (zs_eqE e312 (zs_eqE e311 (zs_eqE e309 k308)))) (by decide)) (fun he314 e314 => ?_)
                  refine zy_n 4 (mr := zm_m181) (pc' := 61) (ls' := [(4, .int 19), (0, .ref 55), (1, .int 3), (2, .int a2), (3, .int a3)]) (st' := [.int 60, .int 19]) rfl rfl ?_
                  refine zy_b (q := (64, [])) (mr := zm_m181) rfl rfl rfl ?_
                  refine zy_n 1 (mr := zm_m181) (pc' := 65) (ls' := [(4, .int 19), (0, .ref 55), (1, .int 3), (2, .int a2), (3, .int a3)]) (st' := [.ref 55]) rfl rfl ?_
                  have k315 := (zs_neE e314 (zs_neE e313 (zs_neE e312 (zs_neE e311 k310 (by decide)) (by decide)) (by decide)) (by decide))
                  refine zy_h (mr := zm_m181) rfl rfl (zh_get (v := .ref 58) k315 rfl) ?_
                  refine zy_n 6 (mr := zm_m181) (pc' := 76) (ls' := [(4, .int 19), (0, .ref 55), (1, .int 3), (2, .int a2), (3, .int a3)]) (st' := [.long 0, .int 199, .ref 58]) rfl rfl ?_
                  refine zy_hS (x := _) (mr := zm_m181) rfl rfl (zh_last (zs_eqE e314 (zs_eqE e313 (zs_eqE e312 (zs_eqE e311 (zs_eqE e309 k308))))) (by decide)) (fun he316 e316 => ?_)
                  refine zy_n 4 (mr := zm_m181) (pc' := 61) (ls' := [(4, .int 20), (0, .ref 55), (1, .int 3), (2, .int a2), (3, .int a3)]) (st' := [.int 60, .int 20]) rfl rfl ?_
                  refine zy_b (q := (64, [])) (mr := zm_m181) rfl rfl rfl ?_
                  refine zy_n 1 (mr := zm_m181) (pc' := 65) (ls' := [(4, .int 20), (0, .ref 55), (1, .int 3), (2, .int a2), (3, .int a3)]) (st' := [.ref 55]) rfl rfl ?_
                  refine zy_h (mr := zm_m181) rfl rfl (zh_get (v := .ref 58) (zs_neE e316 k315 (by decide)) rfl) ?_
                  refine zy_n 6 (mr := zm_m181) (pc' := 76) (ls' := [(4, .int 20), (0, .ref 55), (1, .int 3), (2, .int a2), (3, .int a3)]) (st' := [.long 0, .int 200, .ref 58]) rfl rfl ?_
                  as_aux_lemma =>
                    refine zy_hS (x := _) (mr := zm_m181) rfl rfl (zh_last (zs_eqE e316 (zs_eqE e314 (zs_eqE e313 (zs_eqE e312 (zs_eqE e311 (zs_eqE e309 k308)))))) (by decide)) (fun he317 e317 => ?_)
                    refine zy_n 4 (mr := zm_m181) (pc' := 61) (ls' := [(4, .int 21), (0, .ref 55), (1, .int 3), (2, .int a2), (3, .int a3)]) (st' := [.int 60, .int 21]) rfl rfl ?_
                    refine zy_b (q := (64, [])) (mr := zm_m181) rfl rfl rfl ?_
                    refine zy_n 1 (mr := zm_m181) (pc' := 65) (ls' := [(4, .int 21), (0, .ref 55), (1, .int 3), (2, .int a2), (3, .int a3)]) (st' := [.ref 55]) rfl rfl ?_
                    refine zy_h (mr := zm_m181) rfl rfl (zh_get (v := .ref 58) (zs_neE e317 (zs_neE e316 k315 (by decide)) (by decide)) rfl) ?_
                    refine zy_n 6 (mr := zm_m181) (pc' := 76) (ls' := [(4, .int 21), (0, .ref 55), (1, .int 3), (2, .int a2), (3, .int a3)]) (st' := [.long 0, .int 201, .ref 58]) rfl rfl ?_
                    have k318 := (zs_eqE e317 (zs_eqE e316 (zs_eqE e314 (zs_eqE e313 (zs_eqE e312 (zs_eqE e311 (zs_eqE e309 k308)))))))
                    refine zy_hS (x := _) (mr := zm_m181) rfl rfl (zh_last k318 (by decide)) (fun he319 e319 => ?_)
                    refine zy_n 4 (mr := zm_m181) (pc' := 61) (ls' := [(4, .int 22), (0, .ref 55), (1, .int 3), (2, .int a2), (3, .int a3)]) (st' := [.int 60, .int 22]) rfl rfl ?_
                    refine zy_b (q := (64, [])) (mr := zm_m181) rfl rfl rfl ?_
                    refine zy_n 1 (mr := zm_m181) (pc' := 65) (ls' := [(4, .int 22), (0, .ref 55), (1, .int 3), (2, .int a2), (3, .int a3)]) (st' := [.ref 55]) rfl rfl ?_
                    refine zy_h (mr := zm_m181) rfl rfl (zh_get (v := .ref 58) (zs_neE e319 (zs_neE e317 (zs_neE e316 k315 (by decide)) (by decide)) (by decide)) rfl) ?_
                    refine zy_n 6 (mr := zm_m181) (pc' := 76) (ls' := [(4, .int 22), (0, .ref 55), (1, .int 3), (2, .int a2), (3, .int a3)]) (st' := [.long 0, .int 202, .ref 58]) rfl rfl ?_
                    refine zy_hS (x := _) (mr := zm_m181) rfl rfl (zh_last (zs_eqE e319 k318) (by decide)) (fun he320 e320 => ?_)
                    refine zy_n 4 (mr := zm_m181) (pc' := 61) (ls' := [(4, .int 23), (0, .ref 55), (1, .int 3), (2, .int a2), (3, .int a3)]) (st' := [.int 60, .int 23]) rfl rfl ?_
                    refine zy_b (q := (64, [])) (mr := zm_m181) rfl rfl rfl ?_
                    refine zy_n 1 (mr := zm_m181) (pc' := 65) (ls' := [(4, .int 23), (0, .ref 55), (1, .int 3), (2, .int a2), (3, .int a3)]) (st' := [.ref 55]) rfl rfl ?_
                    have k321 := (zs_neE e320 (zs_neE e319 (zs_neE e317 (zs_neE e316 k315 (by decide)) (by decide)) (by decide)) (by decide))
                    refine zy_h (mr := zm_m181) rfl rfl (zh_get (v := .ref 58) k321 rfl) ?_
                    refine zy_n 6 (mr := zm_m181) (pc' := 76) (ls' := [(4, .int 23), (0, .ref 55), (1, .int 3), (2, .int a2), (3, .int a3)]) (st' := [.long 0, .int 203, .ref 58]) rfl rfl ?_
                    refine zy_hS (x := _) (mr := zm_m181) rfl rfl (zh_last (zs_eqE e320 (zs_eqE e319 k318)) (by decide)) (fun he322 e322 => ?_)
                    refine zy_n 4 (mr := zm_m181) (pc' := 61) (ls' := [(4, .int 24), (0, .ref 55), (1, .int 3), (2, .int a2), (3, .int a3)]) (st' := [.int 60, .int 24]) rfl rfl ?_
                    refine zy_b (q := (64, [])) (mr := zm_m181) rfl rfl rfl ?_
                    refine zy_n 1 (mr := zm_m181) (pc' := 65) (ls' := [(4, .int 24), (0, .ref 55), (1, .int 3), (2, .int a2), (3, .int a3)]) (st' := [.ref 55]) rfl rfl ?_
                    refine zy_h (mr := zm_m181) rfl rfl (zh_get (v := .ref 58) (zs_neE e322 k321 (by decide)) rfl) ?_
                    refine zy_n 6 (mr := zm_m181) (pc' := 76) (ls' := [(4, .int 24), (0, .ref 55), (1, .int 3), (2, .int a2), (3, .int a3)]) (st' := [.long 0, .int 204, .ref 58]) rfl rfl ?_
                    refine zy_hS (x := _) (mr := zm_m181) rfl rfl (zh_last (zs_eqE e322 (zs_eqE e320 (zs_eqE e319 k318))) (by decide)) (fun he323 e323 => ?_)
                    refine zy_n 4 (mr := zm_m181) (pc' := 61) (ls' := [(4, .int 25), (0, .ref 55), (1, .int 3), (2, .int a2), (3, .int a3)]) (st' := [.int 60, .int 25]) rfl rfl ?_
                    refine zy_b (q := (64, [])) (mr := zm_m181) rfl rfl rfl ?_
                    refine zy_n 1 (mr := zm_m181) (pc' := 65) (ls' := [(4, .int 25), (0, .ref 55), (1, .int 3), (2, .int a2), (3, .int a3)]) (st' := [.ref 55]) rfl rfl ?_
                    refine zy_h (mr := zm_m181) rfl rfl (zh_get (v := .ref 58) (zs_neE e323 (zs_neE e322 k321 (by decide)) (by decide)) rfl) ?_
                    refine zy_n 6 (mr := zm_m181) (pc' := 76) (ls' := [(4, .int 25), (0, .ref 55), (1, .int 3), (2, .int a2), (3, .int a3)]) (st' := [.long 0, .int 205, .ref 58]) rfl rfl ?_
                    refine zy_hS (x := _) (mr := zm_m181) rfl rfl (zh_last (zs_eqE e323 (zs_eqE e322 (zs_eqE e320 (zs_eqE e319 k318)))) (by decide)) (fun he324 e324 => ?_)
                    refine zy_n 4 (mr := zm_m181) (pc' := 61) (ls' := [(4, .int 26), (0, .ref 55), (1, .int 3), (2, .int a2), (3, .int a3)]) (st' := [.int 60, .int 26]) rfl rfl ?_
                    refine zy_b (q := (64, [])) (mr := zm_m181) rfl rfl rfl ?_
                    refine zy_n 1 (mr := zm_m181) (pc' := 65) (ls' := [(4, .int 26), (0, .ref 55), (1, .int 3), (2, .int a2), (3, .int a3)]) (st' := [.ref 55]) rfl rfl ?_
                    refine zy_h (mr := zm_m181) rfl rfl (zh_get (v := .ref 58) (zs_neE e324 (zs_neE e323 (zs_neE e322 k321 (by decide)) (by decide)) (by decide)) rfl) ?_
                    refine zy_n 6 (mr := zm_m181) (pc' := 76) (ls' := [(4, .int 26), (0, .ref 55), (1, .int 3), (2, .int a2), (3, .int a3)]) (st' := [.long 0, .int 206, .ref 58]) rfl rfl ?_
                    refine zy_hS (x := _) (mr := zm_m181) rfl rfl (zh_last (zs_eqE e324 (zs_eqE e323 (zs_eqE e322 (zs_eqE e320 (zs_eqE e319 k318))))) (by decide)) (fun he325 e325 => ?_)
                    refine zy_n 4 (mr := zm_m181) (pc' := 61) (ls' := [(4, .int 27), (0, .ref 55), (1, .int 3), (2, .int a2), (3, .int a3)]) (st' := [.int 60, .int 27]) rfl rfl ?_
                    refine zy_b (q := (64, [])) (mr := zm_m181) rfl rfl rfl ?_
                    refine zy_n 1 (mr := zm_m181) (pc' := 65) (ls' := [(4, .int 27), (0, .ref 55), (1, .int 3), (2, .int a2), (3, .int a3)]) (st' := [.ref 55]) rfl rfl ?_
                    have k326 := (zs_neE e325 (zs_neE e324 (zs_neE e323 (zs_neE e322 k321 (by decide)) (by decide)) (by decide)) (by decide))
                    refine zy_h (mr := zm_m181) rfl rfl (zh_get (v := .ref 58) k326 rfl) ?_
                    refine zy_n 6 (mr := zm_m181) (pc' := 76) (ls' := [(4, .int 27), (0, .ref 55), (1, .int 3), (2, .int a2), (3, .int a3)]) (st' := [.long 0, .int 207, .ref 58]) rfl rfl ?_
                    refine zy_hS (x := _) (mr := zm_m181) rfl rfl (zh_last (zs_eqE e325 (zs_eqE e324 (zs_eqE e323 (zs_eqE e322 (zs_eqE e320 (zs_eqE e319 k318)))))) (by decide)) (fun he327 e327 => ?_)
                    refine zy_n 4 (mr := zm_m181) (pc' := 61) (ls' := [(4, .int 28), (0, .ref 55), (1, .int 3), (2, .int a2), (3, .int a3)]) (st' := [.int 60, .int 28]) rfl rfl ?_
                    refine zy_b (q := (64, [])) (mr := zm_m181) rfl rfl rfl ?_
                    refine zy_n 1 (mr := zm_m181) (pc' := 65) (ls' := [(4, .int 28), (0, .ref 55), (1, .int 3), (2, .int a2), (3, .int a3)]) (st' := [.ref 55]) rfl rfl ?_
                    refine zy_h (mr := zm_m181) rfl rfl (zh_get (v := .ref 58) (zs_neE e327 k326 (by decide)) rfl) ?_
                    refine zy_n 6 (mr := zm_m181) (pc' := 76) (ls' := [(4, .int 28), (0, .ref 55), (1, .int 3), (2, .int a2), (3, .int a3)]) (st' := [.long 0, .int 208, .ref 58]) rfl rfl ?_
                    as_aux_lemma =>
                      have k328 := (zs_eqE e327 (zs_eqE e325 (zs_eqE e324 (zs_eqE e323 (zs_eqE e322 (zs_eqE e320 (zs_eqE e319 k318)))))))
                      refine zy_hS (x := _) (mr := zm_m181) rfl rfl (zh_last k328 (by decide)) (fun he329 e329 => ?_)
                      refine zy_n 4 (mr := zm_m181) (pc' := 61) (ls' := [(4, .int 29), (0, .ref 55), (1, .int 3), (2, .int a2), (3, .int a3)]) (st' := [.int 60, .int 29]) rfl rfl ?_
                      refine zy_b (q := (64, [])) (mr := zm_m181) rfl rfl rfl ?_
                      refine zy_n 1 (mr := zm_m181) (pc' := 65) (ls' := [(4, .int 29), (0, .ref 55), (1, .int 3), (2, .int a2), (3, .int a3)]) (st' := [.ref 55]) rfl rfl ?_
                      refine zy_h (mr := zm_m181) rfl rfl (zh_get (v := .ref 58) (zs_neE e329 (zs_neE e327 k326 (by decide)) (by decide)) rfl) ?_
                      refine zy_n 6 (mr := zm_m181) (pc' := 76) (ls' := [(4, .int 29), (0, .ref 55), (1, .int 3), (2, .int a2), (3, .int a3)]) (st' := [.long 0, .int 209, .ref 58]) rfl rfl ?_
                      refine zy_hS (x := _) (mr := zm_m181) rfl rfl (zh_last (zs_eqE e329 k328) (by decide)) (fun he330 e330 => ?_)
                      refine zy_n 4 (mr := zm_m181) (pc' := 61) (ls' := [(4, .int 30), (0, .ref 55), (1, .int 3), (2, .int a2), (3, .int a3)]) (st' := [.int 60, .int 30]) rfl rfl ?_
                      refine zy_b (q := (64, [])) (mr := zm_m181) rfl rfl rfl ?_
                      refine zy_n 1 (mr := zm_m181) (pc' := 65) (ls' := [(4, .int 30), (0, .ref 55), (1, .int 3), (2, .int a2), (3, .int a3)]) (st' := [.ref 55]) rfl rfl ?_
                      refine zy_h (mr := zm_m181) rfl rfl (zh_get (v := .ref 58) (zs_neE e330 (zs_neE e329 (zs_neE e327 k326 (by decide)) (by decide)) (by decide)) rfl) ?_
                      refine zy_n 6 (mr := zm_m181) (pc' := 76) (ls' := [(4, .int 30), (0, .ref 55), (1, .int 3), (2, .int a2), (3, .int a3)]) (st' := [.long 0, .int 210, .ref 58]) rfl rfl ?_
                      refine zy_hS (x := _) (mr := zm_m181) rfl rfl (zh_last (zs_eqE e330 (zs_eqE e329 k328)) (by decide)) (fun he331 e331 => ?_)
                      refine zy_n 4 (mr := zm_m181) (pc' := 61) (ls' := [(4, .int 31), (0, .ref 55), (1, .int 3), (2, .int a2), (3, .int a3)]) (st' := [.int 60, .int 31]) rfl rfl ?_
                      refine zy_b (q := (64, [])) (mr := zm_m181) rfl rfl rfl ?_
                      refine zy_n 1 (mr := zm_m181) (pc' := 65) (ls' := [(4, .int 31), (0, .ref 55), (1, .int 3), (2, .int a2), (3, .int a3)]) (st' := [.ref 55]) rfl rfl ?_
                      have k332 := (zs_neE e331 (zs_neE e330 (zs_neE e329 (zs_neE e327 k326 (by decide)) (by decide)) (by decide)) (by decide))
                      refine zy_h (mr := zm_m181) rfl rfl (zh_get (v := .ref 58) k332 rfl) ?_
                      refine zy_n 6 (mr := zm_m181) (pc' := 76) (ls' := [(4, .int 31), (0, .ref 55), (1, .int 3), (2, .int a2), (3, .int a3)]) (st' := [.long 0, .int 211, .ref 58]) rfl rfl ?_
                      refine zy_hS (x := _) (mr := zm_m181) rfl rfl (zh_last (zs_eqE e331 (zs_eqE e330 (zs_eqE e329 k328))) (by decide)) (fun he333 e333 => ?_)
                      refine zy_n 4 (mr := zm_m181) (pc' := 61) (ls' := [(4, .int 32), (0, .ref 55), (1, .int 3), (2, .int a2), (3, .int a3)]) (st' := [.int 60, .int 32]) rfl rfl ?_
                      refine zy_b (q := (64, [])) (mr := zm_m181) rfl rfl rfl ?_
                      refine zy_n 1 (mr := zm_m181) (pc' := 65) (ls' := [(4, .int 32), (0, .ref 55), (1, .int 3), (2, .int a2), (3, .int a3)]) (st' := [.ref 55]) rfl rfl ?_
                      refine zy_h (mr := zm_m181) rfl rfl (zh_get (v := .ref 58) (zs_neE e333 k332 (by decide)) rfl) ?_
                      refine zy_n 6 (mr := zm_m181) (pc' := 76) (ls' := [(4, .int 32), (0, .ref 55), (1, .int 3), (2, .int a2), (3, .int a3)]) (st' := [.long 0, .int 212, .ref 58]) rfl rfl ?_
                      refine zy_hS (x := _) (mr := zm_m181) rfl rfl (zh_last (zs_eqE e333 (zs_eqE e331 (zs_eqE e330 (zs_eqE e329 k328)))) (by decide)) (fun he334 e334 => ?_)
                      refine zy_n 4 (mr := zm_m181) (pc' := 61) (ls' := [(4, .int 33), (0, .ref 55), (1, .int 3), (2, .int a2), (3, .int a3)]) (st' := [.int 60, .int 33]) rfl rfl ?_
                      refine zy_b (q := (64, [])) (mr := zm_m181) rfl rfl rfl ?_
                      refine zy_n 1 (mr := zm_m181) (pc' := 65) (ls' := [(4, .int 33), (0, .ref 55), (1, .int 3), (2, .int a2), (3, .int a3)]) (st' := [.ref 55]) rfl rfl ?_
                      refine zy_h (mr := zm_m181) rfl rfl (zh_get (v := .ref 58) (zs_neE e334 (zs_neE e333 k332 (by decide)) (by decide)) rfl) ?_
                      refine zy_n 6 (mr := zm_m181) (pc' := 76) (ls' := [(4, .int 33), (0, .ref 55), (1, .int 3), (2, .int a2), (3, .int a3)]) (st' := [.long 0, .int 213, .ref 58]) rfl rfl ?_
                      refine zy_hS (x := _) (mr := zm_m181) rfl rfl (zh_last (zs_eqE e334 (zs_eqE e333 (zs_eqE e331 (zs_eqE e330 (zs_eqE e329 k328))))) (by decide)) (fun he335 e335 => ?_)
                      refine zy_n 4 (mr := zm_m181) (pc' := 61) (ls' := [(4, .int 34), (0, .ref 55), (1, .int 3), (2, .int a2), (3, .int a3)]) (st' := [.int 60, .int 34]) rfl rfl ?_
                      refine zy_b (q := (64, [])) (mr := zm_m181) rfl rfl rfl ?_
                      refine zy_n 1 (mr := zm_m181) (pc' := 65) (ls' := [(4, .int 34), (0, .ref 55), (1, .int 3), (2, .int a2), (3, .int a3)]) (st' := [.ref 55]) rfl rfl ?_
                      refine zy_h (mr := zm_m181) rfl rfl (zh_get (v := .ref 58) (zs_neE e335 (zs_neE e334 (zs_neE e333 k332 (by decide)) (by decide)) (by decide)) rfl) ?_
                      refine zy_n 6 (mr := zm_m181) (pc' := 76) (ls' := [(4, .int 34), (0, .ref 55), (1, .int 3), (2, .int a2), (3, .int a3)]) (st' := [.long 0, .int 214, .ref 58]) rfl rfl ?_
                      refine zy_hS (x := _) (mr := zm_m181) rfl rfl (zh_last (zs_eqE e335 (zs_eqE e334 (zs_eqE e333 (zs_eqE e331 (zs_eqE e330 (zs_eqE e329 k328)))))) (by decide)) (fun he336 e336 => ?_)
                      refine zy_n 4 (mr := zm_m181) (pc' := 61) (ls' := [(4, .int 35), (0, .ref 55), (1, .int 3), (2, .int a2), (3, .int a3)]) (st' := [.int 60, .int 35]) rfl rfl ?_
                      refine zy_b (q := (64, [])) (mr := zm_m181) rfl rfl rfl ?_
                      refine zy_n 1 (mr := zm_m181) (pc' := 65) (ls' := [(4, .int 35), (0, .ref 55), (1, .int 3), (2, .int a2), (3, .int a3)]) (st' := [.ref 55]) rfl rfl ?_
                      have k337 := (zs_neE e336 (zs_neE e335 (zs_neE e334 (zs_neE e333 k332 (by decide)) (by decide)) (by decide)) (by decide))
                      refine zy_h (mr := zm_m181) rfl rfl (zh_get (v := .ref 58) k337 rfl) ?_
                      refine zy_n 6 (mr := zm_m181) (pc' := 76) (ls' := [(4, .int 35), (0, .ref 55), (1, .int 3), (2, .int a2), (3, .int a3)]) (st' := [.long 0, .int 215, .ref 58]) rfl rfl ?_
                      have k338 := (zs_eqE e336 (zs_eqE e335 (zs_eqE e334 (zs_eqE e333 (zs_eqE e331 (zs_eqE e330 (zs_eqE e329 k328)))))))
                      refine zy_hS (x := _) (mr := zm_m181) rfl rfl (zh_last k338 (by decide)) (fun he339 e339 => ?_)
                      refine zy_n 4 (mr := zm_m181) (pc' := 61) (ls' := [(4, .int 36), (0, .ref 55), (1, .int 3), (2, .int a2), (3, .int a3)]) (st' := [.int 60, .int 36]) rfl rfl ?_
                      refine zy_b (q := (64, [])) (mr := zm_m181) rfl rfl rfl ?_
                      refine zy_n 1 (mr := zm_m181) (pc' := 65) (ls' := [(4, .int 36), (0, .ref 55), (1, .int 3), (2, .int a2), (3, .int a3)]) (st' := [.ref 55]) rfl rfl ?_
                      refine zy_h (mr := zm_m181) rfl rfl (zh_get (v := .ref 58) (zs_neE e339 k337 (by decide)) rfl) ?_
                      refine zy_n 6 (mr := zm_m181) (pc' := 76) (ls' := [(4, .int 36), (0, .ref 55), (1, .int 3), (2, .int a2), (3, .int a3)]) (st' := [.long 0, .int 216, .ref 58]) rfl rfl ?_
                      as_aux_lemma =>
                        refine zy_hS (x := _) (mr := zm_m181) rfl rfl (zh_last (zs_eqE e339 k338) (by decide)) (fun he340 e340 => ?_)
                        refine zy_n 4 (mr := zm_m181) (pc' := 61) (ls' := [(4, .int 37), (0, .ref 55), (1, .int 3), (2, .int a2), (3, .int a3)]) (st' := [.int 60, .int 37]) rfl rfl ?_
                        refine zy_b (q := (64, [])) (mr := zm_m181) rfl rfl rfl ?_
                        refine zy_n 1 (mr := zm_m181) (pc' := 65) (ls' := [(4, .int 37), (0, .ref 55), (1, .int 3), (2, .int a2), (3, .int a3)]) (st' := [.ref 55]) rfl rfl ?_
                        refine zy_h (mr := zm_m181) rfl rfl (zh_get (v := .ref 58) (zs_neE e340 (zs_neE e339 k337 (by decide)) (by decide)) rfl) ?_
                        refine zy_n 6 (mr := zm_m181) (pc' := 76) (ls' := [(4, .int 37), (0, .ref 55), (1, .int 3), (2, .int a2), (3, .int a3)]) (st' := [.long 0, .int 217, .ref 58]) rfl rfl ?_
                        refine zy_hS (x := _) (mr := zm_m181) rfl rfl (zh_last (zs_eqE e340 (zs_eqE e339 k338)) (by decide)) (fun he341 e341 => ?_)
                        refine zy_n 4 (mr := zm_m181) (pc' := 61) (ls' := [(4, .int 38), (0, .ref 55), (1, .int 3), (2, .int a2), (3, .int a3)]) (st' := [.int 60, .int 38]) rfl rfl ?_
                        refine zy_b (q := (64, [])) (mr := zm_m181) rfl rfl rfl ?_
                        refine zy_n 1 (mr := zm_m181) (pc' := 65) (ls' := [(4, .int 38), (0, .ref 55), (1, .int 3), (2, .int a2), (3, .int a3)]) (st' := [.ref 55]) rfl rfl ?_
                        refine zy_h (mr := zm_m181) rfl rfl (zh_get (v := .ref 58) (zs_neE e341 (zs_neE e340 (zs_neE e339 k337 (by decide)) (by decide)) (by decide)) rfl) ?_
                        refine zy_n 6 (mr := zm_m181) (pc' := 76) (ls' := [(4, .int 38), (0, .ref 55), (1, .int 3), (2, .int a2), (3, .int a3)]) (st' := [.long 0, .int 218, .ref 58]) rfl rfl ?_
                        refine zy_hS (x := _) (mr := zm_m181) rfl rfl (zh_last (zs_eqE e341 (zs_eqE e340 (zs_eqE e339 k338))) (by decide)) (fun he342 e342 => ?_)
                        refine zy_n 4 (mr := zm_m181) (pc' := 61) (ls' := [(4, .int 39), (0, .ref 55), (1, .int 3), (2, .int a2), (3, .int a3)]) (st' := [.int 60, .int 39]) rfl rfl ?_
                        refine zy_b (q := (64, [])) (mr := zm_m181) rfl rfl rfl ?_
                        refine zy_n 1 (mr := zm_m181) (pc' := 65) (ls' := [(4, .int 39), (0, .ref 55), (1, .int 3), (2, .int a2), (3, .int a3)]) (st' := [.ref 55]) rfl rfl ?_
                        have k343 := (zs_neE e342 (zs_neE e341 (zs_neE e340 (zs_neE e339 k337 (by decide)) (by decide)) (by decide)) (by decide))
                        refine zy_h (mr := zm_m181) rfl rfl (zh_get (v := .ref 58) k343 rfl) ?_
                        refine zy_n 6 (mr := zm_m181) (pc' := 76) (ls' := [(4, .int 39), (0, .ref 55), (1, .int 3), (2, .int a2), (3, .int a3)]) (st' := [.long 0, .int 219, .ref 58]) rfl rfl ?_
                        refine zy_hS (x := _) (mr := zm_m181) rfl rfl (zh_last (zs_eqE e342 (zs_eqE e341 (zs_eqE e340 (zs_eqE e339 k338)))) (by decide)) (fun he344 e344 => ?_)
                        refine zy_n 4 (mr := zm_m181) (pc' := 61) (ls' := [(4, .int 40), (0, .ref 55), (1, .int 3), (2, .int a2), (3, .int a3)]) (st' := [.int 60, .int 40]) rfl rfl ?_
                        refine zy_b (q := (64, [])) (mr := zm_m181) rfl rfl rfl ?_
                        refine zy_n 1 (mr := zm_m181) (pc' := 65) (ls' := [(4, .int 40), (0, .ref 55), (1, .int 3), (2, .int a2), (3, .int a3)]) (st' := [.ref 55]) rfl rfl ?_
                        refine zy_h (mr := zm_m181) rfl rfl (zh_get (v := .ref 58) (zs_neE e344 k343 (by decide)) rfl) ?_
                        refine zy_n 6 (mr := zm_m181) (pc' := 76) (ls' := [(4, .int 40), (0, .ref 55), (1, .int 3), (2, .int a2), (3, .int a3)]) (st' := [.long 0, .int 220, .ref 58]) rfl rfl ?_
                        refine zy_hS (x := _) (mr := zm_m181) rfl rfl (zh_last (zs_eqE e344 (zs_eqE e342 (zs_eqE e341 (zs_eqE e340 (zs_eqE e339 k338))))) (by decide)) (fun he345 e345 => ?_)
                        refine zy_n 4 (mr := zm_m181) (pc' := 61) (ls' := [(4, .int 41), (0, .ref 55), (1, .int 3), (2, .int a2), (3, .int a3)]) (st' := [.int 60, .int 41]) rfl rfl ?_
                        refine zy_b (q := (64, [])) (mr := zm_m181) rfl rfl rfl ?_
                        refine zy_n 1 (mr := zm_m181) (pc' := 65) (ls' := [(4, .int 41), (0, .ref 55), (1, .int 3), (2, .int a2), (3, .int a3)]) (st' := [.ref 55]) rfl rfl ?_
                        refine zy_h (mr := zm_m181) rfl rfl (zh_get (v := .ref 58) (zs_neE e345 (zs_neE e344 k343 (by decide)) (by decide)) rfl) ?_
                        refine zy_n 6 (mr := zm_m181) (pc' := 76) (ls' := [(4, .int 41), (0, .ref 55), (1, .int 3), (2, .int a2), (3, .int a3)]) (st' := [.long 0, .int 221, .ref 58]) rfl rfl ?_
                        refine zy_hS (x := _) (mr := zm_m181) rfl rfl (zh_last (zs_eqE e345 (zs_eqE e344 (zs_eqE e342 (zs_eqE e341 (zs_eqE e340 (zs_eqE e339 k338)))))) (by decide)) (fun he346 e346 => ?_)
                        refine zy_n 4 (mr := zm_m181) (pc' := 61) (ls' := [(4, .int 42), (0, .ref 55), (1, .int 3), (2, .int a2), (3, .int a3)]) (st' := [.int 60, .int 42]) rfl rfl ?_
                        refine zy_b (q := (64, [])) (mr := zm_m181) rfl rfl rfl ?_
                        refine zy_n 1 (mr := zm_m181) (pc' := 65) (ls' := [(4, .int 42), (0, .ref 55), (1, .int 3), (2, .int a2), (3, .int a3)]) (st' := [.ref 55]) rfl rfl ?_
                        refine zy_h (mr := zm_m181) rfl rfl (zh_get (v := .ref 58) (zs_neE e346 (zs_neE e345 (zs_neE e344 k343 (by decide)) (by decide)) (by decide)) rfl) ?_
                        refine zy_n 6 (mr := zm_m181) (pc' := 76) (ls' := [(4, .int 42), (0, .ref 55), (1, .int 3), (2, .int a2), (3, .int a3)]) (st' := [.long 0, .int 222, .ref 58]) rfl rfl ?_
                        have k347 := (zs_eqE e346 (zs_eqE e345 (zs_eqE e344 (zs_eqE e342 (zs_eqE e341 (zs_eqE e340 (zs_eqE e339 k338)))))))
                        refine zy_hS (x := _) (mr := zm_m181) rfl rfl (zh_last k347 (by decide)) (fun he348 e348 => ?_)
                        refine zy_n 4 (mr := zm_m181) (pc' := 61) (ls' := [(4, .int 43), (0, .ref 55), (1, .int 3), (2, .int a2), (3, .int a3)]) (st' := [.int 60, .int 43]) rfl rfl ?_
                        refine zy_b (q := (64, [])) (mr := zm_m181) rfl rfl rfl ?_
                        refine zy_n 1 (mr := zm_m181) (pc' := 65) (ls' := [(4, .int 43), (0, .ref 55), (1, .int 3), (2, .int a2), (3, .int a3)]) (st' := [.ref 55]) rfl rfl ?_
                        have k349 := (zs_neE e348 (zs_neE e346 (zs_neE e345 (zs_neE e344 k343 (by decide)) (by decide)) (by decide)) (by decide))
                        refine zy_h (mr := zm_m181) rfl rfl (zh_get (v := .ref 58) k349 rfl) ?_
                        refine zy_n 6 (mr := zm_m181) (pc' := 76) (ls' := [(4, .int 43), (0, .ref 55), (1, .int 3), (2, .int a2), (3, .int a3)]) (st' := [.long 0, .int 223, .ref 58]) rfl rfl ?_
                        refine zy_hS (x := _) (mr := zm_m181) rfl rfl (zh_last (zs_eqE e348 k347) (by decide)) (fun he350 e350 => ?_)
                        refine zy_n 4 (mr := zm_m181) (pc' := 61) (ls' := [(4, .int 44), (0, .ref 55), (1, .int 3), (2, .int a2), (3, .int a3)]) (st' := [.int 60, .int 44]) rfl rfl ?_
                        refine zy_b (q := (64, [])) (mr := zm_m181) rfl rfl rfl ?_
                        refine zy_n 1 (mr := zm_m181) (pc' := 65) (ls' := [(4, .int 44), (0, .ref 55), (1, .int 3), (2, .int a2), (3, .int a3)]) (st' := [.ref 55]) rfl rfl ?_
                        refine zy_h (mr := zm_m181) rfl rfl (zh_get (v := .ref 58) (zs_neE e350 k349 (by decide)) rfl) ?_
                        refine zy_n 6 (mr := zm_m181) (pc' := 76) (ls' := [(4, .int 44), (0, .ref 55), (1, .int 3), (2, .int a2), (3, .int a3)]) (st' := [.long 0, .int 224, .ref 58]) rfl rfl ?_
                        as_aux_lemma =>
                          refine zy_hS (x := _) (mr := zm_m181) rfl rfl (zh_last (zs_eqE e350 (zs_eqE e348 k347)) (by decide)) (fun he351 e351 => ?_)
                          refine zy_n 4 (mr := zm_m181) (pc' := 61) (ls' := [(4, .int 45), (0, .ref 55), (1, .int 3), (2, .int a2), (3, .int a3)]) (st' := [.int 60, .int 45]) rfl rfl ?_
                          refine zy_b (q := (64, [])) (mr := zm_m181) rfl rfl rfl ?_
                          refine zy_n 1 (mr := zm_m181) (pc' := 65) (ls' := [(4, .int 45), (0, .ref 55), (1, .int 3), (2, .int a2), (3, .int a3)]) (st' := [.ref 55]) rfl rfl ?_
                          refine zy_h (mr := zm_m181) rfl rfl (zh_get (v := .ref 58) (zs_neE e351 (zs_neE e350 k349 (by decide)) (by decide)) rfl) ?_
                          refine zy_n 6 (mr := zm_m181) (pc' := 76) (ls' := [(4, .int 45), (0, .ref 55), (1, .int 3), (2, .int a2), (3, .int a3)]) (st' := [.long 0, .int 225, .ref 58]) rfl rfl ?_
                          refine zy_hS (x := _) (mr := zm_m181) rfl rfl (zh_last (zs_eqE e351 (zs_eqE e350 (zs_eqE e348 k347))) (by decide)) (fun he352 e352 => ?_)
                          refine zy_n 4 (mr := zm_m181) (pc' := 61) (ls' := [(4, .int 46), (0, .ref 55), (1, .int 3), (2, .int a2), (3, .int a3)]) (st' := [.int 60, .int 46]) rfl rfl ?_
                          refine zy_b (q := (64, [])) (mr := zm_m181) rfl rfl rfl ?_
                          refine zy_n 1 (mr := zm_m181) (pc' := 65) (ls' := [(4, .int 46), (0, .ref 55), (1, .int 3), (2, .int a2), (3, .int a3)]) (st' := [.ref 55]) rfl rfl ?_
                          refine zy_h (mr := zm_m181) rfl rfl (zh_get (v := .ref 58) (zs_neE e352 (zs_neE e351 (zs_neE e350 k349 (by decide)) (by decide)) (by decide)) rfl) ?_
                          refine zy_n 6 (mr := zm_m181) (pc' := 76) (ls' := [(4, .int 46), (0, .ref 55), (1, .int 3), (2, .int a2), (3, .int a3)]) (st' := [.long 0, .int 226, .ref 58]) rfl rfl ?_
                          refine zy_hS (x := _) (mr := zm_m181) rfl rfl (zh_last (zs_eqE e352 (zs_eqE e351 (zs_eqE e350 (zs_eqE e348 k347)))) (by decide)) (fun he353 e353 => ?_)
                          refine zy_n 4 (mr := zm_m181) (pc' := 61) (ls' := [(4, .int 47), (0, .ref 55), (1, .int 3), (2, .int a2), (3, .int a3)]) (st' := [.int 60, .int 47]) rfl rfl ?_
                          refine zy_b (q := (64, [])) (mr := zm_m181) rfl rfl rfl ?_
                          refine zy_n 1 (mr := zm_m181) (pc' := 65) (ls' := [(4, .int 47), (0, .ref 55), (1, .int 3), (2, .int a2), (3, .int a3)]) (st' := [.ref 55]) rfl rfl ?_
                          have k354 := (zs_neE e353 (zs_neE e352 (zs_neE e351 (zs_neE e350 k349 (by decide)) (by decide)) (by decide)) (by decide))
                          refine zy_h (mr := zm_m181) rfl rfl (zh_get (v := .ref 58) k354 rfl) ?_
                          refine zy_n 6 (mr := zm_m181) (pc' := 76) (ls' := [(4, .int 47), (0, .ref 55), (1, .int 3), (2, .int a2), (3, .int a3)]) (st' := [.long 0, .int 227, .ref 58]) rfl rfl ?_
                          refine zy_hS (x := _) (mr := zm_m181) rfl rfl (zh_last (zs_eqE e353 (zs_eqE e352 (zs_eqE e351 (zs_eqE e350 (zs_eqE e348 k347))))) (by decide)) (fun he355 e355 => ?_)
                          refine zy_n 4 (mr := zm_m181) (pc' := 61) (ls' := [(4, .int 48), (0, .ref 55), (1, .int 3), (2, .int a2), (3, .int a3)]) (st' := [.int 60, .int 48]) rfl rfl ?_
                          refine zy_b (q := (64, [])) (mr := zm_m181) rfl rfl rfl ?_
                          refine zy_n 1 (mr := zm_m181) (pc' := 65) (ls' := [(4, .int 48), (0, .ref 55), (1, .int 3), (2, .int a2), (3, .int a3)]) (st' := [.ref 55]) rfl rfl ?_
                          refine zy_h (mr := zm_m181) rfl rfl (zh_get (v := .ref 58) (zs_neE e355 k354 (by decide)) rfl) ?_
                          refine zy_n 6 (mr := zm_m181) (pc' := 76) (ls' := [(4, .int 48), (0, .ref 55), (1, .int 3), (2, .int a2), (3, .int a3)]) (st' := [.long 0, .int 228, .ref 58]) rfl rfl ?_
                          refine zy_hS (x := _) (mr := zm_m181) rfl rfl (zh_last (zs_eqE e355 (zs_eqE e353 (zs_eqE e352 (zs_eqE e351 (zs_eqE e350 (zs_eqE e348 k347)))))) (by decide)) (fun he356 e356 => ?_)
                          refine zy_n 4 (mr := zm_m181) (pc' := 61) (ls' := [(4, .int 49), (0, .ref 55), (1, .int 3), (2, .int a2), (3, .int a3)]) (st' := [.int 60, .int 49]) rfl rfl ?_
                          refine zy_b (q := (64, [])) (mr := zm_m181) rfl rfl rfl ?_
                          refine zy_n 1 (mr := zm_m181) (pc' := 65) (ls' := [(4, .int 49), (0, .ref 55), (1, .int 3), (2, .int a2), (3, .int a3)]) (st' := [.ref 55]) rfl rfl ?_
                          refine zy_h (mr := zm_m181) rfl rfl (zh_get (v := .ref 58) (zs_neE e356 (zs_neE e355 k354 (by decide)) (by decide)) rfl) ?_
                          refine zy_n 6 (mr := zm_m181) (pc' := 76) (ls' := [(4, .int 49), (0, .ref 55), (1, .int 3), (2, .int a2), (3, .int a3)]) (st' := [.long 0, .int 229, .ref 58]) rfl rfl ?_
                          have k357 := (zs_eqE e356 (zs_eqE e355 (zs_eqE e353 (zs_eqE e352 (zs_eqE e351 (zs_eqE e350 (zs_eqE e348 k347)))))))
                          refine zy_hS (x := _) (mr := zm_m181) rfl rfl (zh_last k357 (by decide)) (fun he358 e358 => ?_)
                          refine zy_n 4 (mr := zm_m181) (pc' := 61) (ls' := [(4, .int 50), (0, .ref 55), (1, .int 3), (2, .int a2), (3, .int a3)]) (st' := [.int 60, .int 50]) rfl rfl ?_
                          refine zy_b (q := (64, [])) (mr := zm_m181) rfl rfl rfl ?_
                          refine zy_n 1 (mr := zm_m181) (pc' := 65) (ls' := [(4, .int 50), (0, .ref 55), (1, .int 3), (2, .int a2), (3, .int a3)]) (st' := [.ref 55]) rfl rfl ?_
                          refine zy_h (mr := zm_m181) rfl rfl (zh_get (v := .ref 58) (zs_neE e358 (zs_neE e356 (zs_neE e355 k354 (by decide)) (by decide)) (by decide)) rfl) ?_
                          refine zy_n 6 (mr := zm_m181) (pc' := 76) (ls' := [(4, .int 50), (0, .ref 55), (1, .int 3), (2, .int a2), (3, .int a3)]) (st' := [.long 0, .int 230, .ref 58]) rfl rfl ?_
                          refine zy_hS (x := _) (mr := zm_m181) rfl rfl (zh_last (zs_eqE e358 k357) (by decide)) (fun he359 e359 => ?_)
                          refine zy_n 4 (mr := zm_m181) (pc' := 61) (ls' := [(4, .int 51), (0, .ref 55), (1, .int 3), (2, .int a2), (3, .int a3)]) (st' := [.int 60, .int 51]) rfl rfl ?_
                          refine zy_b (q := (64, [])) (mr := zm_m181) rfl rfl rfl ?_
                          refine zy_n 1 (mr := zm_m181) (pc' := 65) (ls' := [(4, .int 51), (0, .ref 55), (1, .int 3), (2, .int a2), (3, .int a3)]) (st' := [.ref 55]) rfl rfl ?_
                          have k360 := (zs_neE e359 (zs_neE e358 (zs_neE e356 (zs_neE e355 k354 (by decide)) (by decide)) (by decide)) (by decide))
                          refine zy_h (mr := zm_m181) rfl rfl (zh_get (v := .ref 58) k360 rfl) ?_
                          refine zy_n 6 (mr := zm_m181) (pc' := 76) (ls' := [(4, .int 51), (0, .ref 55), (1, .int 3), (2, .int a2), (3, .int a3)]) (st' := [.long 0, .int 231, .ref 58]) rfl rfl ?_
                          refine zy_hS (x := _) (mr := zm_m181) rfl rfl (zh_last (zs_eqE e359 (zs_eqE e358 k357)) (by decide)) (fun he361 e361 => ?_)
                          refine zy_n 4 (mr := zm_m181) (pc' := 61) (ls' := [(4, .int 52), (0, .ref 55), (1, .int 3), (2, .int a2), (3, .int a3)]) (st' := [.int 60, .int 52]) rfl rfl ?_
                          refine zy_b (q := (64, [])) (mr := zm_m181) rfl rfl rfl ?_
                          refine zy_n 1 (mr := zm_m181) (pc' := 65) (ls' := [(4, .int 52), (0, .ref 55), (1, .int 3), (2, .int a2), (3, .int a3)]) (st' := [.ref 55]) rfl rfl ?_
                          refine zy_h (mr := zm_m181) rfl rfl (zh_get (v := .ref 58) (zs_neE e361 k360 (by decide)) rfl) ?_
                          refine zy_n 6 (mr := zm_m181) (pc' := 76) (ls' := [(4, .int 52), (0, .ref 55), (1, .int 3), (2, .int a2), (3, .int a3)]) (st' := [.long 0, .int 232, .ref 58]) rfl rfl ?_
                          as_aux_lemma =>
                            refine zy_hS (x := _) (mr := zm_m181) rfl rfl (zh_last (zs_eqE e361 (zs_eqE e359 (zs_eqE e358 k357))) (by decide)) (fun he362 e362 => ?_)
                            refine zy_n 4 (mr := zm_m181) (pc' := 61) (ls' := [(4, .int 53), (0, .ref 55), (1, .int 3), (2, .int a2), (3, .int a3)]) (st' := [.int 60, .int 53]) rfl rfl ?_
                            refine zy_b (q := (64, [])) (mr := zm_m181) rfl rfl rfl ?_
                            refine zy_n 1 (mr := zm_m181) (pc' := 65) (ls' := [(4, .int 53), (0, .ref 55), (1, .int 3), (2, .int a2), (3, .int a3)]) (st' := [.ref 55]) rfl rfl ?_
                            refine zy_h (mr := zm_m181) rfl rfl (zh_get (v := .ref 58) (zs_neE e362 (zs_neE e361 k360 (by decide)) (by decide)) rfl) ?_
                            refine zy_n 6 (mr := zm_m181) (pc' := 76) (ls' := [(4, .int 53), (0, .ref 55), (1, .int 3), (2, .int a2), (3, .int a3)]) (st' := [.long 0, .int 233, .ref 58]) rfl rfl ?_
                            refine zy_hS (x := _) (mr := zm_m181) rfl rfl (zh_last (zs_eqE e362 (zs_eqE e361 (zs_eqE e359 (zs_eqE e358 k357)))) (by decide)) (fun he363 e363 => ?_)
                            refine zy_n 4 (mr := zm_m181) (pc' := 61) (ls' := [(4, .int 54), (0, .ref 55), (1, .int 3), (2, .int a2), (3, .int a3)]) (st' := [.int 60, .int 54]) rfl rfl ?_
                            refine zy_b (q := (64, [])) (mr := zm_m181) rfl rfl rfl ?_
                            refine zy_n 1 (mr := zm_m181) (pc' := 65) (ls' := [(4, .int 54), (0, .ref 55), (1, .int 3), (2, .int a2), (3, .int a3)]) (st' := [.ref 55]) rfl rfl ?_
                            refine zy_h (mr := zm_m181) rfl rfl (zh_get (v := .ref 58) (zs_neE e363 (zs_neE e362 (zs_neE e361 k360 (by decide)) (by decide)) (by decide)) rfl) ?_
                            refine zy_n 6 (mr := zm_m181) (pc' := 76) (ls' := [(4, .int 54), (0, .ref 55), (1, .int 3), (2, .int a2), (3, .int a3)]) (st' := [.long 0, .int 234, .ref 58]) rfl rfl ?_
                            refine zy_hS (x := _) (mr := zm_m181) rfl rfl (zh_last (zs_eqE e363 (zs_eqE e362 (zs_eqE e361 (zs_eqE e359 (zs_eqE e358 k357))))) (by decide)) (fun he364 e364 => ?_)
                            refine zy_n 4 (mr := zm_m181) (pc' := 61) (ls' := [(4, .int 55), (0, .ref 55), (1, .int 3), (2, .int a2), (3, .int a3)]) (st' := [.int 60, .int 55]) rfl rfl ?_
                            refine zy_b (q := (64, [])) (mr := zm_m181) rfl rfl rfl ?_
                            refine zy_n 1 (mr := zm_m181) (pc' := 65) (ls' := [(4, .int 55), (0, .ref 55), (1, .int 3), (2, .int a2), (3, .int a3)]) (st' := [.ref 55]) rfl rfl ?_
                            have k365 := (zs_neE e364 (zs_neE e363 (zs_neE e362 (zs_neE e361 k360 (by decide)) (by decide)) (by decide)) (by decide))
                            refine zy_h (mr := zm_m181) rfl rfl (zh_get (v := .ref 58) k365 rfl) ?_
                            refine zy_n 6 (mr := zm_m181) (pc' := 76) (ls' := [(4, .int 55), (0, .ref 55), (1, .int 3), (2, .int a2), (3, .int a3)]) (st' := [.long 0, .int 235, .ref 58]) rfl rfl ?_
                            refine zy_hS (x := _) (mr := zm_m181) rfl rfl (zh_last (zs_eqE e364 (zs_eqE e363 (zs_eqE e362 (zs_eqE e361 (zs_eqE e359 (zs_eqE e358 k357)))))) (by decide)) (fun he366 e366 => ?_)
                            refine zy_n 4 (mr := zm_m181) (pc' := 61) (ls' := [(4, .int 56), (0, .ref 55), (1, .int 3), (2, .int a2), (3, .int a3)]) (st' := [.int 60, .int 56]) rfl rfl ?_
                            refine zy_b (q := (64, [])) (mr := zm_m181) rfl rfl rfl ?_
                            refine zy_n 1 (mr := zm_m181) (pc' := 65) (ls' := [(4, .int 56), (0, .ref 55), (1, .int 3), (2, .int a2), (3, .int a3)]) (st' := [.ref 55]) rfl rfl ?_
                            refine zy_h (mr := zm_m181) rfl rfl (zh_get (v := .ref 58) (zs_neE e366 k365 (by decide)) rfl) ?_
                            refine zy_n 6 (mr := zm_m181) (pc' := 76) (ls' := [(4, .int 56), (0, .ref 55), (1, .int 3), (2, .int a2), (3, .int a3)]) (st' := [.long 0, .int 236, .ref 58]) rfl rfl ?_
                            have k367 := (zs_eqE e366 (zs_eqE e364 (zs_eqE e363 (zs_eqE e362 (zs_eqE e361 (zs_eqE e359 (zs_eqE e358 k357)))))))
                            refine zy_hS (x := _) (mr := zm_m181) rfl rfl (zh_last k367 (by decide)) (fun he368 e368 => ?_)
                            refine zy_n 4 (mr := zm_m181) (pc' := 61) (ls' := [(4, .int 57), (0, .ref 55), (1, .int 3), (2, .int a2), (3, .int a3)]) (st' := [.int 60, .int 57]) rfl rfl ?_
                            refine zy_b (q := (64, [])) (mr := zm_m181) rfl rfl rfl ?_
                            refine zy_n 1 (mr := zm_m181) (pc' := 65) (ls' := [(4, .int 57), (0, .ref 55), (1, .int 3), (2, .int a2), (3, .int a3)]) (st' := [.ref 55]) rfl rfl ?_
                            refine zy_h (mr := zm_m181) rfl rfl (zh_get (v := .ref 58) (zs_neE e368 (zs_neE e366 k365 (by decide)) (by decide)) rfl) ?_
                            refine zy_n 6 (mr := zm_m181) (pc' := 76) (ls' := [(4, .int 57), (0, .ref 55), (1, .int 3), (2, .int a2), (3, .int a3)]) (st' := [.long 0, .int 237, .ref 58]) rfl rfl ?_
                            refine zy_hS (x := _) (mr := zm_m181) rfl rfl (zh_last (zs_eqE e368 k367) (by decide)) (fun he369 e369 => ?_)
                            refine zy_n 4 (mr := zm_m181) (pc' := 61) (ls' := [(4, .int 58), (0, .ref 55), (1, .int 3), (2, .int a2), (3, .int a3)]) (st' := [.int 60, .int 58]) rfl rfl ?_
                            refine zy_b (q := (64, [])) (mr := zm_m181) rfl rfl rfl ?_
                            refine zy_n 1 (mr := zm_m181) (pc' := 65) (ls' := [(4, .int 58), (0, .ref 55), (1, .int 3), (2, .int a2), (3, .int a3)]) (st' := [.ref 55]) rfl rfl ?_
                            refine zy_h (mr := zm_m181) rfl rfl (zh_get (v := .ref 58) (zs_neE e369 (zs_neE e368 (zs_neE e366 k365 (by decide)) (by decide)) (by decide)) rfl) ?_
                            refine zy_n 6 (mr := zm_m181) (pc' := 76) (ls' := [(4, .int 58), (0, .ref 55), (1, .int 3), (2, .int a2), (3, .int a3)]) (st' := [.long 0, .int 238, .ref 58]) rfl rfl ?_
                            refine zy_hS (x := _) (mr := zm_m181) rfl rfl (zh_last (zs_eqE e369 (zs_eqE e368 k367)) (by decide)) (fun he370 e370 => ?_)
                            refine zy_n 4 (mr := zm_m181) (pc' := 61) (ls' := [(4, .int 59), (0, .ref 55), (1, .int 3), (2, .int a2), (3, .int a3)]) (st' := [.int 60, .int 59]) rfl rfl ?_
                            refine zy_b (q := (64, [])) (mr := zm_m181) rfl rfl rfl ?_
                            refine zy_n 1 (mr := zm_m181) (pc' := 65) (ls' := [(4, .int 59), (0, .ref 55), (1, .int 3), (2, .int a2), (3, .int a3)]) (st' := [.ref 55]) rfl rfl ?_
                            have k371 := (zs_neE e370 (zs_neE e369 (zs_neE e368 (zs_neE e366 k365 (by decide)) (by decide)) (by decide)) (by decide))
                            refine zy_h (mr := zm_m181) rfl rfl (zh_get (v := .ref 58) k371 rfl) ?_
                            refine zy_n 6 (mr := zm_m181) (pc' := 76) (ls' := [(4, .int 59), (0, .ref 55), (1, .int 3), (2, .int a2), (3, .int a3)]) (st' := [.long 0, .int 239, .ref 58]) rfl rfl ?_
                            refine zy_hS (x := _) (mr := zm_m181) rfl rfl (zh_last (zs_eqE e370 (zs_eqE e369 (zs_eqE e368 k367))) (by decide)) (fun he372 e372 => ?_)
                            refine zy_n 4 (mr := zm_m181) (pc' := 61) (ls' := [(4, .int 60), (0, .ref 55), (1, .int 3), (2, .int a2), (3, .int a3)]) (st' := [.int 60, .int 60]) rfl rfl ?_
                            refine zy_b (q := (83, [])) (mr := zm_m181) rfl rfl rfl ?_
                            refine zy_n 1 (mr := zm_m181) (pc' := 84) (ls' := [(4, .int 60), (0, .ref 55), (1, .int 3), (2, .int a2), (3, .int a3)]) (st' := [.int 0]) rfl rfl ?_
                            refine zy_r (mr := zm_m181) rfl rfl rfl ?_
                            refine ⟨⟨_, rfl, ?_⟩, Nat.le_trans (zs_lleE e372 (zs_lleE e370 (zs_lleE e369 (zs_lleE e368 (zs_lleE e366 (zs_lleE e364 (zs_lleE e363 (zs_lleE e362 (zs_lleE e361 (zs_lleE e359 (zs_lleE e358 (zs_lleE e356 (zs_lleE e355 (zs_lleE e353 (zs_lleE e352 (zs_lleE e351 (zs_lleE e350 (zs_lleE e348 (zs_lleE e346 (zs_lleE e345 (zs_lleE e344 (zs_lleE e342 (zs_lleE e341 (zs_lleE e340 (zs_lleE e339 (zs_lleE e336 (zs_lleE e335 (zs_lleE e334 (zs_lleE e333 (zs_lleE e331 (zs_lleE e330 (zs_lleE e329 (zs_lleE e327 (zs_lleE e325 (zs_lleE e324 (zs_lleE e323 (zs_lleE e322 (zs_lleE e320 (zs_lleE e319 (zs_lleE e317 (zs_lleE e316 (zs_lleE e314 (zs_lleE e313 (zs_lleE e312 (zs_lleE e311 (zs_lleE e309 (zs_lleE e307 (zs_lleE e306 (zs_lleE e305 (zs_lleE e303 (zs_lleE e302 (zs_lleE e301 (zs_lleE e300 (zs_lleE e297 (zs_lleE e296 (zs_lleE e295 (zs_lleE e294 (zs_lleE e292 (zs_lleE e291 (zs_lleE e290 (zs_lleE e288 (zs_lleE e285 (zs_lleE e280 KL))))))))))))))))))))))))))))))))))))))))))))))))))))))))))))))) (by decide), Nat.le_trans (zs_szleE (w := 240) e372 (zs_eqE e370 (zs_eqE e369 (zs_eqE e368 k367))) rfl rfl (zs_szleE (w := 240) e370 (zs_eqE e369 (zs_eqE e368 k367)) rfl rfl (zs_szleE (w := 240) e369 (zs_eqE e368 k367) rfl rfl (zs_szleE (w := 240) e368 k367 rfl rfl (zs_szleE (w := 240) e366 (zs_eqE e364 (zs_eqE e363 (zs_eqE e362 (zs_eqE e361 (zs_eqE e359 (zs_eqE e358 k357)))))) rfl rfl (zs_szleE (w := 240) e364 (zs_eqE e363 (zs_eqE e362 (zs_eqE e361 (zs_eqE e359 (zs_eqE e358 k357))))) rfl rfl (zs_szleE (w := 240) e363 (zs_eqE e362 (zs_eqE e361 (zs_eqE e359 (zs_eqE e358 k357)))) rfl rfl (zs_szleE (w := 240) e362 (zs_eqE e361 (zs_eqE e359 (zs_eqE e358 k357))) rfl rfl (zs_szleE (w := 240) e361 (zs_eqE e359 (zs_eqE e358 k357)) rfl rfl (zs_szleE (w := 240) e359 (zs_eqE e358 k357) rfl rfl (zs_szleE (w := 240) e358 k357 rfl rfl (zs_szleE (w := 240) e356 (zs_eqE e355 (zs_eqE e353 (zs_eqE e352 (zs_eqE e351 (zs_eqE e350 (zs_eqE e348 k347)))))) rfl rfl (zs_szleE (w := 240) e355 (zs_eqE e353 (zs_eqE e352 (zs_eqE e351 (zs_eqE e350 (zs_eqE e348 k347))))) rfl rfl (zs_szleE (w := 240) e353 (zs_eqE e352 (zs_eqE e351 (zs_eqE e350 (zs_eqE e348 k347)))) rfl rfl (zs_szleE (w := 240) e352 (zs_eqE e351 (zs_eqE e350 (zs_eqE e348 k347))) rfl rfl (zs_szleE (w := 240) e351 (zs_eqE e350 (zs_eqE e348 k347)) rfl rfl (zs_szleE (w := 240) e350 (zs_eqE e348 k347) rfl rfl (zs_szleE (w := 240) e348 k347 rfl rfl (zs_szleE (w := 240) e346 (zs_eqE e345 (zs_eqE e344 (zs_eqE e342 (zs_eqE e341 (zs_eqE e340 (zs_eqE e339 k338)))))) rfl rfl (zs_szleE (w := 240) e345 (zs_eqE e344 (zs_eqE e342 (zs_eqE e341 (zs_eqE e340 (zs_eqE e339 k338))))) rfl rfl (zs_szleE (w := 240) e344 (zs_eqE e342 (zs_eqE e341 (zs_eqE e340 (zs_eqE e339 k338)))) rfl rfl (zs_szleE (w := 240) e342 (zs_eqE e341 (zs_eqE e340 (zs_eqE e339 k338))) rfl rfl (zs_szleE (w := 240) e341 (zs_eqE e340 (zs_eqE e339 k338)) rfl rfl (zs_szleE (w := 240) e340 (zs_eqE e339 k338) rfl rfl (zs_szleE (w := 240) e339 k338 rfl rfl (zs_szleE (w := 240) e336 (zs_eqE e335 (zs_eqE e334 (zs_eqE e333 (zs_eqE e331 (zs_eqE e330 (zs_eqE e329 k328)))))) rfl rfl (zs_szleE (w := 240) e335 (zs_eqE e334 (zs_eqE e333 (zs_eqE e331 (zs_eqE e330 (zs_eqE e329 k328))))) rfl rfl (zs_szleE (w := 240) e334 (zs_eqE e333 (zs_eqE e331 (zs_eqE e330 (zs_eqE e329 k328)))) rfl rfl (zs_szleE (w := 240) e333 (zs_eqE e331 (zs_eqE e330 (zs_eqE e329 k328))) rfl rfl (zs_szleE (w := 240) e331 (zs_eqE e330 (zs_eqE e329 k328)) rfl rfl (zs_szleE (w := 240) e330 (zs_eqE e329 k328) rfl rfl (zs_szleE (w := 240) e329 k328 rfl rfl (zs_szleE (w := 240) e327 (zs_eqE e325 (zs_eqE e324 (zs_eqE e323 (zs_eqE e322 (zs_eqE e320 (zs_eqE e319 k318)))))) rfl rfl (zs_szleE (w := 240) e325 (zs_eqE e324 (zs_eqE e323 (zs_eqE e322 (zs_eqE e320 (zs_eqE e319 k318))))) rfl rfl (zs_szleE (w := 240) e324 (zs_eqE e323 (zs_eqE e322 (zs_eqE e320 (zs_eqE e319 k318)))) rfl rfl (zs_szleE (w := 240) e323 (zs_eqE e322 (zs_eqE e320 (zs_eqE e319 k318))) rfl rfl (zs_szleE (w := 240) e322 (zs_eqE e320 (zs_eqE e319 k318)) rfl rfl (zs_szleE (w := 240) e320 (zs_eqE e319 k318) rfl rfl (zs_szleE (w := 240) e319 k318 rfl rfl (zs_szleE (w := 240) e317 (zs_eqE e316 (zs_eqE e314 (zs_eqE e313 (zs_eqE e312 (zs_eqE e311 (zs_eqE e309 k308)))))) rfl rfl (zs_szleE (w := 240) e316 (zs_eqE e314 (zs_eqE e313 (zs_eqE e312 (zs_eqE e311 (zs_eqE e309 k308))))) rfl rfl (zs_szleE (w := 240) e314 (zs_eqE e313 (zs_eqE e312 (zs_eqE e311 (zs_eqE e309 k308)))) rfl rfl (zs_szleE (w := 240) e313 (zs_eqE e312 (zs_eqE e311 (zs_eqE e309 k308))) rfl rfl (zs_szleE (w := 240) e312 (zs_eqE e311 (zs_eqE e309 k308)) rfl rfl (zs_szleE (w := 240) e311 (zs_eqE e309 k308) rfl rfl (zs_szleE (w := 240) e309 k308 rfl rfl (zs_szleE (w := 240) e307 (zs_eqE e306 (zs_eqE e305 (zs_eqE e303 (zs_eqE e302 (zs_eqE e301 (zs_eqE e300 k299)))))) rfl rfl (zs_szleE (w := 240) e306 (zs_eqE e305 (zs_eqE e303 (zs_eqE e302 (zs_eqE e301 (zs_eqE e300 k299))))) rfl rfl (zs_szleE (w := 240) e305 (zs_eqE e303 (zs_eqE e302 (zs_eqE e301 (zs_eqE e300 k299)))) rfl rfl (zs_szleE (w := 240) e303 (zs_eqE e302 (zs_eqE e301 (zs_eqE e300 k299))) rfl rfl (zs_szleE (w := 240) e302 (zs_eqE e301 (zs_eqE e300 k299)) rfl rfl (zs_szleE (w := 240) e301 (zs_eqE e300 k299) rfl rfl (zs_szleE (w := 240) e300 k299 rfl rfl (zs_szleE (w := 240) e297 (zs_eqE e296 (zs_eqE e295 (zs_eqE e294 (zs_eqE e292 (zs_eqE e291 (zs_eqE e290 k289)))))) rfl rfl (zs_szleE (w := 240) e296 (zs_eqE e295 (zs_eqE e294 (zs_eqE e292 (zs_eqE e291 (zs_eqE e290 k289))))) rfl rfl (zs_szleE (w := 240) e295 (zs_eqE e294 (zs_eqE e292 (zs_eqE e291 (zs_eqE e290 k289)))) rfl rfl (zs_szleE (w := 240) e294 (zs_eqE e292 (zs_eqE e291 (zs_eqE e290 k289))) rfl rfl (zs_szleE (w := 240) e292 (zs_eqE e291 (zs_eqE e290 k289)) rfl rfl (zs_szleE (w := 240) e291 (zs_eqE e290 k289) rfl rfl (zs_szleE (w := 240) e290 k289 rfl rfl (zs_szleE (w := 4) e288 k287 rfl rfl (zs_szleE (w := 4) e285 (zs_neE e280 ((K 56 (by decide) (by decide)).trans (zp_i F 34 rfl)) (by decide)) rfl rfl (zs_szleE (w := 109) e280 ((K 55 (by decide) (by decide)).trans (zp_o F 10 rfl)) rfl rfl KS))))))))))))))))))))))))))))))))))))))))))))))))))))))))))))))) (by decide)⟩
                            first | (simp [zf_42, hz, hc282, hc283, hc284]; done) | (simp [zf_42, hz, hc282, hc283, hc284]; unfold zw; decide)
            · skip
              refine zy_n 1 (mr := zm_m181) (pc' := 39) (ls' := [(0, .ref 55), (1, .int 3), (2, .int a2), (3, .int a3)]) (st' := [.int (-3)]) rfl rfl ?_
              as_aux_lemma =>
                refine zy_r (mr := zm_m181) rfl rfl rfl ?_
                refine ⟨⟨_, rfl, ?_⟩, Nat.le_trans (zs_lleE e280 KL) (by decide), Nat.le_trans (zs_szleE (w := 109) e280 ((K 55 (by decide) (by decide)).trans (zp_o F 10 rfl)) rfl rfl KS) (by decide)⟩
                first | (simp [zf_42, hz, hc282, hc283, hc284]; done) | (simp [zf_42, hz, hc282, hc283, hc284]; unfold zw; decide)
          · skip
            refine zy_n 1 (mr := zm_m181) (pc' := 32) (ls' := [(0, .ref 55), (1, .int 3), (2, .int a2), (3, .int a3)]) (st' := [.int (-2)]) rfl rfl ?_
            refine zy_r (mr := zm_m181) rfl rfl rfl ?_
            refine ⟨⟨_, rfl, ?_⟩, Nat.le_trans (zs_lleE e280 KL) (by decide), Nat.le_trans (zs_szleE (w := 109) e280 ((K 55 (by decide) (by decide)).trans (zp_o F 10 rfl)) rfl rfl KS) (by decide)⟩
            first | (simp [zf_42, hz, hc282, hc283]; done) | (simp [zf_42, hz, hc282, hc283]; unfold zw; decide)
        · skip
          refine zy_b (q := (30, [])) (mr := zm_m181) rfl rfl rfl ?_
          refine zy_n 1 (mr := zm_m181) (pc' := 32) (ls' := [(0, .ref 55), (1, .int 3), (2, .int a2), (3, .int a3)]) (st' := [.int (-2)]) rfl rfl ?_
          refine zy_r (mr := zm_m181) rfl rfl rfl ?_
          refine ⟨⟨_, rfl, ?_⟩, Nat.le_trans (zs_lleE e280 KL) (by decide), Nat.le_trans (zs_szleE (w := 109) e280 ((K 55 (by decide) (by decide)).trans (zp_o F 10 rfl)) rfl rfl KS) (by decide)⟩
          first | (simp [zf_42, hz, hc282]; done) | (simp [zf_42, hz, hc282]; unfold zw; decide)
  · skip
    refine zy_n 2 (mr := zm_m181) (pc' := 2) (ls' := [(0, .ref 55), (1, .int a1), (2, .int a2), (3, .int a3)]) (st' := [.int 0, .ref 55]) rfl rfl ?_
    refine zy_hS (x := .inr (11, [.int 0, .ref 56, .ref 57, .ref 58, .ref 59, .int 0, .int 0, .int 0, .int 0, .int 0, .int 0, .int 20, .int 30, .int 5, .int 2, .ref 60, .ref 61, .ref 62, .ref 63, .ref 64, .ref 65, .ref 66, .ref 67, .ref 68, .ref 69, .ref 70, .ref 71, .ref 72, .ref 73, .ref 74, .ref 75, .ref 76, .ref 77, .ref 78, .ref 79, .ref 80, .ref 81, .ref 82, .ref 83, .ref 84, .ref 85, .ref 86, .ref 87, .ref 88, .ref 89, .ref 90, .ref 91, .ref 92, .ref 93, .ref 94, .int 0, .int (-1), .ref 95, .ref 96, .ref 97, .ref 98, .int 0, .int 0, .int 0, .int 0, .int 0, .int 0, .int 0, .int 0, .int 0, .int 0, .int 0, .int 0, .int 0, .long 0, .int 0, .int 0, .int 0, .long 0, .long 0, .long 0, .long 0, .int 0, .int 0, .int 0, .int 0, .ref 99, .int 0, .int 0, .int 0, .ref 100, .ref 101, .ref 102, .ref 103, .ref 104, .ref 105, .ref 106, .ref 107, .ref 108, .ref 109, .ref 110, .ref 111, .ref 112, .ref 113, .ref 114, .int 0, .int 0, .int 0, .long 0, .long 0, .int 0, .ref 115, .ref 116, .int 0])) (mr := zm_m181) rfl rfl (zh_put ((K 55 (by decide) (by decide)).trans (zp_o F 10 rfl)) rfl rfl) (fun he373 e373 => ?_)
    refine zy_n 1 (mr := zm_m181) (pc' := 6) (ls' := [(0, .ref 55), (1, .int a1), (2, .int a2), (3, .int a3)]) (st' := [.int a1]) rfl rfl ?_
    refine zy_c (mc := zm_m182) (mr := zm_m181) rfl rfl rfl rfl rfl ?_
    refine zy_n 4 (mr := zm_m182) (pc' := 6) (ls' := [(0, .int a1)]) (st' := [.long 3, .long 0, .long a1.toInt64]) rfl rfl ?_
    refine zy_c (mc := zm_m183) (mr := zm_m182) rfl rfl rfl rfl rfl (zm_Y.mono (zk_in a1 0 3 rfl (by decide) (by decide)) ?_)
    rintro r h1 ⟨rfl, ⟨rfl, hc374⟩ | ⟨rfl, hc374⟩⟩
    · exact absurd hc374 hz
    refine zy_r (mr := zm_m182) rfl rfl rfl ?_
    refine zy_b (q := (30, [])) (mr := zm_m181) rfl rfl rfl ?_
    refine zy_n 1 (mr := zm_m181) (pc' := 32) (ls' := [(0, .ref 55), (1, .int a1), (2, .int a2), (3, .int a3)]) (st' := [.int (-2)]) rfl rfl ?_
    refine zy_r (mr := zm_m181) rfl rfl rfl ?_
    refine ⟨⟨_, rfl, ?_⟩, Nat.le_trans (zs_lleE e373 KL) (by decide), Nat.le_trans (zs_szleE (w := 109) e373 ((K 55 (by decide) (by decide)).trans (zp_o F 10 rfl)) rfl rfl KS) (by decide)⟩
    first | (simp [zf_42, hz]; done) | (simp [zf_42, hz]; unfold zw; decide)
