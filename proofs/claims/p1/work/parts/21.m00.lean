set_option maxHeartbeats 4000000 in
set_option maxRecDepth 20000 in
theorem zn_0 {og : Nat → Option zm_C} {h h0 : zm_H} (F : zp_ck h = true) (K : ∀ k : Nat, 55 ≤ k → k < 117 → h0[k]? = h[k]?) (KL : h0.length ≤ 200) (KS : zm_szs h0 ≤ 90000) (a1 : Int32) (a2 : Int32) (a3 : Int32) : zm_Y og 30 188 0 [(0, .ref 55), (1, .int a1), (2, .int a2), (3, .int a3)] [] h0 (fun r h1 => (∃ v, r = some (.int v) ∧ zf_0 a1 a2 a3 v) ∧ h1.length ≤ 300 ∧ zm_szs h1 ≤ 200000) := by
  refine zy_n 2 (mr := zm_m188) (pc' := 2) (ls' := [(0, .ref 55), (1, .int a1), (2, .int a2), (3, .int a3)]) (st' := [.int 0, .ref 55]) rfl rfl ?_
  refine zy_hS (x := .inr (11, [.int 0, .ref 56, .ref 57, .ref 58, .ref 59, .int 0, .int 0, .int 0, .int 0, .int 0, .int 0, .int 20, .int 30, .int 5, .int 2, .ref 60, .ref 61, .ref 62, .ref 63, .ref 64, .ref 65, .ref 66, .ref 67, .ref 68, .ref 69, .ref 70, .ref 71, .ref 72, .ref 73, .ref 74, .ref 75, .ref 76, .ref 77, .ref 78, .ref 79, .ref 80, .ref 81, .ref 82, .ref 83, .ref 84, .ref 85, .ref 86, .ref 87, .ref 88, .ref 89, .ref 90, .ref 91, .ref 92, .ref 93, .ref 94, .int 0, .int (-1), .ref 95, .ref 96, .ref 97, .ref 98, .int 0, .int 0, .int 0, .int 0, .int 0, .int 0, .int 0, .int 0, .int 0, .int 0, .int 0, .int 0, .int 0, .long 0, .int 0, .int 0, .int 0, .long 0, .long 0, .long 0, .long 0, .int 0, .int 0, .int 0, .int 0, .ref 99, .int 0, .int 0, .int 0, .ref 100, .ref 101, .ref 102, .ref 103, .ref 104, .ref 105, .ref 106, .ref 107, .ref 108, .ref 109, .ref 110, .ref 111, .ref 112, .ref 113, .ref 114, .int 0, .int 0, .int 0, .long 0, .long 0, .int 0, .ref 115, .ref 116, .int 0])) (mr := zm_m188) rfl rfl (zh_put ((K 55 (by decide) (by decide)).trans (zp_o F 10 rfl)) rfl rfl) (fun he1 e1 => ?_)
  refine zy_n 4 (mr := zm_m188) (pc' := 11) (ls' := [(0, .ref 55), (1, .int a1), (2, .int a2), (3, .int a3)]) (st' := [.long 3, .long 0, .long a1.toInt64]) rfl rfl ?_
  refine zy_c (mc := zm_m183) (mr := zm_m188) rfl rfl rfl rfl rfl (zm_Y.mono (zk_in a1 0 3 rfl (by decide) (by decide)) ?_)
  rintro r h1 ⟨rfl, ⟨rfl, hc2⟩ | ⟨rfl, hc2⟩⟩
  · skip
    refine zy_b (q := (17, [])) (mr := zm_m188) rfl rfl rfl ?_
    refine zy_n 4 (mr := zm_m188) (pc' := 23) (ls' := [(0, .ref 55), (1, .int a1), (2, .int a2), (3, .int a3)]) (st' := [.long 50, .long 0, .long a2.toInt64]) rfl rfl ?_
    refine zy_c (mc := zm_m183) (mr := zm_m188) rfl rfl rfl rfl rfl (zm_Y.mono (zk_in a2 0 50 rfl (by decide) (by decide)) ?_)
    rintro r h1 ⟨rfl, ⟨rfl, hc3⟩ | ⟨rfl, hc3⟩⟩
    · skip
      refine zy_b (q := (29, [])) (mr := zm_m188) rfl rfl rfl ?_
      refine zy_n 4 (mr := zm_m188) (pc' := 35) (ls' := [(0, .ref 55), (1, .int a1), (2, .int a2), (3, .int a3)]) (st' := [.long 200, .long 0, .long a3.toInt64]) rfl rfl ?_
      refine zy_c (mc := zm_m183) (mr := zm_m188) rfl rfl rfl rfl rfl (zm_Y.mono (zk_in a3 0 200 rfl (by decide) (by decide)) ?_)
      rintro r h1 ⟨rfl, ⟨rfl, hc4⟩ | ⟨rfl, hc4⟩⟩
      · skip
        refine zy_b (q := (44, [])) (mr := zm_m188) rfl rfl rfl ?_
        refine zy_n 1 (mr := zm_m188) (pc' := 45) (ls' := [(0, .ref 55), (1, .int a1), (2, .int a2), (3, .int a3)]) (st' := [.ref 55]) rfl rfl ?_
        refine zy_h (mr := zm_m188) rfl rfl (zh_get (v := .ref 60) (zs_eqE e1 ((K 55 (by decide) (by decide)).trans (zp_o F 10 rfl))) rfl) ?_
        refine zy_n 2 (mr := zm_m188) (pc' := 50) (ls' := [(0, .ref 55), (1, .int a1), (2, .int a2), (3, .int a3)]) (st' := [.int a2, .int a1, .ref 60]) rfl rfl ?_
        refine zy_hS (x := _) (mr := zm_m188) rfl rfl (zh_iast (zs_neE e1 ((K 60 (by decide) (by decide)).trans (zp_i F 36 rfl)) (by decide)) (zl_in hc2 (by decide) (by decide))) (fun he5 e5 => ?_)
        refine zy_n 1 (mr := zm_m188) (pc' := 52) (ls' := [(0, .ref 55), (1, .int a1), (2, .int a2), (3, .int a3)]) (st' := [.ref 55]) rfl rfl ?_
        have k6 := (zs_neE e5 (zs_eqE e1 ((K 55 (by decide) (by decide)).trans (zp_o F 10 rfl))) (by decide))
        refine zy_h (mr := zm_m188) rfl rfl (zh_get (v := .ref 61) k6 rfl) ?_
        refine zy_n 2 (mr := zm_m188) (pc' := 57) (ls' := [(0, .ref 55), (1, .int a1), (2, .int a2), (3, .int a3)]) (st' := [.int a3, .int a1, .ref 61]) rfl rfl ?_
        have k8 := (zs_neE e5 (zs_neE e1 ((K 61 (by decide) (by decide)).trans (zp_i F 37 rfl)) (by decide)) (by decide))
        refine zy_hS (x := _) (mr := zm_m188) rfl rfl (zh_iast k8 (zl_in hc2 (by decide) (by decide))) (fun he7 e7 => ?_)
        refine zy_n 2 (mr := zm_m188) (pc' := 60) (ls' := [(0, .ref 55), (1, .int a1), (2, .int a2), (3, .int a3)]) (st' := [.int 0, .ref 55]) rfl rfl ?_
        refine zy_hS (x := .inr (11, [.int 0, .ref 56, .ref 57, .ref 58, .ref 59, .int 0, .int 0, .int 0, .int 0, .int 0, .int 0, .int 20, .int 30, .int 5, .int 2, .ref 60, .ref 61, .ref 62, .ref 63, .ref 64, .ref 65, .ref 66, .ref 67, .ref 68, .ref 69, .ref 70, .ref 71, .ref 72, .ref 73, .ref 74, .ref 75, .ref 76, .ref 77, .ref 78, .ref 79, .ref 80, .ref 81, .ref 82, .ref 83, .ref 84, .ref 85, .ref 86, .ref 87, .ref 88, .ref 89, .ref 90, .ref 91, .ref 92, .ref 93, .ref 94, .int 0, .int (-1), .ref 95, .ref 96, .ref 97, .ref 98, .int 0, .int 0, .int 0, .int 0, .int 0, .int 0, .int 0, .int 0, .int 0, .int 0, .int 0, .int 0, .int 0, .long 0, .int 0, .int 0, .int 0, .long 0, .long 0, .long 0, .long 0, .int 0, .int 0, .int 0, .int 0, .ref 99, .int 0, .int 0, .int 0, .ref 100, .ref 101, .ref 102, .ref 103, .ref 104, .ref 105, .ref 106, .ref 107, .ref 108, .ref 109, .ref 110, .ref 111, .ref 112, .ref 113, .ref 114, .int 0, .int 0, .int 0, .long 0, .long 0, .int 0, .ref 115, .ref 116, .int 0])) (mr := zm_m188) rfl rfl (zh_put (zs_neE e7 k6 (by decide)) rfl (by decide)) (fun he9 e9 => ?_)
        refine zy_n 1 (mr := zm_m188) (pc' := 64) (ls' := [(0, .ref 55), (1, .int a1), (2, .int a2), (3, .int a3)]) (st' := [.int 0]) rfl rfl ?_
        refine zy_r (mr := zm_m188) rfl rfl rfl ?_
        refine ⟨⟨_, rfl, ?_⟩, Nat.le_trans (zs_lleE e9 (zs_lleE e7 (zs_lleE e5 (zs_lleE e1 KL)))) (by decide), Nat.le_trans (zs_szleE (w := 109) e9 (zs_neE e7 k6 (by decide)) rfl rfl (zs_szleE (w := 4) e7 k8 rfl rfl (zs_szleE (w := 4) e5 (zs_neE e1 ((K 60 (by decide) (by decide)).trans (zp_i F 36 rfl)) (by decide)) rfl rfl (zs_szleE (w := 109) e1 ((K 55 (by decide) (by decide)).trans (zp_o F 10 rfl)) rfl rfl KS)))) (by decide)⟩
        first | (simp [zf_0, hc2, hc3, hc4]; done) | (simp [zf_0, hc2, hc3, hc4]; unfold zw; decide)
      · skip
        refine zy_b (q := (41, [])) (mr := zm_m188) rfl rfl rfl ?_
        refine zy_n 1 (mr := zm_m188) (pc' := 43) (ls' := [(0, .ref 55), (1, .int a1), (2, .int a2), (3, .int a3)]) (st' := [.int (-2)]) rfl rfl ?_
        refine zy_r (mr := zm_m188) rfl rfl rfl ?_
        refine ⟨⟨_, rfl, ?_⟩, Nat.le_trans (zs_lleE e1 KL) (by decide), Nat.le_trans (zs_szleE (w := 109) e1 ((K 55 (by decide) (by decide)).trans (zp_o F 10 rfl)) rfl rfl KS) (by decide)⟩
        first | (simp [zf_0, hc2, hc3, hc4]; done) | (simp [zf_0, hc2, hc3, hc4]; unfold zw; decide)
    · skip
      refine zy_b (q := (41, [])) (mr := zm_m188) rfl rfl rfl ?_
      refine zy_n 1 (mr := zm_m188) (pc' := 43) (ls' := [(0, .ref 55), (1, .int a1), (2, .int a2), (3, .int a3)]) (st' := [.int (-2)]) rfl rfl ?_
      refine zy_r (mr := zm_m188) rfl rfl rfl ?_
      refine ⟨⟨_, rfl, ?_⟩, Nat.le_trans (zs_lleE e1 KL) (by decide), Nat.le_trans (zs_szleE (w := 109) e1 ((K 55 (by decide) (by decide)).trans (zp_o F 10 rfl)) rfl rfl KS) (by decide)⟩
      first | (simp [zf_0, hc2, hc3]; done) | (simp [zf_0, hc2, hc3]; unfold zw; decide)
  · skip
    refine zy_b (q := (41, [])) (mr := zm_m188) rfl rfl rfl ?_
    refine zy_n 1 (mr := zm_m188) (pc' := 43) (ls' := [(0, .ref 55), (1, .int a1), (2, .int a2), (3, .int a3)]) (st' := [.int (-2)]) rfl rfl ?_
    refine zy_r (mr := zm_m188) rfl rfl rfl ?_
    refine ⟨⟨_, rfl, ?_⟩, Nat.le_trans (zs_lleE e1 KL) (by decide), Nat.le_trans (zs_szleE (w := 109) e1 ((K 55 (by decide) (by decide)).trans (zp_o F 10 rfl)) rfl rfl KS) (by decide)⟩
    first | (simp [zf_0, hc2]; done) | (simp [zf_0, hc2]; unfold zw; decide)
set_option maxHeartbeats 4000000 in
set_option maxRecDepth 20000 in
theorem zn_1 {og : Nat → Option zm_C} {h h0 : zm_H} (F : zp_ck h = true) (K : ∀ k : Nat, 55 ≤ k → k < 117 → h0[k]? = h[k]?) (KL : h0.length ≤ 200) (KS : zm_szs h0 ≤ 90000) (a1 : Int32) (a2 : Int32) (a3 : Int32) (a4 : Int32) : zm_Y og 30 189 0 [(0, .ref 55), (1, .int a1), (2, .int a2), (3, .int a3), (4, .int a4)] [] h0 (fun r h1 => (∃ v, r = some (.int v) ∧ zf_1 a1 a2 a3 a4 v) ∧ h1.length ≤ 300 ∧ zm_szs h1 ≤ 200000) := by
  refine zy_n 2 (mr := zm_m189) (pc' := 2) (ls' := [(0, .ref 55), (1, .int a1), (2, .int a2), (3, .int a3), (4, .int a4)]) (st' := [.int 0, .ref 55]) rfl rfl ?_
  refine zy_hS (x := .inr (11, [.int 0, .ref 56, .ref 57, .ref 58, .ref 59, .int 0, .int 0, .int 0, .int 0, .int 0, .int 0, .int 20, .int 30, .int 5, .int 2, .ref 60, .ref 61, .ref 62, .ref 63, .ref 64, .ref 65, .ref 66, .ref 67, .ref 68, .ref 69, .ref 70, .ref 71, .ref 72, .ref 73, .ref 74, .ref 75, .ref 76, .ref 77, .ref 78, .ref 79, .ref 80, .ref 81, .ref 82, .ref 83, .ref 84, .ref 85, .ref 86, .ref 87, .ref 88, .ref 89, .ref 90, .ref 91, .ref 92, .ref 93, .ref 94, .int 0, .int (-1), .ref 95, .ref 96, .ref 97, .ref 98, .int 0, .int 0, .int 0, .int 0, .int 0, .int 0, .int 0, .int 0, .int 0, .int 0, .int 0, .int 0, .int 0, .long 0, .int 0, .int 0, .int 0, .long 0, .long 0, .long 0, .long 0, .int 0, .int 0, .int 0, .int 0, .ref 99, .int 0, .int 0, .int 0, .ref 100, .ref 101, .ref 102, .ref 103, .ref 104, .ref 105, .ref 106, .ref 107, .ref 108, .ref 109, .ref 110, .ref 111, .ref 112, .ref 113, .ref 114, .int 0, .int 0, .int 0, .long 0, .long 0, .int 0, .ref 115, .ref 116, .int 0])) (mr := zm_m189) rfl rfl (zh_put ((K 55 (by decide) (by decide)).trans (zp_o F 10 rfl)) rfl rfl) (fun he1 e1 => ?_)
  refine zy_n 4 (mr := zm_m189) (pc' := 11) (ls' := [(0, .ref 55), (1, .int a1), (2, .int a2), (3, .int a3), (4, .int a4)]) (st' := [.long 1000, .long 0, .long a1.toInt64]) rfl rfl ?_
  refine zy_c (mc := zm_m183) (mr := zm_m189) rfl rfl rfl rfl rfl (zm_Y.mono (zk_in a1 0 1000 rfl (by decide) (by decide)) ?_)
  rintro r h1 ⟨rfl, ⟨rfl, hc2⟩ | ⟨rfl, hc2⟩⟩
  · skip
    refine zy_b (q := (17, [])) (mr := zm_m189) rfl rfl rfl ?_
    refine zy_n 4 (mr := zm_m189) (pc' := 23) (ls' := [(0, .ref 55), (1, .int a1), (2, .int a2), (3, .int a3), (4, .int a4)]) (st' := [.long 1000, .long 0, .long a2.toInt64]) rfl rfl ?_
    refine zy_c (mc := zm_m183) (mr := zm_m189) rfl rfl rfl rfl rfl (zm_Y.mono (zk_in a2 0 1000 rfl (by decide) (by decide)) ?_)
    rintro r h1 ⟨rfl, ⟨rfl, hc3⟩ | ⟨rfl, hc3⟩⟩
    · skip
      refine zy_b (q := (29, [])) (mr := zm_m189) rfl rfl rfl ?_
      refine zy_n 4 (mr := zm_m189) (pc' := 35) (ls' := [(0, .ref 55), (1, .int a1), (2, .int a2), (3, .int a3), (4, .int a4)]) (st' := [.long 60, .long 0, .long a3.toInt64]) rfl rfl ?_
      refine zy_c (mc := zm_m183) (mr := zm_m189) rfl rfl rfl rfl rfl (zm_Y.mono (zk_in a3 0 60 rfl (by decide) (by decide)) ?_)
      rintro r h1 ⟨rfl, ⟨rfl, hc4⟩ | ⟨rfl, hc4⟩⟩
      · skip
        refine zy_b (q := (41, [])) (mr := zm_m189) rfl rfl rfl ?_
        refine zy_n 4 (mr := zm_m189) (pc' := 48) (ls' := [(0, .ref 55), (1, .int a1), (2, .int a2), (3, .int a3), (4, .int a4)]) (st' := [.long 20, .long 0, .long a4.toInt64]) rfl rfl ?_
        refine zy_c (mc := zm_m183) (mr := zm_m189) rfl rfl rfl rfl rfl (zm_Y.mono (zk_in a4 0 20 rfl (by decide) (by decide)) ?_)
        rintro r h1 ⟨rfl, ⟨rfl, hc5⟩ | ⟨rfl, hc5⟩⟩
        · skip
          refine zy_b (q := (57, [])) (mr := zm_m189) rfl rfl rfl ?_
          refine zy_n 2 (mr := zm_m189) (pc' := 59) (ls' := [(0, .ref 55), (1, .int a1), (2, .int a2), (3, .int a3), (4, .int a4)]) (st' := [.int a1, .ref 55]) rfl rfl ?_
          refine zy_hS (x := .inr (11, [.int 0, .ref 56, .ref 57, .ref 58, .ref 59, .int 0, .int 0, .int 0, .int 0, .int 0, .int 0, .int a1, .int 30, .int 5, .int 2, .ref 60, .ref 61, .ref 62, .ref 63, .ref 64, .ref 65, .ref 66, .ref 67, .ref 68, .ref 69, .ref 70, .ref 71, .ref 72, .ref 73, .ref 74, .ref 75, .ref 76, .ref 77, .ref 78, .ref 79, .ref 80, .ref 81, .ref 82, .ref 83, .ref 84, .ref 85, .ref 86, .ref 87, .ref 88, .ref 89, .ref 90, .ref 91, .ref 92, .ref 93, .ref 94, .int 0, .int (-1), .ref 95, .ref 96, .ref 97, .ref 98, .int 0, .int 0, .int 0, .int 0, .int 0, .int 0, .int 0, .int 0, .int 0, .int 0, .int 0, .int 0, .int 0, .long 0, .int 0, .int 0, .int 0, .long 0, .long 0, .long 0, .long 0, .int 0, .int 0, .int 0, .int 0, .ref 99, .int 0, .int 0, .int 0, .ref 100, .ref 101, .ref 102, .ref 103, .ref 104, .ref 105, .ref 106, .ref 107, .ref 108, .ref 109, .ref 110, .ref 111, .ref 112, .ref 113, .ref 114, .int 0, .int 0, .int 0, .long 0, .long 0, .int 0, .ref 115, .ref 116, .int 0])) (mr := zm_m189) rfl rfl (zh_put (zs_eqE e1 ((K 55 (by decide) (by decide)).trans (zp_o F 10 rfl))) rfl rfl) (fun he6 e6 => ?_)
          refine zy_n 2 (mr := zm_m189) (pc' := 64) (ls' := [(0, .ref 55), (1, .int a1), (2, .int a2), (3, .int a3), (4, .int a4)]) (st' := [.int a2, .ref 55]) rfl rfl ?_
          refine zy_hS (x := .inr (11, [.int 0, .ref 56, .ref 57, .ref 58, .ref 59, .int 0, .int 0, .int 0, .int 0, .int 0, .int 0, .int a1, .int a2, .int 5, .int 2, .ref 60, .ref 61, .ref 62, .ref 63, .ref 64, .ref 65, .ref 66, .ref 67, .ref 68, .ref 69, .ref 70, .ref 71, .ref 72, .ref 73, .ref 74, .ref 75, .ref 76, .ref 77, .ref 78, .ref 79, .ref 80, .ref 81, .ref 82, .ref 83, .ref 84, .ref 85, .ref 86, .ref 87, .ref 88, .ref 89, .ref 90, .ref 91, .ref 92, .ref 93, .ref 94, .int 0, .int (-1), .ref 95, .ref 96, .ref 97, .ref 98, .int 0, .int 0, .int 0, .int 0, .int 0, .int 0, .int 0, .int 0, .int 0, .int 0, .int 0, .int 0, .int 0, .long 0, .int 0, .int 0, .int 0, .long 0, .long 0, .long 0, .long 0, .int 0, .int 0, .int 0, .int 0, .ref 99, .int 0, .int 0, .int 0, .ref 100, .ref 101, .ref 102, .ref 103, .ref 104, .ref 105, .ref 106, .ref 107, .ref 108, .ref 109, .ref 110, .ref 111, .ref 112, .ref 113, .ref 114, .int 0, .int 0, .int 0, .long 0, .long 0, .int 0, .ref 115, .ref 116, .int 0])) (mr := zm_m189) rfl rfl (zh_put (zs_eqE e6 (zs_eqE e1 ((K 55 (by decide) (by decide)).trans (zp_o F 10 rfl)))) rfl rfl) (fun he7 e7 => ?_)
          refine zy_n 2 (mr := zm_m189) (pc' := 69) (ls' := [(0, .ref 55), (1, .int a1), (2, .int a2), (3, .int a3), (4, .int a4)]) (st' := [.int a3, .ref 55]) rfl rfl ?_
          have k8 := (zs_eqE e7 (zs_eqE e6 (zs_eqE e1 ((K 55 (by decide) (by decide)).trans (zp_o F 10 rfl)))))
          refine zy_hS (x := .inr (11, [.int 0, .ref 56, .ref 57, .ref 58, .ref 59, .int 0, .int 0, .int 0, .int 0, .int 0, .int 0, .int a1, .int a2, .int a3, .int 2, .ref 60, .ref 61, .ref 62, .ref 63, .ref 64, .ref 65, .ref 66, .ref 67, .ref 68, .ref 69, .ref 70, .ref 71, .ref 72, .ref 73, .ref 74, .ref 75, .ref 76, .ref 77, .ref 78, .ref 79, .ref 80, .ref 81, .ref 82, .ref 83, .ref 84, .ref 85, .ref 86, .ref 87, .ref 88, .ref 89, .ref 90, .ref 91, .ref 92, .ref 93, .ref 94, .int 0, .int (-1), .ref 95, .ref 96, .ref 97, .ref 98, .int 0, .int 0, .int 0, .int 0, .int 0, .int 0, .int 0, .int 0, .int 0, .int 0, .int 0, .int 0, .int 0, .long 0, .int 0, .int 0, .int 0, .long 0, .long 0, .long 0, .long 0, .int 0, .int 0, .int 0, .int 0, .ref 99, .int 0, .int 0, .int 0, .ref 100, .ref 101, .ref 102, .ref 103, .ref 104, .ref 105, .ref 106, .ref 107, .ref 108, .ref 109, .ref 110, .ref 111, .ref 112, .ref 113, .ref 114, .int 0, .int 0, .int 0, .long 0, .long 0, .int 0, .ref 115, .ref 116, .int 0])) (mr := zm_m189) rfl rfl (zh_put k8 rfl rfl) (fun he9 e9 => ?_)
          refine zy_n 2 (mr := zm_m189) (pc' := 75) (ls' := [(0, .ref 55), (1, .int a1), (2, .int a2), (3, .int a3), (4, .int a4)]) (st' := [.int a4, .ref 55]) rfl rfl ?_
          have k10 := (zs_eqE e9 (zs_eqE e7 (zs_eqE e6 (zs_eqE e1 ((K 55 (by decide) (by decide)).trans (zp_o F 10 rfl))))))
          refine zy_hS (x := .inr (11, [.int 0, .ref 56, .ref 57, .ref 58, .ref 59, .int 0, .int 0, .int 0, .int 0, .int 0, .int 0, .int a1, .int a2, .int a3, .int a4, .ref 60, .ref 61, .ref 62, .ref 63, .ref 64, .ref 65, .ref 66, .ref 67, .ref 68, .ref 69, .ref 70, .ref 71, .ref 72, .ref 73, .ref 74, .ref 75, .ref 76, .ref 77, .ref 78, .ref 79, .ref 80, .ref 81, .ref 82, .ref 83, .ref 84, .ref 85, .ref 86, .ref 87, .ref 88, .ref 89, .ref 90, .ref 91, .ref 92, .ref 93, .ref 94, .int 0, .int (-1), .ref 95, .ref 96, .ref 97, .ref 98, .int 0, .int 0, .int 0, .int 0, .int 0, .int 0, .int 0, .int 0, .int 0, .int 0, .int 0, .int 0, .int 0, .long 0, .int 0, .int 0, .int 0, .long 0, .long 0, .long 0, .long 0, .int 0, .int 0, .int 0, .int 0, .ref 99, .int 0, .int 0, .int 0, .ref 100, .ref 101, .ref 102, .ref 103, .ref 104, .ref 105, .ref 106, .ref 107, .ref 108, .ref 109, .ref 110, .ref 111, .ref 112, .ref 113, .ref 114, .int 0, .int 0, .int 0, .long 0, .long 0, .int 0, .ref 115, .ref 116, .int 0])) (mr := zm_m189) rfl rfl (zh_put k10 rfl rfl) (fun he11 e11 => ?_)
          refine zy_n 2 (mr := zm_m189) (pc' := 80) (ls' := [(0, .ref 55), (1, .int a1), (2, .int a2), (3, .int a3), (4, .int a4)]) (st' := [.int 0, .ref 55]) rfl rfl ?_
          have k12 := (zs_eqE e11 (zs_eqE e9 (zs_eqE e7 (zs_eqE e6 (zs_eqE e1 ((K 55 (by decide) (by decide)).trans (zp_o F 10 rfl)))))))
          refine zy_hS (x := .inr (11, [.int 0, .ref 56, .ref 57, .ref 58, .ref 59, .int 0, .int 0, .int 0, .int 0, .int 0, .int 0, .int a1, .int a2, .int a3, .int a4, .ref 60, .ref 61, .ref 62, .ref 63, .ref 64, .ref 65, .ref 66, .ref 67, .ref 68, .ref 69, .ref 70, .ref 71, .ref 72, .ref 73, .ref 74, .ref 75, .ref 76, .ref 77, .ref 78, .ref 79, .ref 80, .ref 81, .ref 82, .ref 83, .ref 84, .ref 85, .ref 86, .ref 87, .ref 88, .ref 89, .ref 90, .ref 91, .ref 92, .ref 93, .ref 94, .int 0, .int (-1), .ref 95, .ref 96, .ref 97, .ref 98, .int 0, .int 0, .int 0, .int 0, .int 0, .int 0, .int 0, .int 0, .int 0, .int 0, .int 0, .int 0, .int 0, .long 0, .int 0, .int 0, .int 0, .long 0, .long 0, .long 0, .long 0, .int 0, .int 0, .int 0, .int 0, .ref 99, .int 0, .int 0, .int 0, .ref 100, .ref 101, .ref 102, .ref 103, .ref 104, .ref 105, .ref 106, .ref 107, .ref 108, .ref 109, .ref 110, .ref 111, .ref 112, .ref 113, .ref 114, .int 0, .int 0, .int 0, .long 0, .long 0, .int 0, .ref 115, .ref 116, .int 0])) (mr := zm_m189) rfl rfl (zh_put k12 rfl (by decide)) (fun he13 e13 => ?_)
          refine zy_n 1 (mr := zm_m189) (pc' := 84) (ls' := [(0, .ref 55), (1, .int a1), (2, .int a2), (3, .int a3), (4, .int a4)]) (st' := [.int 0]) rfl rfl ?_
          refine zy_r (mr := zm_m189) rfl rfl rfl ?_
          refine ⟨⟨_, rfl, ?_⟩, Nat.le_trans (zs_lleE e13 (zs_lleE e11 (zs_lleE e9 (zs_lleE e7 (zs_lleE e6 (zs_lleE e1 KL)))))) (by decide), Nat.le_trans (zs_szleE (w := 109) e13 (zs_eqE e11 (zs_eqE e9 (zs_eqE e7 (zs_eqE e6 (zs_eqE e1 ((K 55 (by decide) (by decide)).trans (zp_o F 10 rfl))))))) rfl rfl (zs_szleE (w := 109) e11 (zs_eqE e9 (zs_eqE e7 (zs_eqE e6 (zs_eqE e1 ((K 55 (by decide) (by decide)).trans (zp_o F 10 rfl)))))) rfl rfl (zs_szleE (w := 109) e9 (zs_eqE e7 (zs_eqE e6 (zs_eqE e1 ((K 55 (by decide) (by decide)).trans (zp_o F 10 rfl))))) rfl rfl (zs_szleE (w := 109) e7 (zs_eqE e6 (zs_eqE e1 ((K 55 (by decide) (by decide)).trans (zp_o F 10 rfl)))) rfl rfl (zs_szleE (w := 109) e6 (zs_eqE e1 ((K 55 (by decide) (by decide)).trans (zp_o F 10 rfl))) rfl rfl (zs_szleE (w := 109) e1 ((K 55 (by decide) (by decide)).trans (zp_o F 10 rfl)) rfl rfl KS)))))) (by decide)⟩
          first | (simp [zf_1, hc2, hc3, hc4, hc5]; done) | (simp [zf_1, hc2, hc3, hc4, hc5]; unfold zw; decide)
        · skip
          refine zy_b (q := (54, [])) (mr := zm_m189) rfl rfl rfl ?_
          refine zy_n 1 (mr := zm_m189) (pc' := 56) (ls' := [(0, .ref 55), (1, .int a1), (2, .int a2), (3, .int a3), (4, .int a4)]) (st' := [.int (-2)]) rfl rfl ?_
          refine zy_r (mr := zm_m189) rfl rfl rfl ?_
          refine ⟨⟨_, rfl, ?_⟩, Nat.le_trans (zs_lleE e1 KL) (by decide), Nat.le_trans (zs_szleE (w := 109) e1 ((K 55 (by decide) (by decide)).trans (zp_o F 10 rfl)) rfl rfl KS) (by decide)⟩
          first | (simp [zf_1, hc2, hc3, hc4, hc5]; done) | (simp [zf_1, hc2, hc3, hc4, hc5]; unfold zw; decide)
      · skip
        refine zy_b (q := (54, [])) (mr := zm_m189) rfl rfl rfl ?_
        refine zy_n 1 (mr := zm_m189) (pc' := 56) (ls' := [(0, .ref 55), (1, .int a1), (2, .int a2), (3, .int a3), (4, .int a4)]) (st' := [.int (-2)]) rfl rfl ?_
        refine zy_r (mr := zm_m189) rfl rfl rfl ?_
        refine ⟨⟨_, rfl, ?_⟩, Nat.le_trans (zs_lleE e1 KL) (by decide), Nat.le_trans (zs_szleE (w := 109) e1 ((K 55 (by decide) (by decide)).trans (zp_o F 10 rfl)) rfl rfl KS) (by decide)⟩
        first | (simp [zf_1, hc2, hc3, hc4]; done) | (simp [zf_1, hc2, hc3, hc4]; unfold zw; decide)
    · skip
      as_aux_lemma =>
        refine zy_b (q := (54, [])) (mr := zm_m189) rfl rfl rfl ?_
        refine zy_n 1 (mr := zm_m189) (pc' := 56) (ls' := [(0, .ref 55), (1, .int a1), (2, .int a2), (3, .int a3), (4, .int a4)]) (st' := [.int (-2)]) rfl rfl ?_
        refine zy_r (mr := zm_m189) rfl rfl rfl ?_
        refine ⟨⟨_, rfl, ?_⟩, Nat.le_trans (zs_lleE e1 KL) (by decide), Nat.le_trans (zs_szleE (w := 109) e1 ((K 55 (by decide) (by decide)).trans (zp_o F 10 rfl)) rfl rfl KS) (by decide)⟩
        first | (simp [zf_1, hc2, hc3]; done) | (simp [zf_1, hc2, hc3]; unfold zw; decide)
  · skip
    refine zy_b (q := (54, [])) (mr := zm_m189) rfl rfl rfl ?_
    refine zy_n 1 (mr := zm_m189) (pc' := 56) (ls' := [(0, .ref 55), (1, .int a1), (2, .int a2), (3, .int a3), (4, .int a4)]) (st' := [.int (-2)]) rfl rfl ?_
    refine zy_r (mr := zm_m189) rfl rfl rfl ?_
    refine ⟨⟨_, rfl, ?_⟩, Nat.le_trans (zs_lleE e1 KL) (by decide), Nat.le_trans (zs_szleE (w := 109) e1 ((K 55 (by decide) (by decide)).trans (zp_o F 10 rfl)) rfl rfl KS) (by decide)⟩
    first | (simp [zf_1, hc2]; done) | (simp [zf_1, hc2]; unfold zw; decide)
set_option maxHeartbeats 4000000 in
set_option maxRecDepth 20000 in
theorem zn_2 {og : Nat → Option zm_C} {h h0 : zm_H} (F : zp_ck h = true) (K : ∀ k : Nat, 55 ≤ k → k < 117 → h0[k]? = h[k]?) (KL : h0.length ≤ 200) (KS : zm_szs h0 ≤ 90000) (a1 : Int32) (a2 : Int32) (a3 : Int32) (a4 : Int32) : zm_Y og 30 190 0 [(0, .ref 55), (1, .int a1), (2, .int a2), (3, .int a3), (4, .int a4)] [] h0 (fun r h1 => (∃ v, r = some (.int v) ∧ zf_2 a1 a2 a3 a4 v) ∧ h1.length ≤ 300 ∧ zm_szs h1 ≤ 200000) := by
  refine zy_n 2 (mr := zm_m190) (pc' := 2) (ls' := [(0, .ref 55), (1, .int a1), (2, .int a2), (3, .int a3), (4, .int a4)]) (st' := [.int 0, .ref 55]) rfl rfl ?_
  refine zy_hS (x := .inr (11, [.int 0, .ref 56, .ref 57, .ref 58, .ref 59, .int 0, .int 0, .int 0, .int 0, .int 0, .int 0, .int 20, .int 30, .int 5, .int 2, .ref 60, .ref 61, .ref 62, .ref 63, .ref 64, .ref 65, .ref 66, .ref 67, .ref 68, .ref 69, .ref 70, .ref 71, .ref 72, .ref 73, .ref 74, .ref 75, .ref 76, .ref 77, .ref 78, .ref 79, .ref 80, .ref 81, .ref 82, .ref 83, .ref 84, .ref 85, .ref 86, .ref 87, .ref 88, .ref 89, .ref 90, .ref 91, .ref 92, .ref 93, .ref 94, .int 0, .int (-1), .ref 95, .ref 96, .ref 97, .ref 98, .int 0, .int 0, .int 0, .int 0, .int 0, .int 0, .int 0, .int 0, .int 0, .int 0, .int 0, .int 0, .int 0, .long 0, .int 0, .int 0, .int 0, .long 0, .long 0, .long 0, .long 0, .int 0, .int 0, .int 0, .int 0, .ref 99, .int 0, .int 0, .int 0, .ref 100, .ref 101, .ref 102, .ref 103, .ref 104, .ref 105, .ref 106, .ref 107, .ref 108, .ref 109, .ref 110, .ref 111, .ref 112, .ref 113, .ref 114, .int 0, .int 0, .int 0, .long 0, .long 0, .int 0, .ref 115, .ref 116, .int 0])) (mr := zm_m190) rfl rfl (zh_put ((K 55 (by decide) (by decide)).trans (zp_o F 10 rfl)) rfl rfl) (fun he1 e1 => ?_)
  refine zy_n 4 (mr := zm_m190) (pc' := 11) (ls' := [(0, .ref 55), (1, .int a1), (2, .int a2), (3, .int a3), (4, .int a4)]) (st' := [.long 3, .long 0, .long a1.toInt64]) rfl rfl ?_
  refine zy_c (mc := zm_m183) (mr := zm_m190) rfl rfl rfl rfl rfl (zm_Y.mono (zk_in a1 0 3 rfl (by decide) (by decide)) ?_)
  rintro r h1 ⟨rfl, ⟨rfl, hc2⟩ | ⟨rfl, hc2⟩⟩
  · skip
    refine zy_b (q := (17, [])) (mr := zm_m190) rfl rfl rfl ?_
    refine zy_n 4 (mr := zm_m190) (pc' := 23) (ls' := [(0, .ref 55), (1, .int a1), (2, .int a2), (3, .int a3), (4, .int a4)]) (st' := [.long 10000, .long 0, .long a2.toInt64]) rfl rfl ?_
    refine zy_c (mc := zm_m183) (mr := zm_m190) rfl rfl rfl rfl rfl (zm_Y.mono (zk_in a2 0 10000 rfl (by decide) (by decide)) ?_)
    rintro r h1 ⟨rfl, ⟨rfl, hc3⟩ | ⟨rfl, hc3⟩⟩
    · skip
      refine zy_b (q := (29, [])) (mr := zm_m190) rfl rfl rfl ?_
      refine zy_n 4 (mr := zm_m190) (pc' := 35) (ls' := [(0, .ref 55), (1, .int a1), (2, .int a2), (3, .int a3), (4, .int a4)]) (st' := [.long 9, .long 1, .long a3.toInt64]) rfl rfl ?_
      refine zy_c (mc := zm_m183) (mr := zm_m190) rfl rfl rfl rfl rfl (zm_Y.mono (zk_in a3 1 9 rfl (by decide) (by decide)) ?_)
      rintro r h1 ⟨rfl, ⟨rfl, hc4⟩ | ⟨rfl, hc4⟩⟩
      · skip
        refine zy_b (q := (41, [])) (mr := zm_m190) rfl rfl rfl ?_
        refine zy_n 4 (mr := zm_m190) (pc' := 48) (ls' := [(0, .ref 55), (1, .int a1), (2, .int a2), (3, .int a3), (4, .int a4)]) (st' := [.long 60, .long 1, .long a4.toInt64]) rfl rfl ?_
        refine zy_c (mc := zm_m183) (mr := zm_m190) rfl rfl rfl rfl rfl (zm_Y.mono (zk_in a4 1 60 rfl (by decide) (by decide)) ?_)
        rintro r h1 ⟨rfl, ⟨rfl, hc5⟩ | ⟨rfl, hc5⟩⟩
        · skip
          refine zy_b (q := (57, [])) (mr := zm_m190) rfl rfl rfl ?_
          refine zy_n 1 (mr := zm_m190) (pc' := 58) (ls' := [(0, .ref 55), (1, .int a1), (2, .int a2), (3, .int a3), (4, .int a4)]) (st' := [.ref 55]) rfl rfl ?_
          refine zy_h (mr := zm_m190) rfl rfl (zh_get (v := .int 0) (zs_eqE e1 ((K 55 (by decide) (by decide)).trans (zp_o F 10 rfl))) rfl) ?_
          refine zy_n 1 (mr := zm_m190) (pc' := 63) (ls' := [(0, .ref 55), (1, .int a1), (2, .int a2), (3, .int a3), (4, .int a4)]) (st' := [.int 16, .int 0]) rfl rfl ?_
          refine zy_b (q := (69, [])) (mr := zm_m190) rfl rfl rfl ?_
          refine zy_n 1 (mr := zm_m190) (pc' := 70) (ls' := [(0, .ref 55), (1, .int a1), (2, .int a2), (3, .int a3), (4, .int a4)]) (st' := [.ref 55]) rfl rfl ?_
          refine zy_h (mr := zm_m190) rfl rfl (zh_get (v := .ref 62) (zs_eqE e1 ((K 55 (by decide) (by decide)).trans (zp_o F 10 rfl))) rfl) ?_
          refine zy_n 1 (mr := zm_m190) (pc' := 74) (ls' := [(0, .ref 55), (1, .int a1), (2, .int a2), (3, .int a3), (4, .int a4)]) (st' := [.ref 55, .ref 62]) rfl rfl ?_
          refine zy_h (mr := zm_m190) rfl rfl (zh_get (v := .int 0) (zs_eqE e1 ((K 55 (by decide) (by decide)).trans (zp_o F 10 rfl))) rfl) ?_
          refine zy_n 1 (mr := zm_m190) (pc' := 78) (ls' := [(0, .ref 55), (1, .int a1), (2, .int a2), (3, .int a3), (4, .int a4)]) (st' := [.int a1, .int 0, .ref 62]) rfl rfl ?_
          refine zy_hS (x := _) (mr := zm_m190) rfl rfl (zh_iast (zs_neE e1 ((K 62 (by decide) (by decide)).trans (zp_i F 38 rfl)) (by decide)) (by decide)) (fun he6 e6 => ?_)
          refine zy_n 1 (mr := zm_m190) (pc' := 80) (ls' := [(0, .ref 55), (1, .int a1), (2, .int a2), (3, .int a3), (4, .int a4)]) (st' := [.ref 55]) rfl rfl ?_
          have k7 := (zs_neE e6 (zs_eqE e1 ((K 55 (by decide) (by decide)).trans (zp_o F 10 rfl))) (by decide))
          refine zy_h (mr := zm_m190) rfl rfl (zh_get (v := .ref 63) k7 rfl) ?_
          refine zy_n 1 (mr := zm_m190) (pc' := 84) (ls' := [(0, .ref 55), (1, .int a1), (2, .int a2), (3, .int a3), (4, .int a4)]) (st' := [.ref 55, .ref 63]) rfl rfl ?_
          refine zy_h (mr := zm_m190) rfl rfl (zh_get (v := .int 0) k7 rfl) ?_
          refine zy_n 1 (mr := zm_m190) (pc' := 88) (ls' := [(0, .ref 55), (1, .int a1), (2, .int a2), (3, .int a3), (4, .int a4)]) (st' := [.int a2, .int 0, .ref 63]) rfl rfl ?_
          have k8 := (zs_neE e6 (zs_neE e1 ((K 63 (by decide) (by decide)).trans (zp_i F 39 rfl)) (by decide)) (by decide))
          refine zy_hS (x := _) (mr := zm_m190) rfl rfl (zh_iast k8 (by decide)) (fun he9 e9 => ?_)
          refine zy_n 1 (mr := zm_m190) (pc' := 90) (ls' := [(0, .ref 55), (1, .int a1), (2, .int a2), (3, .int a3), (4, .int a4)]) (st' := [.ref 55]) rfl rfl ?_
          refine zy_h (mr := zm_m190) rfl rfl (zh_get (v := .ref 64) (zs_neE e9 k7 (by decide)) rfl) ?_
          refine zy_n 1 (mr := zm_m190) (pc' := 94) (ls' := [(0, .ref 55), (1, .int a1), (2, .int a2), (3, .int a3), (4, .int a4)]) (st' := [.ref 55, .ref 64]) rfl rfl ?_
          refine zy_h (mr := zm_m190) rfl rfl (zh_get (v := .int 0) (zs_neE e9 k7 (by decide)) rfl) ?_
          refine zy_n 1 (mr := zm_m190) (pc' := 98) (ls' := [(0, .ref 55), (1, .int a1), (2, .int a2), (3, .int a3), (4, .int a4)]) (st' := [.int a3, .int 0, .ref 64]) rfl rfl ?_
          have k10 := (zs_neE e9 (zs_neE e6 (zs_neE e1 ((K 64 (by decide) (by decide)).trans (zp_i F 40 rfl)) (by decide)) (by decide)) (by decide))
          refine zy_hS (x := _) (mr := zm_m190) rfl rfl (zh_iast k10 (by decide)) (fun he11 e11 => ?_)
          refine zy_n 1 (mr := zm_m190) (pc' := 100) (ls' := [(0, .ref 55), (1, .int a1), (2, .int a2), (3, .int a3), (4, .int a4)]) (st' := [.ref 55]) rfl rfl ?_
          refine zy_h (mr := zm_m190) rfl rfl (zh_get (v := .ref 65) (zs_neE e11 (zs_neE e9 k7 (by decide)) (by decide)) rfl) ?_
          refine zy_n 1 (mr := zm_m190) (pc' := 104) (ls' := [(0, .ref 55), (1, .int a1), (2, .int a2), (3, .int a3), (4, .int a4)]) (st' := [.ref 55, .ref 65]) rfl rfl ?_
          as_aux_lemma =>
            refine zy_h (mr := zm_m190) rfl rfl (zh_get (v := .int 0) (zs_neE e11 (zs_neE e9 k7 (by decide)) (by decide)) rfl) ?_
            refine zy_n 1 (mr := zm_m190) (pc' := 109) (ls' := [(0, .ref 55), (1, .int a1), (2, .int a2), (3, .int a3), (4, .int a4)]) (st' := [.int a4, .int 0, .ref 65]) rfl rfl ?_
            have k12 := (zs_neE e11 (zs_neE e9 (zs_neE e6 (zs_neE e1 ((K 65 (by decide) (by decide)).trans (zp_i F 41 rfl)) (by decide)) (by decide)) (by decide)) (by decide))
            refine zy_hS (x := _) (mr := zm_m190) rfl rfl (zh_iast k12 (by decide)) (fun he13 e13 => ?_)
            refine zy_n 1 (mr := zm_m190) (pc' := 111) (ls' := [(0, .ref 55), (1, .int a1), (2, .int a2), (3, .int a3), (4, .int a4)]) (st' := [.ref 55]) rfl rfl ?_
            refine zy_h (mr := zm_m190) rfl rfl (zh_get (v := .ref 68) (zs_neE e13 (zs_neE e11 (zs_neE e9 k7 (by decide)) (by decide)) (by decide)) rfl) ?_
            refine zy_n 1 (mr := zm_m190) (pc' := 115) (ls' := [(0, .ref 55), (1, .int a1), (2, .int a2), (3, .int a3), (4, .int a4)]) (st' := [.ref 55, .ref 68]) rfl rfl ?_
            refine zy_h (mr := zm_m190) rfl rfl (zh_get (v := .int 0) (zs_neE e13 (zs_neE e11 (zs_neE e9 k7 (by decide)) (by decide)) (by decide)) rfl) ?_
            refine zy_n 1 (mr := zm_m190) (pc' := 119) (ls' := [(0, .ref 55), (1, .int a1), (2, .int a2), (3, .int a3), (4, .int a4)]) (st' := [.ref 55, .int 0, .ref 68]) rfl rfl ?_
            refine zy_h (mr := zm_m190) rfl rfl (zh_get (v := .int 0) (zs_neE e13 (zs_neE e11 (zs_neE e9 k7 (by decide)) (by decide)) (by decide)) rfl) ?_
            have k14 := (zs_neE e13 (zs_neE e11 (zs_neE e9 (zs_neE e6 (zs_neE e1 ((K 68 (by decide) (by decide)).trans (zp_i F 44 rfl)) (by decide)) (by decide)) (by decide)) (by decide)) (by decide))
            refine zy_hS (x := _) (mr := zm_m190) rfl rfl (zh_iast k14 (by decide)) (fun he15 e15 => ?_)
            refine zy_n 2 (mr := zm_m190) (pc' := 125) (ls' := [(0, .ref 55), (1, .int a1), (2, .int a2), (3, .int a3), (4, .int a4)]) (st' := [.ref 55, .ref 55]) rfl rfl ?_
            have k16 := (zs_neE e15 (zs_neE e13 (zs_neE e11 (zs_neE e9 k7 (by decide)) (by decide)) (by decide)) (by decide))
            refine zy_h (mr := zm_m190) rfl rfl (zh_get (v := .int 0) k16 rfl) ?_
            refine zy_n 2 (mr := zm_m190) (pc' := 130) (ls' := [(0, .ref 55), (1, .int a1), (2, .int a2), (3, .int a3), (4, .int a4)]) (st' := [.int 1, .ref 55]) rfl rfl ?_
            refine zy_hS (x := .inr (11, [.int 0, .ref 56, .ref 57, .ref 58, .ref 59, .int 0, .int 0, .int 0, .int 0, .int 0, .int 1, .int 20, .int 30, .int 5, .int 2, .ref 60, .ref 61, .ref 62, .ref 63, .ref 64, .ref 65, .ref 66, .ref 67, .ref 68, .ref 69, .ref 70, .ref 71, .ref 72, .ref 73, .ref 74, .ref 75, .ref 76, .ref 77, .ref 78, .ref 79, .ref 80, .ref 81, .ref 82, .ref 83, .ref 84, .ref 85, .ref 86, .ref 87, .ref 88, .ref 89, .ref 90, .ref 91, .ref 92, .ref 93, .ref 94, .int 0, .int (-1), .ref 95, .ref 96, .ref 97, .ref 98, .int 0, .int 0, .int 0, .int 0, .int 0, .int 0, .int 0, .int 0, .int 0, .int 0, .int 0, .int 0, .int 0, .long 0, .int 0, .int 0, .int 0, .long 0, .long 0, .long 0, .long 0, .int 0, .int 0, .int 0, .int 0, .ref 99, .int 0, .int 0, .int 0, .ref 100, .ref 101, .ref 102, .ref 103, .ref 104, .ref 105, .ref 106, .ref 107, .ref 108, .ref 109, .ref 110, .ref 111, .ref 112, .ref 113, .ref 114, .int 0, .int 0, .int 0, .long 0, .long 0, .int 0, .ref 115, .ref 116, .int 0])) (mr := zm_m190) rfl rfl (zh_put k16 rfl rfl) (fun he17 e17 => ?_)
            refine zy_n 2 (mr := zm_m190) (pc' := 135) (ls' := [(0, .ref 55), (1, .int a1), (2, .int a2), (3, .int a3), (4, .int a4)]) (st' := [.ref 55, .ref 55]) rfl rfl ?_
            refine zy_h (mr := zm_m190) rfl rfl (zh_get (v := .int 0) (zs_eqE e17 k16) rfl) ?_
            refine zy_n 2 (mr := zm_m190) (pc' := 140) (ls' := [(0, .ref 55), (1, .int a1), (2, .int a2), (3, .int a3), (4, .int a4)]) (st' := [.int 1, .ref 55]) rfl rfl ?_
            refine zy_hS (x := .inr (11, [.int 0, .ref 56, .ref 57, .ref 58, .ref 59, .int 0, .int 1, .int 0, .int 0, .int 0, .int 1, .int 20, .int 30, .int 5, .int 2, .ref 60, .ref 61, .ref 62, .ref 63, .ref 64, .ref 65, .ref 66, .ref 67, .ref 68, .ref 69, .ref 70, .ref 71, .ref 72, .ref 73, .ref 74, .ref 75, .ref 76, .ref 77, .ref 78, .ref 79, .ref 80, .ref 81, .ref 82, .ref 83, .ref 84, .ref 85, .ref 86, .ref 87, .ref 88, .ref 89, .ref 90, .ref 91, .ref 92, .ref 93, .ref 94, .int 0, .int (-1), .ref 95, .ref 96, .ref 97, .ref 98, .int 0, .int 0, .int 0, .int 0, .int 0, .int 0, .int 0, .int 0, .int 0, .int 0, .int 0, .int 0, .int 0, .long 0, .int 0, .int 0, .int 0, .long 0, .long 0, .long 0, .long 0, .int 0, .int 0, .int 0, .int 0, .ref 99, .int 0, .int 0, .int 0, .ref 100, .ref 101, .ref 102, .ref 103, .ref 104, .ref 105, .ref 106, .ref 107, .ref 108, .ref 109, .ref 110, .ref 111, .ref 112, .ref 113, .ref 114, .int 0, .int 0, .int 0, .long 0, .long 0, .int 0, .ref 115, .ref 116, .int 0])) (mr := zm_m190) rfl rfl (zh_put (zs_eqE e17 k16) rfl rfl) (fun he18 e18 => ?_)
            refine zy_n 2 (mr := zm_m190) (pc' := 145) (ls' := [(0, .ref 55), (1, .int a1), (2, .int a2), (3, .int a3), (4, .int a4)]) (st' := [.int 0, .ref 55]) rfl rfl ?_
            refine zy_hS (x := .inr (11, [.int 0, .ref 56, .ref 57, .ref 58, .ref 59, .int 0, .int 1, .int 0, .int 0, .int 0, .int 1, .int 20, .int 30, .int 5, .int 2, .ref 60, .ref 61, .ref 62, .ref 63, .ref 64, .ref 65, .ref 66, .ref 67, .ref 68, .ref 69, .ref 70, .ref 71, .ref 72, .ref 73, .ref 74, .ref 75, .ref 76, .ref 77, .ref 78, .ref 79, .ref 80, .ref 81, .ref 82, .ref 83, .ref 84, .ref 85, .ref 86, .ref 87, .ref 88, .ref 89, .ref 90, .ref 91, .ref 92, .ref 93, .ref 94, .int 0, .int (-1), .ref 95, .ref 96, .ref 97, .ref 98, .int 0, .int 0, .int 0, .int 0, .int 0, .int 0, .int 0, .int 0, .int 0, .int 0, .int 0, .int 0, .int 0, .long 0, .int 0, .int 0, .int 0, .long 0, .long 0, .long 0, .long 0, .int 0, .int 0, .int 0, .int 0, .ref 99, .int 0, .int 0, .int 0, .ref 100, .ref 101, .ref 102, .ref 103, .ref 104, .ref 105, .ref 106, .ref 107, .ref 108, .ref 109, .ref 110, .ref 111, .ref 112, .ref 113, .ref 114, .int 0, .int 0, .int 0, .long 0, .long 0, .int 0, .ref 115, .ref 116, .int 0])) (mr := zm_m190) rfl rfl (zh_put (zs_eqE e18 (zs_eqE e17 k16)) rfl (by decide)) (fun he19 e19 => ?_)
            refine zy_n 1 (mr := zm_m190) (pc' := 149) (ls' := [(0, .ref 55), (1, .int a1), (2, .int a2), (3, .int a3), (4, .int a4)]) (st' := [.ref 55]) rfl rfl ?_
            refine zy_h (mr := zm_m190) rfl rfl (zh_get (v := .int 1) (zs_eqE e19 (zs_eqE e18 (zs_eqE e17 k16))) rfl) ?_
            refine zy_n 2 (mr := zm_m190) (pc' := 154) (ls' := [(0, .ref 55), (1, .int a1), (2, .int a2), (3, .int a3), (4, .int a4)]) (st' := [.int 0]) rfl rfl ?_
            refine zy_r (mr := zm_m190) rfl rfl rfl ?_
            refine ⟨⟨_, rfl, ?_⟩, Nat.le_trans (zs_lleE e19 (zs_lleE e18 (zs_lleE e17 (zs_lleE e15 (zs_lleE e13 (zs_lleE e11 (zs_lleE e9 (zs_lleE e6 (zs_lleE e1 KL))))))))) (by decide), Nat.le_trans (zs_szleE (w := 109) e19 (zs_eqE e18 (zs_eqE e17 k16)) rfl rfl (zs_szleE (w := 109) e18 (zs_eqE e17 k16) rfl rfl (zs_szleE (w := 109) e17 k16 rfl rfl (zs_szleE (w := 16) e15 k14 rfl rfl (zs_szleE (w := 16) e13 k12 rfl rfl (zs_szleE (w := 16) e11 k10 rfl rfl (zs_szleE (w := 16) e9 k8 rfl rfl (zs_szleE (w := 16) e6 (zs_neE e1 ((K 62 (by decide) (by decide)).trans (zp_i F 38 rfl)) (by decide)) rfl rfl (zs_szleE (w := 109) e1 ((K 55 (by decide) (by decide)).trans (zp_o F 10 rfl)) rfl rfl KS))))))))) (by decide)⟩
            first | (simp [zf_2, hc2, hc3, hc4, hc5]; done) | (simp [zf_2, hc2, hc3, hc4, hc5]; unfold zw; decide)
        · skip
          refine zy_b (q := (54, [])) (mr := zm_m190) rfl rfl rfl ?_
          refine zy_n 1 (mr := zm_m190) (pc' := 56) (ls' := [(0, .ref 55), (1, .int a1), (2, .int a2), (3, .int a3), (4, .int a4)]) (st' := [.int (-2)]) rfl rfl ?_
          refine zy_r (mr := zm_m190) rfl rfl rfl ?_
          refine ⟨⟨_, rfl, ?_⟩, Nat.le_trans (zs_lleE e1 KL) (by decide), Nat.le_trans (zs_szleE (w := 109) e1 ((K 55 (by decide) (by decide)).trans (zp_o F 10 rfl)) rfl rfl KS) (by decide)⟩
          first | (simp [zf_2, hc2, hc3, hc4, hc5]; done) | (simp [zf_2, hc2, hc3, hc4, hc5]; unfold zw; decide)
      · skip
        refine zy_b (q := (54, [])) (mr := zm_m190) rfl rfl rfl ?_
        refine zy_n 1 (mr := zm_m190) (pc' := 56) (ls' := [(0, .ref 55), (1, .int a1), (2, .int a2), (3, .int a3), (4, .int a4)]) (st' := [.int (-2)]) rfl rfl ?_
        refine zy_r (mr := zm_m190) rfl rfl rfl ?_
        refine ⟨⟨_, rfl, ?_⟩, Nat.le_trans (zs_lleE e1 KL) (by decide), Nat.le_trans (zs_szleE (w := 109) e1 ((K 55 (by decide) (by decide)).trans (zp_o F 10 rfl)) rfl rfl KS) (by decide)⟩
        first | (simp [zf_2, hc2, hc3, hc4]; done) | (simp [zf_2, hc2, hc3, hc4]; unfold zw; decide)
    · skip
      refine zy_b (q := (54, [])) (mr := zm_m190) rfl rfl rfl ?_
      refine zy_n 1 (mr := zm_m190) (pc' := 56) (ls' := [(0, .ref 55), (1, .int a1), (2, .int a2), (3, .int a3), (4, .int a4)]) (st' := [.int (-2)]) rfl rfl ?_
      refine zy_r (mr := zm_m190) rfl rfl rfl ?_
      refine ⟨⟨_, rfl, ?_⟩, Nat.le_trans (zs_lleE e1 KL) (by decide), Nat.le_trans (zs_szleE (w := 109) e1 ((K 55 (by decide) (by decide)).trans (zp_o F 10 rfl)) rfl rfl KS) (by decide)⟩
      first | (simp [zf_2, hc2, hc3]; done) | (simp [zf_2, hc2, hc3]; unfold zw; decide)
  · skip
    refine zy_b (q := (54, [])) (mr := zm_m190) rfl rfl rfl ?_
    refine zy_n 1 (mr := zm_m190) (pc' := 56) (ls' := [(0, .ref 55), (1, .int a1), (2, .int a2), (3, .int a3), (4, .int a4)]) (st' := [.int (-2)]) rfl rfl ?_
    refine zy_r (mr := zm_m190) rfl rfl rfl ?_
    refine ⟨⟨_, rfl, ?_⟩, Nat.le_trans (zs_lleE e1 KL) (by decide), Nat.le_trans (zs_szleE (w := 109) e1 ((K 55 (by decide) (by decide)).trans (zp_o F 10 rfl)) rfl rfl KS) (by decide)⟩
    first | (simp [zf_2, hc2]; done) | (simp [zf_2, hc2]; unfold zw; decide)
set_option maxHeartbeats 4000000 in
set_option maxRecDepth 20000 in
theorem zn_3 {og : Nat → Option zm_C} {h h0 : zm_H} (F : zp_ck h = true) (K : ∀ k : Nat, 55 ≤ k → k < 117 → h0[k]? = h[k]?) (KL : h0.length ≤ 200) (KS : zm_szs h0 ≤ 90000) (a1 : Int32) (a2 : Int32) (a3 : Int32) (a4 : Int32) : zm_Y og 30 191 0 [(0, .ref 55), (1, .int a1), (2, .int a2), (3, .int a3), (4, .int a4)] [] h0 (fun r h1 => (∃ v, r = some (.int v) ∧ zf_3 a1 a2 a3 a4 v) ∧ h1.length ≤ 300 ∧ zm_szs h1 ≤ 200000) := by
  refine zy_n 2 (mr := zm_m191) (pc' := 2) (ls' := [(0, .ref 55), (1, .int a1), (2, .int a2), (3, .int a3), (4, .int a4)]) (st' := [.int 0, .ref 55]) rfl rfl ?_
  refine zy_hS (x := .inr (11, [.int 0, .ref 56, .ref 57, .ref 58, .ref 59, .int 0, .int 0, .int 0, .int 0, .int 0, .int 0, .int 20, .int 30, .int 5, .int 2, .ref 60, .ref 61, .ref 62, .ref 63, .ref 64, .ref 65, .ref 66, .ref 67, .ref 68, .ref 69, .ref 70, .ref 71, .ref 72, .ref 73, .ref 74, .ref 75, .ref 76, .ref 77, .ref 78, .ref 79, .ref 80, .ref 81, .ref 82, .ref 83, .ref 84, .ref 85, .ref 86, .ref 87, .ref 88, .ref 89, .ref 90, .ref 91, .ref 92, .ref 93, .ref 94, .int 0, .int (-1), .ref 95, .ref 96, .ref 97, .ref 98, .int 0, .int 0, .int 0, .int 0, .int 0, .int 0, .int 0, .int 0, .int 0, .int 0, .int 0, .int 0, .int 0, .long 0, .int 0, .int 0, .int 0, .long 0, .long 0, .long 0, .long 0, .int 0, .int 0, .int 0, .int 0, .ref 99, .int 0, .int 0, .int 0, .ref 100, .ref 101, .ref 102, .ref 103, .ref 104, .ref 105, .ref 106, .ref 107, .ref 108, .ref 109, .ref 110, .ref 111, .ref 112, .ref 113, .ref 114, .int 0, .int 0, .int 0, .long 0, .long 0, .int 0, .ref 115, .ref 116, .int 0])) (mr := zm_m191) rfl rfl (zh_put ((K 55 (by decide) (by decide)).trans (zp_o F 10 rfl)) rfl rfl) (fun he1 e1 => ?_)
  refine zy_n 2 (mr := zm_m191) (pc' := 7) (ls' := [(0, .ref 55), (1, .int a1), (2, .int a2), (3, .int a3), (4, .int a4)]) (st' := [.int a1, .ref 55]) rfl rfl ?_
  refine zy_c (mc := zm_m192) (mr := zm_m191) rfl rfl (zh_v rfl (zs_eqE e1 ((K 55 (by decide) (by decide)).trans (zp_o F 10 rfl))) rfl) rfl rfl ?_
  refine zy_n 2 (mr := zm_m192) (pc' := 2) (ls' := [(0, .ref 55), (1, .int a1)]) (st' := [.int a1, .ref 55]) rfl rfl ?_
  refine zy_c (mc := zm_m193) (mr := zm_m192) rfl rfl (zh_v rfl (zs_eqE e1 ((K 55 (by decide) (by decide)).trans (zp_o F 10 rfl))) rfl) rfl rfl ?_
  refine zy_n 4 (mr := zm_m193) (pc' := 4) (ls' := [(0, .ref 55), (1, .int a1)]) (st' := [.ref 55, .long 0, .long a1.toInt64]) rfl rfl ?_
  refine zy_h (mr := zm_m193) rfl rfl (zh_get (v := .int 0) (zs_eqE e1 ((K 55 (by decide) (by decide)).trans (zp_o F 10 rfl))) rfl) ?_
  refine zy_n 3 (mr := zm_m193) (pc' := 10) (ls' := [(0, .ref 55), (1, .int a1)]) (st' := [.long (-1), .long 0, .long a1.toInt64]) rfl rfl ?_
  refine zy_c (mc := zm_m183) (mr := zm_m193) rfl rfl rfl rfl rfl (zm_Y.mono (zk_in a1 0 (-1) rfl (by decide) (by decide)) ?_)
  rintro r h1 ⟨rfl, ⟨rfl, hc2⟩ | ⟨rfl, hc2⟩⟩
  · exact absurd hc2 (zl_emp (by decide))
  refine zy_r (mr := zm_m193) rfl rfl rfl ?_
  refine zy_b (q := (21, [])) (mr := zm_m192) rfl rfl rfl ?_
  refine zy_n 1 (mr := zm_m192) (pc' := 22) (ls' := [(0, .ref 55), (1, .int a1)]) (st' := [.int 0]) rfl rfl ?_
  refine zy_r (mr := zm_m192) rfl rfl rfl ?_
  refine zy_b (q := (45, [])) (mr := zm_m191) rfl rfl rfl ?_
  refine zy_n 1 (mr := zm_m191) (pc' := 47) (ls' := [(0, .ref 55), (1, .int a1), (2, .int a2), (3, .int a3), (4, .int a4)]) (st' := [.int (-2)]) rfl rfl ?_
  refine zy_r (mr := zm_m191) rfl rfl rfl ?_
  refine ⟨⟨_, rfl, ?_⟩, Nat.le_trans (zs_lleE e1 KL) (by decide), Nat.le_trans (zs_szleE (w := 109) e1 ((K 55 (by decide) (by decide)).trans (zp_o F 10 rfl)) rfl rfl KS) (by decide)⟩
  first | (simp [zf_3]; done) | (simp [zf_3]; unfold zw; decide)
set_option maxHeartbeats 4000000 in
set_option maxRecDepth 20000 in
theorem zn_4 {og : Nat → Option zm_C} {h h0 : zm_H} (F : zp_ck h = true) (K : ∀ k : Nat, 55 ≤ k → k < 117 → h0[k]? = h[k]?) (KL : h0.length ≤ 200) (KS : zm_szs h0 ≤ 90000) (a1 : Int32) (a2 : Int32) (a3 : Int32) : zm_Y og 30 194 0 [(0, .ref 55), (1, .int a1), (2, .int a2), (3, .int a3)] [] h0 (fun r h1 => (∃ v, r = some (.int v) ∧ zf_4 a1 a2 a3 v) ∧ h1.length ≤ 300 ∧ zm_szs h1 ≤ 200000) := by
  refine zy_n 2 (mr := zm_m194) (pc' := 2) (ls' := [(0, .ref 55), (1, .int a1), (2, .int a2), (3, .int a3)]) (st' := [.int 0, .ref 55]) rfl rfl ?_
  refine zy_hS (x := .inr (11, [.int 0, .ref 56, .ref 57, .ref 58, .ref 59, .int 0, .int 0, .int 0, .int 0, .int 0, .int 0, .int 20, .int 30, .int 5, .int 2, .ref 60, .ref 61, .ref 62, .ref 63, .ref 64, .ref 65, .ref 66, .ref 67, .ref 68, .ref 69, .ref 70, .ref 71, .ref 72, .ref 73, .ref 74, .ref 75, .ref 76, .ref 77, .ref 78, .ref 79, .ref 80, .ref 81, .ref 82, .ref 83, .ref 84, .ref 85, .ref 86, .ref 87, .ref 88, .ref 89, .ref 90, .ref 91, .ref 92, .ref 93, .ref 94, .int 0, .int (-1), .ref 95, .ref 96, .ref 97, .ref 98, .int 0, .int 0, .int 0, .int 0, .int 0, .int 0, .int 0, .int 0, .int 0, .int 0, .int 0, .int 0, .int 0, .long 0, .int 0, .int 0, .int 0, .long 0, .long 0, .long 0, .long 0, .int 0, .int 0, .int 0, .int 0, .ref 99, .int 0, .int 0, .int 0, .ref 100, .ref 101, .ref 102, .ref 103, .ref 104, .ref 105, .ref 106, .ref 107, .ref 108, .ref 109, .ref 110, .ref 111, .ref 112, .ref 113, .ref 114, .int 0, .int 0, .int 0, .long 0, .long 0, .int 0, .ref 115, .ref 116, .int 0])) (mr := zm_m194) rfl rfl (zh_put ((K 55 (by decide) (by decide)).trans (zp_o F 10 rfl)) rfl rfl) (fun he1 e1 => ?_)
  refine zy_n 2 (mr := zm_m194) (pc' := 7) (ls' := [(0, .ref 55), (1, .int a1), (2, .int a2), (3, .int a3)]) (st' := [.int a1, .ref 55]) rfl rfl ?_
  refine zy_c (mc := zm_m192) (mr := zm_m194) rfl rfl (zh_v rfl (zs_eqE e1 ((K 55 (by decide) (by decide)).trans (zp_o F 10 rfl))) rfl) rfl rfl ?_
  refine zy_n 2 (mr := zm_m192) (pc' := 2) (ls' := [(0, .ref 55), (1, .int a1)]) (st' := [.int a1, .ref 55]) rfl rfl ?_
  refine zy_c (mc := zm_m193) (mr := zm_m192) rfl rfl (zh_v rfl (zs_eqE e1 ((K 55 (by decide) (by decide)).trans (zp_o F 10 rfl))) rfl) rfl rfl ?_
  refine zy_n 4 (mr := zm_m193) (pc' := 4) (ls' := [(0, .ref 55), (1, .int a1)]) (st' := [.ref 55, .long 0, .long a1.toInt64]) rfl rfl ?_
  refine zy_h (mr := zm_m193) rfl rfl (zh_get (v := .int 0) (zs_eqE e1 ((K 55 (by decide) (by decide)).trans (zp_o F 10 rfl))) rfl) ?_
  refine zy_n 3 (mr := zm_m193) (pc' := 10) (ls' := [(0, .ref 55), (1, .int a1)]) (st' := [.long (-1), .long 0, .long a1.toInt64]) rfl rfl ?_
  refine zy_c (mc := zm_m183) (mr := zm_m193) rfl rfl rfl rfl rfl (zm_Y.mono (zk_in a1 0 (-1) rfl (by decide) (by decide)) ?_)
  rintro r h1 ⟨rfl, ⟨rfl, hc2⟩ | ⟨rfl, hc2⟩⟩
  · exact absurd hc2 (zl_emp (by decide))
  refine zy_r (mr := zm_m193) rfl rfl rfl ?_
  refine zy_b (q := (21, [])) (mr := zm_m192) rfl rfl rfl ?_
  refine zy_n 1 (mr := zm_m192) (pc' := 22) (ls' := [(0, .ref 55), (1, .int a1)]) (st' := [.int 0]) rfl rfl ?_
  refine zy_r (mr := zm_m192) rfl rfl rfl ?_
  refine zy_b (q := (34, [])) (mr := zm_m194) rfl rfl rfl ?_
  refine zy_n 1 (mr := zm_m194) (pc' := 36) (ls' := [(0, .ref 55), (1, .int a1), (2, .int a2), (3, .int a3)]) (st' := [.int (-2)]) rfl rfl ?_
  refine zy_r (mr := zm_m194) rfl rfl rfl ?_
  refine ⟨⟨_, rfl, ?_⟩, Nat.le_trans (zs_lleE e1 KL) (by decide), Nat.le_trans (zs_szleE (w := 109) e1 ((K 55 (by decide) (by decide)).trans (zp_o F 10 rfl)) rfl rfl KS) (by decide)⟩
  first | (simp [zf_4]; done) | (simp [zf_4]; unfold zw; decide)
set_option maxHeartbeats 4000000 in
set_option maxRecDepth 20000 in
theorem zn_5 {og : Nat → Option zm_C} {h h0 : zm_H} (F : zp_ck h = true) (K : ∀ k : Nat, 55 ≤ k → k < 117 → h0[k]? = h[k]?) (KL : h0.length ≤ 200) (KS : zm_szs h0 ≤ 90000) (a1 : Int32) (a2 : Int32) (a3 : Int32) : zm_Y og 30 196 0 [(0, .ref 55), (1, .int a1), (2, .int a2), (3, .int a3)] [] h0 (fun r h1 => (∃ v, r = some (.int v) ∧ zf_5 a1 a2 a3 v) ∧ h1.length ≤ 300 ∧ zm_szs h1 ≤ 200000) := by
  refine zy_n 2 (mr := zm_m196) (pc' := 2) (ls' := [(0, .ref 55), (1, .int a1), (2, .int a2), (3, .int a3)]) (st' := [.int 0, .ref 55]) rfl rfl ?_
  refine zy_hS (x := .inr (11, [.int 0, .ref 56, .ref 57, .ref 58, .ref 59, .int 0, .int 0, .int 0, .int 0, .int 0, .int 0, .int 20, .int 30, .int 5, .int 2, .ref 60, .ref 61, .ref 62, .ref 63, .ref 64, .ref 65, .ref 66, .ref 67, .ref 68, .ref 69, .ref 70, .ref 71, .ref 72, .ref 73, .ref 74, .ref 75, .ref 76, .ref 77, .ref 78, .ref 79, .ref 80, .ref 81, .ref 82, .ref 83, .ref 84, .ref 85, .ref 86, .ref 87, .ref 88, .ref 89, .ref 90, .ref 91, .ref 92, .ref 93, .ref 94, .int 0, .int (-1), .ref 95, .ref 96, .ref 97, .ref 98, .int 0, .int 0, .int 0, .int 0, .int 0, .int 0, .int 0, .int 0, .int 0, .int 0, .int 0, .int 0, .int 0, .long 0, .int 0, .int 0, .int 0, .long 0, .long 0, .long 0, .long 0, .int 0, .int 0, .int 0, .int 0, .ref 99, .int 0, .int 0, .int 0, .ref 100, .ref 101, .ref 102, .ref 103, .ref 104, .ref 105, .ref 106, .ref 107, .ref 108, .ref 109, .ref 110, .ref 111, .ref 112, .ref 113, .ref 114, .int 0, .int 0, .int 0, .long 0, .long 0, .int 0, .ref 115, .ref 116, .int 0])) (mr := zm_m196) rfl rfl (zh_put ((K 55 (by decide) (by decide)).trans (zp_o F 10 rfl)) rfl rfl) (fun he1 e1 => ?_)
  refine zy_n 2 (mr := zm_m196) (pc' := 7) (ls' := [(0, .ref 55), (1, .int a1), (2, .int a2), (3, .int a3)]) (st' := [.int a1, .ref 55]) rfl rfl ?_
  refine zy_c (mc := zm_m193) (mr := zm_m196) rfl rfl (zh_v rfl (zs_eqE e1 ((K 55 (by decide) (by decide)).trans (zp_o F 10 rfl))) rfl) rfl rfl ?_
  refine zy_n 4 (mr := zm_m193) (pc' := 4) (ls' := [(0, .ref 55), (1, .int a1)]) (st' := [.ref 55, .long 0, .long a1.toInt64]) rfl rfl ?_
  refine zy_h (mr := zm_m193) rfl rfl (zh_get (v := .int 0) (zs_eqE e1 ((K 55 (by decide) (by decide)).trans (zp_o F 10 rfl))) rfl) ?_
  refine zy_n 3 (mr := zm_m193) (pc' := 10) (ls' := [(0, .ref 55), (1, .int a1)]) (st' := [.long (-1), .long 0, .long a1.toInt64]) rfl rfl ?_
  refine zy_c (mc := zm_m183) (mr := zm_m193) rfl rfl rfl rfl rfl (zm_Y.mono (zk_in a1 0 (-1) rfl (by decide) (by decide)) ?_)
  rintro r h1 ⟨rfl, ⟨rfl, hc2⟩ | ⟨rfl, hc2⟩⟩
  · exact absurd hc2 (zl_emp (by decide))
  refine zy_r (mr := zm_m193) rfl rfl rfl ?_
  refine zy_b (q := (37, [])) (mr := zm_m196) rfl rfl rfl ?_
  refine zy_n 1 (mr := zm_m196) (pc' := 39) (ls' := [(0, .ref 55), (1, .int a1), (2, .int a2), (3, .int a3)]) (st' := [.int (-2)]) rfl rfl ?_
  refine zy_r (mr := zm_m196) rfl rfl rfl ?_
  refine ⟨⟨_, rfl, ?_⟩, Nat.le_trans (zs_lleE e1 KL) (by decide), Nat.le_trans (zs_szleE (w := 109) e1 ((K 55 (by decide) (by decide)).trans (zp_o F 10 rfl)) rfl rfl KS) (by decide)⟩
  first | (simp [zf_5]; done) | (simp [zf_5]; unfold zw; decide)
set_option maxHeartbeats 4000000 in
set_option maxRecDepth 20000 in
theorem zn_6 {og : Nat → Option zm_C} {h h0 : zm_H} (F : zp_ck h = true) (K : ∀ k : Nat, 55 ≤ k → k < 117 → h0[k]? = h[k]?) (KL : h0.length ≤ 200) (KS : zm_szs h0 ≤ 90000) (a1 : Int32) (a2 : Int32) : zm_Y og 30 197 0 [(0, .ref 55), (1, .int a1), (2, .int a2)] [] h0 (fun r h1 => (∃ v, r = some (.int v) ∧ zf_6 a1 a2 v) ∧ h1.length ≤ 300 ∧ zm_szs h1 ≤ 200000) := by
  refine zy_n 2 (mr := zm_m197) (pc' := 2) (ls' := [(0, .ref 55), (1, .int a1), (2, .int a2)]) (st' := [.int 0, .ref 55]) rfl rfl ?_
  refine zy_hS (x := .inr (11, [.int 0, .ref 56, .ref 57, .ref 58, .ref 59, .int 0, .int 0, .int 0, .int 0, .int 0, .int 0, .int 20, .int 30, .int 5, .int 2, .ref 60, .ref 61, .ref 62, .ref 63, .ref 64, .ref 65, .ref 66, .ref 67, .ref 68, .ref 69, .ref 70, .ref 71, .ref 72, .ref 73, .ref 74, .ref 75, .ref 76, .ref 77, .ref 78, .ref 79, .ref 80, .ref 81, .ref 82, .ref 83, .ref 84, .ref 85, .ref 86, .ref 87, .ref 88, .ref 89, .ref 90, .ref 91, .ref 92, .ref 93, .ref 94, .int 0, .int (-1), .ref 95, .ref 96, .ref 97, .ref 98, .int 0, .int 0, .int 0, .int 0, .int 0, .int 0, .int 0, .int 0, .int 0, .int 0, .int 0, .int 0, .int 0, .long 0, .int 0, .int 0, .int 0, .long 0, .long 0, .long 0, .long 0, .int 0, .int 0, .int 0, .int 0, .ref 99, .int 0, .int 0, .int 0, .ref 100, .ref 101, .ref 102, .ref 103, .ref 104, .ref 105, .ref 106, .ref 107, .ref 108, .ref 109, .ref 110, .ref 111, .ref 112, .ref 113, .ref 114, .int 0, .int 0, .int 0, .long 0, .long 0, .int 0, .ref 115, .ref 116, .int 0])) (mr := zm_m197) rfl rfl (zh_put ((K 55 (by decide) (by decide)).trans (zp_o F 10 rfl)) rfl rfl) (fun he1 e1 => ?_)
  refine zy_n 2 (mr := zm_m197) (pc' := 7) (ls' := [(0, .ref 55), (1, .int a1), (2, .int a2)]) (st' := [.int a1, .ref 55]) rfl rfl ?_
  refine zy_c (mc := zm_m192) (mr := zm_m197) rfl rfl (zh_v rfl (zs_eqE e1 ((K 55 (by decide) (by decide)).trans (zp_o F 10 rfl))) rfl) rfl rfl ?_
  refine zy_n 2 (mr := zm_m192) (pc' := 2) (ls' := [(0, .ref 55), (1, .int a1)]) (st' := [.int a1, .ref 55]) rfl rfl ?_
  refine zy_c (mc := zm_m193) (mr := zm_m192) rfl rfl (zh_v rfl (zs_eqE e1 ((K 55 (by decide) (by decide)).trans (zp_o F 10 rfl))) rfl) rfl rfl ?_
  refine zy_n 4 (mr := zm_m193) (pc' := 4) (ls' := [(0, .ref 55), (1, .int a1)]) (st' := [.ref 55, .long 0, .long a1.toInt64]) rfl rfl ?_
  refine zy_h (mr := zm_m193) rfl rfl (zh_get (v := .int 0) (zs_eqE e1 ((K 55 (by decide) (by decide)).trans (zp_o F 10 rfl))) rfl) ?_
  refine zy_n 3 (mr := zm_m193) (pc' := 10) (ls' := [(0, .ref 55), (1, .int a1)]) (st' := [.long (-1), .long 0, .long a1.toInt64]) rfl rfl ?_
  refine zy_c (mc := zm_m183) (mr := zm_m193) rfl rfl rfl rfl rfl (zm_Y.mono (zk_in a1 0 (-1) rfl (by decide) (by decide)) ?_)
  rintro r h1 ⟨rfl, ⟨rfl, hc2⟩ | ⟨rfl, hc2⟩⟩
  · exact absurd hc2 (zl_emp (by decide))
  refine zy_r (mr := zm_m193) rfl rfl rfl ?_
  refine zy_b (q := (21, [])) (mr := zm_m192) rfl rfl rfl ?_
  refine zy_n 1 (mr := zm_m192) (pc' := 22) (ls' := [(0, .ref 55), (1, .int a1)]) (st' := [.int 0]) rfl rfl ?_
  refine zy_r (mr := zm_m192) rfl rfl rfl ?_
  refine zy_b (q := (26, [])) (mr := zm_m197) rfl rfl rfl ?_
  refine zy_n 1 (mr := zm_m197) (pc' := 28) (ls' := [(0, .ref 55), (1, .int a1), (2, .int a2)]) (st' := [.int (-2)]) rfl rfl ?_
  refine zy_r (mr := zm_m197) rfl rfl rfl ?_
  refine ⟨⟨_, rfl, ?_⟩, Nat.le_trans (zs_lleE e1 KL) (by decide), Nat.le_trans (zs_szleE (w := 109) e1 ((K 55 (by decide) (by decide)).trans (zp_o F 10 rfl)) rfl rfl KS) (by decide)⟩
  first | (simp [zf_6]; done) | (simp [zf_6]; unfold zw; decide)
set_option maxHeartbeats 4000000 in
set_option maxRecDepth 20000 in
theorem zn_7 {og : Nat → Option zm_C} {h h0 : zm_H} (F : zp_ck h = true) (K : ∀ k : Nat, 55 ≤ k → k < 117 → h0[k]? = h[k]?) (KL : h0.length ≤ 200) (KS : zm_szs h0 ≤ 90000) (a1 : Int32) : zm_Y og 30 198 0 [(0, .ref 55), (1, .int a1)] [] h0 (fun r h1 => (∃ v, r = some (.int v) ∧ zf_7 a1 v) ∧ h1.length ≤ 300 ∧ zm_szs h1 ≤ 200000) := by
  refine zy_n 2 (mr := zm_m198) (pc' := 2) (ls' := [(0, .ref 55), (1, .int a1)]) (st' := [.int 0, .ref 55]) rfl rfl ?_
  refine zy_hS (x := .inr (11, [.int 0, .ref 56, .ref 57, .ref 58, .ref 59, .int 0, .int 0, .int 0, .int 0, .int 0, .int 0, .int 20, .int 30, .int 5, .int 2, .ref 60, .ref 61, .ref 62, .ref 63, .ref 64, .ref 65, .ref 66, .ref 67, .ref 68, .ref 69, .ref 70, .ref 71, .ref 72, .ref 73, .ref 74, .ref 75, .ref 76, .ref 77, .ref 78, .ref 79, .ref 80, .ref 81, .ref 82, .ref 83, .ref 84, .ref 85, .ref 86, .ref 87, .ref 88, .ref 89, .ref 90, .ref 91, .ref 92, .ref 93, .ref 94, .int 0, .int (-1), .ref 95, .ref 96, .ref 97, .ref 98, .int 0, .int 0, .int 0, .int 0, .int 0, .int 0, .int 0, .int 0, .int 0, .int 0, .int 0, .int 0, .int 0, .long 0, .int 0, .int 0, .int 0, .long 0, .long 0, .long 0, .long 0, .int 0, .int 0, .int 0, .int 0, .ref 99, .int 0, .int 0, .int 0, .ref 100, .ref 101, .ref 102, .ref 103, .ref 104, .ref 105, .ref 106, .ref 107, .ref 108, .ref 109, .ref 110, .ref 111, .ref 112, .ref 113, .ref 114, .int 0, .int 0, .int 0, .long 0, .long 0, .int 0, .ref 115, .ref 116, .int 0])) (mr := zm_m198) rfl rfl (zh_put ((K 55 (by decide) (by decide)).trans (zp_o F 10 rfl)) rfl rfl) (fun he1 e1 => ?_)
  refine zy_n 2 (mr := zm_m198) (pc' := 7) (ls' := [(0, .ref 55), (1, .int a1)]) (st' := [.int a1, .ref 55]) rfl rfl ?_
  refine zy_c (mc := zm_m192) (mr := zm_m198) rfl rfl (zh_v rfl (zs_eqE e1 ((K 55 (by decide) (by decide)).trans (zp_o F 10 rfl))) rfl) rfl rfl ?_
  refine zy_n 2 (mr := zm_m192) (pc' := 2) (ls' := [(0, .ref 55), (1, .int a1)]) (st' := [.int a1, .ref 55]) rfl rfl ?_
  refine zy_c (mc := zm_m193) (mr := zm_m192) rfl rfl (zh_v rfl (zs_eqE e1 ((K 55 (by decide) (by decide)).trans (zp_o F 10 rfl))) rfl) rfl rfl ?_
  refine zy_n 4 (mr := zm_m193) (pc' := 4) (ls' := [(0, .ref 55), (1, .int a1)]) (st' := [.ref 55, .long 0, .long a1.toInt64]) rfl rfl ?_
  refine zy_h (mr := zm_m193) rfl rfl (zh_get (v := .int 0) (zs_eqE e1 ((K 55 (by decide) (by decide)).trans (zp_o F 10 rfl))) rfl) ?_
  refine zy_n 3 (mr := zm_m193) (pc' := 10) (ls' := [(0, .ref 55), (1, .int a1)]) (st' := [.long (-1), .long 0, .long a1.toInt64]) rfl rfl ?_
  refine zy_c (mc := zm_m183) (mr := zm_m193) rfl rfl rfl rfl rfl (zm_Y.mono (zk_in a1 0 (-1) rfl (by decide) (by decide)) ?_)
  rintro r h1 ⟨rfl, ⟨rfl, hc2⟩ | ⟨rfl, hc2⟩⟩
  · exact absurd hc2 (zl_emp (by decide))
  refine zy_r (mr := zm_m193) rfl rfl rfl ?_
  refine zy_b (q := (21, [])) (mr := zm_m192) rfl rfl rfl ?_
  refine zy_n 1 (mr := zm_m192) (pc' := 22) (ls' := [(0, .ref 55), (1, .int a1)]) (st' := [.int 0]) rfl rfl ?_
  refine zy_r (mr := zm_m192) rfl rfl rfl ?_
  refine zy_b (q := (13, [])) (mr := zm_m198) rfl rfl rfl ?_
  refine zy_n 1 (mr := zm_m198) (pc' := 14) (ls' := [(0, .ref 55), (1, .int a1)]) (st' := [.int 0]) rfl rfl ?_
  refine zy_r (mr := zm_m198) rfl rfl rfl ?_
  refine ⟨⟨_, rfl, ?_⟩, Nat.le_trans (zs_lleE e1 KL) (by decide), Nat.le_trans (zs_szleE (w := 109) e1 ((K 55 (by decide) (by decide)).trans (zp_o F 10 rfl)) rfl rfl KS) (by decide)⟩
  first | (simp [zf_7]; done) | (simp [zf_7]; unfold zw; decide)
set_option maxHeartbeats 4000000 in
set_option maxRecDepth 20000 in
theorem zn_8 {og : Nat → Option zm_C} {h h0 : zm_H} (F : zp_ck h = true) (K : ∀ k : Nat, 55 ≤ k → k < 117 → h0[k]? = h[k]?) (KL : h0.length ≤ 200) (KS : zm_szs h0 ≤ 90000) (a1 : Int32) (a2 : Int32) (a3 : Int32) (a4 : Int32) (a5 : Int32) : zm_Y og 30 199 0 [(0, .ref 55), (1, .int a1), (2, .int a2), (3, .int a3), (4, .int a4), (5, .int a5)] [] h0 (fun r h1 => (∃ v, r = some (.int v) ∧ zf_8 a1 a2 a3 a4 a5 v) ∧ h1.length ≤ 300 ∧ zm_szs h1 ≤ 200000) := by
  refine zy_n 2 (mr := zm_m199) (pc' := 2) (ls' := [(0, .ref 55), (1, .int a1), (2, .int a2), (3, .int a3), (4, .int a4), (5, .int a5)]) (st' := [.int 0, .ref 55]) rfl rfl ?_
  refine zy_hS (x := .inr (11, [.int 0, .ref 56, .ref 57, .ref 58, .ref 59, .int 0, .int 0, .int 0, .int 0, .int 0, .int 0, .int 20, .int 30, .int 5, .int 2, .ref 60, .ref 61, .ref 62, .ref 63, .ref 64, .ref 65, .ref 66, .ref 67, .ref 68, .ref 69, .ref 70, .ref 71, .ref 72, .ref 73, .ref 74, .ref 75, .ref 76, .ref 77, .ref 78, .ref 79, .ref 80, .ref 81, .ref 82, .ref 83, .ref 84, .ref 85, .ref 86, .ref 87, .ref 88, .ref 89, .ref 90, .ref 91, .ref 92, .ref 93, .ref 94, .int 0, .int (-1), .ref 95, .ref 96, .ref 97, .ref 98, .int 0, .int 0, .int 0, .int 0, .int 0, .int 0, .int 0, .int 0, .int 0, .int 0, .int 0, .int 0, .int 0, .long 0, .int 0, .int 0, .int 0, .long 0, .long 0, .long 0, .long 0, .int 0, .int 0, .int 0, .int 0, .ref 99, .int 0, .int 0, .int 0, .ref 100, .ref 101, .ref 102, .ref 103, .ref 104, .ref 105, .ref 106, .ref 107, .ref 108, .ref 109, .ref 110, .ref 111, .ref 112, .ref 113, .ref 114, .int 0, .int 0, .int 0, .long 0, .long 0, .int 0, .ref 115, .ref 116, .int 0])) (mr := zm_m199) rfl rfl (zh_put ((K 55 (by decide) (by decide)).trans (zp_o F 10 rfl)) rfl rfl) (fun he1 e1 => ?_)
  refine zy_n 1 (mr := zm_m199) (pc' := 6) (ls' := [(0, .ref 55), (1, .int a1), (2, .int a2), (3, .int a3), (4, .int a4), (5, .int a5)]) (st' := [.ref 55]) rfl rfl ?_
  refine zy_h (mr := zm_m199) rfl rfl (zh_get (v := .int 0) (zs_eqE e1 ((K 55 (by decide) (by decide)).trans (zp_o F 10 rfl))) rfl) ?_
  refine zy_n 3 (mr := zm_m199) (pc' := 15) (ls' := [(0, .ref 55), (1, .int a1), (2, .int a2), (3, .int a3), (4, .int a4), (5, .int a5)]) (st' := [.int 300, .int 20]) rfl rfl ?_
  refine zy_b (q := (20, [])) (mr := zm_m199) rfl rfl rfl ?_
  refine zy_n 4 (mr := zm_m199) (pc' := 27) (ls' := [(6, .int 0), (0, .ref 55), (1, .int a1), (2, .int a2), (3, .int a3), (4, .int a4), (5, .int a5)]) (st' := [.int 20, .int 0]) rfl rfl ?_
  refine zy_b (q := (30, [])) (mr := zm_m199) rfl rfl rfl ?_
  refine zy_n 2 (mr := zm_m199) (pc' := 33) (ls' := [(6, .int 0), (0, .ref 55), (1, .int a1), (2, .int a2), (3, .int a3), (4, .int a4), (5, .int a5)]) (st' := [.int 4, .int 0]) rfl rfl ?_
  refine zy_b (q := (36, [])) (mr := zm_m199) rfl rfl rfl ?_
  refine zy_n 4 (mr := zm_m199) (pc' := 79) (ls' := [(7, .int a1), (6, .int 0), (0, .ref 55), (1, .int a1), (2, .int a2), (3, .int a3), (4, .int a4), (5, .int a5)]) (st' := [.ref 55]) rfl rfl ?_
  refine zy_h (mr := zm_m199) rfl rfl (zh_get (v := .ref 94) (zs_eqE e1 ((K 55 (by decide) (by decide)).trans (zp_o F 10 rfl))) rfl) ?_
  refine zy_n 1 (mr := zm_m199) (pc' := 83) (ls' := [(7, .int a1), (6, .int 0), (0, .ref 55), (1, .int a1), (2, .int a2), (3, .int a3), (4, .int a4), (5, .int a5)]) (st' := [.ref 55, .ref 94]) rfl rfl ?_
  refine zy_h (mr := zm_m199) rfl rfl (zh_get (v := .int 0) (zs_eqE e1 ((K 55 (by decide) (by decide)).trans (zp_o F 10 rfl))) rfl) ?_
  refine zy_n 12 (mr := zm_m199) (pc' := 103) (ls' := [(7, .int a1), (6, .int 0), (0, .ref 55), (1, .int a1), (2, .int a2), (3, .int a3), (4, .int a4), (5, .int a5)]) (st' := [.int ((a1 >>> (24 &&& 31)).toInt8.toInt32), .int 0, .ref 94]) rfl rfl ?_
  refine zy_hS (x := _) (mr := zm_m199) rfl rfl (zh_bast (zs_neE e1 ((K 94 (by decide) (by decide)).trans (zp_i F 69 rfl)) (by decide)) (by decide)) (fun he2 e2 => ?_)
  refine zy_n 4 (mr := zm_m199) (pc' := 27) (ls' := [(6, .int 1), (7, .int a1), (0, .ref 55), (1, .int a1), (2, .int a2), (3, .int a3), (4, .int a4), (5, .int a5)]) (st' := [.int 20, .int 1]) rfl rfl ?_
  refine zy_b (q := (30, [])) (mr := zm_m199) rfl rfl rfl ?_
  refine zy_n 2 (mr := zm_m199) (pc' := 33) (ls' := [(6, .int 1), (7, .int a1), (0, .ref 55), (1, .int a1), (2, .int a2), (3, .int a3), (4, .int a4), (5, .int a5)]) (st' := [.int 4, .int 1]) rfl rfl ?_
  refine zy_b (q := (36, [])) (mr := zm_m199) rfl rfl rfl ?_
  refine zy_n 4 (mr := zm_m199) (pc' := 79) (ls' := [(7, .int a1), (6, .int 1), (0, .ref 55), (1, .int a1), (2, .int a2), (3, .int a3), (4, .int a4), (5, .int a5)]) (st' := [.ref 55]) rfl rfl ?_
  have k3 := (zs_neE e2 (zs_eqE e1 ((K 55 (by decide) (by decide)).trans (zp_o F 10 rfl))) (by decide))
  refine zy_h (mr := zm_m199) rfl rfl (zh_get (v := .ref 94) k3 rfl) ?_
  refine zy_n 1 (mr := zm_m199) (pc' := 83) (ls' := [(7, .int a1), (6, .int 1), (0, .ref 55), (1, .int a1), (2, .int a2), (3, .int a3), (4, .int a4), (5, .int a5)]) (st' := [.ref 55, .ref 94]) rfl rfl ?_
  refine zy_h (mr := zm_m199) rfl rfl (zh_get (v := .int 0) k3 rfl) ?_
  refine zy_n 12 (mr := zm_m199) (pc' := 103) (ls' := [(7, .int a1), (6, .int 1), (0, .ref 55), (1, .int a1), (2, .int a2), (3, .int a3), (4, .int a4), (5, .int a5)]) (st' := [.int ((a1 >>> (16 &&& 31)).toInt8.toInt32), .int 1, .ref 94]) rfl rfl ?_
  have k4 := (zs_eqE e2 (zs_neE e1 ((K 94 (by decide) (by decide)).trans (zp_i F 69 rfl)) (by decide)))
  refine zy_hS (x := _) (mr := zm_m199) rfl rfl (zh_bast k4 (by decide)) (fun he5 e5 => ?_)
  refine zy_n 4 (mr := zm_m199) (pc' := 27) (ls' := [(6, .int 2), (7, .int a1), (0, .ref 55), (1, .int a1), (2, .int a2), (3, .int a3), (4, .int a4), (5, .int a5)]) (st' := [.int 20, .int 2]) rfl rfl ?_
  refine zy_b (q := (30, [])) (mr := zm_m199) rfl rfl rfl ?_
  refine zy_n 2 (mr := zm_m199) (pc' := 33) (ls' := [(6, .int 2), (7, .int a1), (0, .ref 55), (1, .int a1), (2, .int a2), (3, .int a3), (4, .int a4), (5, .int a5)]) (st' := [.int 4, .int 2]) rfl rfl ?_
  refine zy_b (q := (36, [])) (mr := zm_m199) rfl rfl rfl ?_
  refine zy_n 4 (mr := zm_m199) (pc' := 79) (ls' := [(7, .int a1), (6, .int 2), (0, .ref 55), (1, .int a1), (2, .int a2), (3, .int a3), (4, .int a4), (5, .int a5)]) (st' := [.ref 55]) rfl rfl ?_
  refine zy_h (mr := zm_m199) rfl rfl (zh_get (v := .ref 94) (zs_neE e5 k3 (by decide)) rfl) ?_
  refine zy_n 1 (mr := zm_m199) (pc' := 83) (ls' := [(7, .int a1), (6, .int 2), (0, .ref 55), (1, .int a1), (2, .int a2), (3, .int a3), (4, .int a4), (5, .int a5)]) (st' := [.ref 55, .ref 94]) rfl rfl ?_
  refine zy_h (mr := zm_m199) rfl rfl (zh_get (v := .int 0) (zs_neE e5 k3 (by decide)) rfl) ?_
  refine zy_n 12 (mr := zm_m199) (pc' := 103) (ls' := [(7, .int a1), (6, .int 2), (0, .ref 55), (1, .int a1), (2, .int a2), (3, .int a3), (4, .int a4), (5, .int a5)]) (st' := [.int ((a1 >>> (8 &&& 31)).toInt8.toInt32), .int 2, .ref 94]) rfl rfl ?_
  refine zy_hS (x := _) (mr := zm_m199) rfl rfl (zh_bast (zs_eqE e5 k4) (by decide)) (fun he6 e6 => ?_)
  refine zy_n 4 (mr := zm_m199) (pc' := 27) (ls' := [(6, .int 3), (7, .int a1), (0, .ref 55), (1, .int a1), (2, .int a2), (3, .int a3), (4, .int a4), (5, .int a5)]) (st' := [.int 20, .int 3]) rfl rfl ?_
  refine zy_b (q := (30, [])) (mr := zm_m199) rfl rfl rfl ?_
  refine zy_n 2 (mr := zm_m199) (pc' := 33) (ls' := [(6, .int 3), (7, .int a1), (0, .ref 55), (1, .int a1), (2, .int a2), (3, .int a3), (4, .int a4), (5, .int a5)]) (st' := [.int 4, .int 3]) rfl rfl ?_
  refine zy_b (q := (36, [])) (mr := zm_m199) rfl rfl rfl ?_
  refine zy_n 4 (mr := zm_m199) (pc' := 79) (ls' := [(7, .int a1), (6, .int 3), (0, .ref 55), (1, .int a1), (2, .int a2), (3, .int a3), (4, .int a4), (5, .int a5)]) (st' := [.ref 55]) rfl rfl ?_
  refine zy_h (mr := zm_m199) rfl rfl (zh_get (v := .ref 94) (zs_neE e6 (zs_neE e5 k3 (by decide)) (by decide)) rfl) ?_
  refine zy_n 1 (mr := zm_m199) (pc' := 83) (ls' := [(7, .int a1), (6, .int 3), (0, .ref 55), (1, .int a1), (2, .int a2), (3, .int a3), (4, .int a4), (5, .int a5)]) (st' := [.ref 55, .ref 94]) rfl rfl ?_
  refine zy_h (mr := zm_m199) rfl rfl (zh_get (v := .int 0) (zs_neE e6 (zs_neE e5 k3 (by decide)) (by decide)) rfl) ?_
  refine zy_n 12 (mr := zm_m199) (pc' := 103) (ls' := [(7, .int a1), (6, .int 3), (0, .ref 55), (1, .int a1), (2, .int a2), (3, .int a3), (4, .int a4), (5, .int a5)]) (st' := [.int ((a1 >>> (0 &&& 31)).toInt8.toInt32), .int 3, .ref 94]) rfl rfl ?_
  refine zy_hS (x := _) (mr := zm_m199) rfl rfl (zh_bast (zs_eqE e6 (zs_eqE e5 k4)) (by decide)) (fun he7 e7 => ?_)
  refine zy_n 4 (mr := zm_m199) (pc' := 27) (ls' := [(6, .int 4), (7, .int a1), (0, .ref 55), (1, .int a1), (2, .int a2), (3, .int a3), (4, .int a4), (5, .int a5)]) (st' := [.int 20, .int 4]) rfl rfl ?_
  refine zy_b (q := (30, [])) (mr := zm_m199) rfl rfl rfl ?_
  refine zy_n 2 (mr := zm_m199) (pc' := 33) (ls' := [(6, .int 4), (7, .int a1), (0, .ref 55), (1, .int a1), (2, .int a2), (3, .int a3), (4, .int a4), (5, .int a5)]) (st' := [.int 4, .int 4]) rfl rfl ?_
  as_aux_lemma =>
    refine zy_b (q := (40, [])) (mr := zm_m199) rfl rfl rfl ?_
    refine zy_n 2 (mr := zm_m199) (pc' := 44) (ls' := [(6, .int 4), (7, .int a1), (0, .ref 55), (1, .int a1), (2, .int a2), (3, .int a3), (4, .int a4), (5, .int a5)]) (st' := [.int 8, .int 4]) rfl rfl ?_
    refine zy_b (q := (47, [])) (mr := zm_m199) rfl rfl rfl ?_
    refine zy_n 4 (mr := zm_m199) (pc' := 79) (ls' := [(7, .int a2), (6, .int 4), (0, .ref 55), (1, .int a1), (2, .int a2), (3, .int a3), (4, .int a4), (5, .int a5)]) (st' := [.ref 55]) rfl rfl ?_
    refine zy_h (mr := zm_m199) rfl rfl (zh_get (v := .ref 94) (zs_neE e7 (zs_neE e6 (zs_neE e5 k3 (by decide)) (by decide)) (by decide)) rfl) ?_
    refine zy_n 1 (mr := zm_m199) (pc' := 83) (ls' := [(7, .int a2), (6, .int 4), (0, .ref 55), (1, .int a1), (2, .int a2), (3, .int a3), (4, .int a4), (5, .int a5)]) (st' := [.ref 55, .ref 94]) rfl rfl ?_
    refine zy_h (mr := zm_m199) rfl rfl (zh_get (v := .int 0) (zs_neE e7 (zs_neE e6 (zs_neE e5 k3 (by decide)) (by decide)) (by decide)) rfl) ?_
    refine zy_n 12 (mr := zm_m199) (pc' := 103) (ls' := [(7, .int a2), (6, .int 4), (0, .ref 55), (1, .int a1), (2, .int a2), (3, .int a3), (4, .int a4), (5, .int a5)]) (st' := [.int ((a2 >>> (24 &&& 31)).toInt8.toInt32), .int 4, .ref 94]) rfl rfl ?_
    refine zy_hS (x := _) (mr := zm_m199) rfl rfl (zh_bast (zs_eqE e7 (zs_eqE e6 (zs_eqE e5 k4))) (by decide)) (fun he8 e8 => ?_)
    refine zy_n 4 (mr := zm_m199) (pc' := 27) (ls' := [(6, .int 5), (7, .int a2), (0, .ref 55), (1, .int a1), (2, .int a2), (3, .int a3), (4, .int a4), (5, .int a5)]) (st' := [.int 20, .int 5]) rfl rfl ?_
    refine zy_b (q := (30, [])) (mr := zm_m199) rfl rfl rfl ?_
    refine zy_n 2 (mr := zm_m199) (pc' := 33) (ls' := [(6, .int 5), (7, .int a2), (0, .ref 55), (1, .int a1), (2, .int a2), (3, .int a3), (4, .int a4), (5, .int a5)]) (st' := [.int 4, .int 5]) rfl rfl ?_
    refine zy_b (q := (40, [])) (mr := zm_m199) rfl rfl rfl ?_
    refine zy_n 2 (mr := zm_m199) (pc' := 44) (ls' := [(6, .int 5), (7, .int a2), (0, .ref 55), (1, .int a1), (2, .int a2), (3, .int a3), (4, .int a4), (5, .int a5)]) (st' := [.int 8, .int 5]) rfl rfl ?_
    refine zy_b (q := (47, [])) (mr := zm_m199) rfl rfl rfl ?_
    refine zy_n 4 (mr := zm_m199) (pc' := 79) (ls' := [(7, .int a2), (6, .int 5), (0, .ref 55), (1, .int a1), (2, .int a2), (3, .int a3), (4, .int a4), (5, .int a5)]) (st' := [.ref 55]) rfl rfl ?_
    have k9 := (zs_neE e8 (zs_neE e7 (zs_neE e6 (zs_neE e5 k3 (by decide)) (by decide)) (by decide)) (by decide))
    refine zy_h (mr := zm_m199) rfl rfl (zh_get (v := .ref 94) k9 rfl) ?_
    refine zy_n 1 (mr := zm_m199) (pc' := 83) (ls' := [(7, .int a2), (6, .int 5), (0, .ref 55), (1, .int a1), (2, .int a2), (3, .int a3), (4, .int a4), (5, .int a5)]) (st' := [.ref 55, .ref 94]) rfl rfl ?_
    refine zy_h (mr := zm_m199) rfl rfl (zh_get (v := .int 0) k9 rfl) ?_
    refine zy_n 12 (mr := zm_m199) (pc' := 103) (ls' := [(7, .int a2), (6, .int 5), (0, .ref 55), (1, .int a1), (2, .int a2), (3, .int a3), (4, .int a4), (5, .int a5)]) (st' := [.int ((a2 >>> (16 &&& 31)).toInt8.toInt32), .int 5, .ref 94]) rfl rfl ?_
    refine zy_hS (x := _) (mr := zm_m199) rfl rfl (zh_bast (zs_eqE e8 (zs_eqE e7 (zs_eqE e6 (zs_eqE e5 k4)))) (by decide)) (fun he10 e10 => ?_)
    refine zy_n 4 (mr := zm_m199) (pc' := 27) (ls' := [(6, .int 6), (7, .int a2), (0, .ref 55), (1, .int a1), (2, .int a2), (3, .int a3), (4, .int a4), (5, .int a5)]) (st' := [.int 20, .int 6]) rfl rfl ?_
    refine zy_b (q := (30, [])) (mr := zm_m199) rfl rfl rfl ?_
    refine zy_n 2 (mr := zm_m199) (pc' := 33) (ls' := [(6, .int 6), (7, .int a2), (0, .ref 55), (1, .int a1), (2, .int a2), (3, .int a3), (4, .int a4), (5, .int a5)]) (st' := [.int 4, .int 6]) rfl rfl ?_
    refine zy_b (q := (40, [])) (mr := zm_m199) rfl rfl rfl ?_
    refine zy_n 2 (mr := zm_m199) (pc' := 44) (ls' := [(6, .int 6), (7, .int a2), (0, .ref 55), (1, .int a1), (2, .int a2), (3, .int a3), (4, .int a4), (5, .int a5)]) (st' := [.int 8, .int 6]) rfl rfl ?_
    refine zy_b (q := (47, [])) (mr := zm_m199) rfl rfl rfl ?_
    refine zy_n 4 (mr := zm_m199) (pc' := 79) (ls' := [(7, .int a2), (6, .int 6), (0, .ref 55), (1, .int a1), (2, .int a2), (3, .int a3), (4, .int a4), (5, .int a5)]) (st' := [.ref 55]) rfl rfl ?_
    refine zy_h (mr := zm_m199) rfl rfl (zh_get (v := .ref 94) (zs_neE e10 k9 (by decide)) rfl) ?_
    refine zy_n 1 (mr := zm_m199) (pc' := 83) (ls' := [(7, .int a2), (6, .int 6), (0, .ref 55), (1, .int a1), (2, .int a2), (3, .int a3), (4, .int a4), (5, .int a5)]) (st' := [.ref 55, .ref 94]) rfl rfl ?_
    refine zy_h (mr := zm_m199) rfl rfl (zh_get (v := .int 0) (zs_neE e10 k9 (by decide)) rfl) ?_
    refine zy_n 12 (mr := zm_m199) (pc' := 103) (ls' := [(7, .int a2), (6, .int 6), (0, .ref 55), (1, .int a1), (2, .int a2), (3, .int a3), (4, .int a4), (5, .int a5)]) (st' := [.int ((a2 >>> (8 &&& 31)).toInt8.toInt32), .int 6, .ref 94]) rfl rfl ?_
    refine zy_hS (x := _) (mr := zm_m199) rfl rfl (zh_bast (zs_eqE e10 (zs_eqE e8 (zs_eqE e7 (zs_eqE e6 (zs_eqE e5 k4))))) (by decide)) (fun he11 e11 => ?_)
    refine zy_n 4 (mr := zm_m199) (pc' := 27) (ls' := [(6, .int 7), (7, .int a2), (0, .ref 55), (1, .int a1), (2, .int a2), (3, .int a3), (4, .int a4), (5, .int a5)]) (st' := [.int 20, .int 7]) rfl rfl ?_
    refine zy_b (q := (30, [])) (mr := zm_m199) rfl rfl rfl ?_
    refine zy_n 2 (mr := zm_m199) (pc' := 33) (ls' := [(6, .int 7), (7, .int a2), (0, .ref 55), (1, .int a1), (2, .int a2), (3, .int a3), (4, .int a4), (5, .int a5)]) (st' := [.int 4, .int 7]) rfl rfl ?_
    refine zy_b (q := (40, [])) (mr := zm_m199) rfl rfl rfl ?_
    refine zy_n 2 (mr := zm_m199) (pc' := 44) (ls' := [(6, .int 7), (7, .int a2), (0, .ref 55), (1, .int a1), (2, .int a2), (3, .int a3), (4, .int a4), (5, .int a5)]) (st' := [.int 8, .int 7]) rfl rfl ?_
    refine zy_b (q := (47, [])) (mr := zm_m199) rfl rfl rfl ?_
    refine zy_n 4 (mr := zm_m199) (pc' := 79) (ls' := [(7, .int a2), (6, .int 7), (0, .ref 55), (1, .int a1), (2, .int a2), (3, .int a3), (4, .int a4), (5, .int a5)]) (st' := [.ref 55]) rfl rfl ?_
    refine zy_h (mr := zm_m199) rfl rfl (zh_get (v := .ref 94) (zs_neE e11 (zs_neE e10 k9 (by decide)) (by decide)) rfl) ?_
    refine zy_n 1 (mr := zm_m199) (pc' := 83) (ls' := [(7, .int a2), (6, .int 7), (0, .ref 55), (1, .int a1), (2, .int a2), (3, .int a3), (4, .int a4), (5, .int a5)]) (st' := [.ref 55, .ref 94]) rfl rfl ?_
    refine zy_h (mr := zm_m199) rfl rfl (zh_get (v := .int 0) (zs_neE e11 (zs_neE e10 k9 (by decide)) (by decide)) rfl) ?_
    refine zy_n 12 (mr := zm_m199) (pc' := 103) (ls' := [(7, .int a2), (6, .int 7), (0, .ref 55), (1, .int a1), (2, .int a2), (3, .int a3), (4, .int a4), (5, .int a5)]) (st' := [.int ((a2 >>> (0 &&& 31)).toInt8.toInt32), .int 7, .ref 94]) rfl rfl ?_
    refine zy_hS (x := _) (mr := zm_m199) rfl rfl (zh_bast (zs_eqE e11 (zs_eqE e10 (zs_eqE e8 (zs_eqE e7 (zs_eqE e6 (zs_eqE e5 k4)))))) (by decide)) (fun he12 e12 => ?_)
    refine zy_n 4 (mr := zm_m199) (pc' := 27) (ls' := [(6, .int 8), (7, .int a2), (0, .ref 55), (1, .int a1), (2, .int a2), (3, .int a3), (4, .int a4), (5, .int a5)]) (st' := [.int 20, .int 8]) rfl rfl ?_
    refine zy_b (q := (30, [])) (mr := zm_m199) rfl rfl rfl ?_
    refine zy_n 2 (mr := zm_m199) (pc' := 33) (ls' := [(6, .int 8), (7, .int a2), (0, .ref 55), (1, .int a1), (2, .int a2), (3, .int a3), (4, .int a4), (5, .int a5)]) (st' := [.int 4, .int 8]) rfl rfl ?_
    refine zy_b (q := (40, [])) (mr := zm_m199) rfl rfl rfl ?_
    refine zy_n 2 (mr := zm_m199) (pc' := 44) (ls' := [(6, .int 8), (7, .int a2), (0, .ref 55), (1, .int a1), (2, .int a2), (3, .int a3), (4, .int a4), (5, .int a5)]) (st' := [.int 8, .int 8]) rfl rfl ?_
    as_aux_lemma =>
      refine zy_b (q := (51, [])) (mr := zm_m199) rfl rfl rfl ?_
      refine zy_n 2 (mr := zm_m199) (pc' := 55) (ls' := [(6, .int 8), (7, .int a2), (0, .ref 55), (1, .int a1), (2, .int a2), (3, .int a3), (4, .int a4), (5, .int a5)]) (st' := [.int 12, .int 8]) rfl rfl ?_
      refine zy_b (q := (58, [])) (mr := zm_m199) rfl rfl rfl ?_
      refine zy_n 4 (mr := zm_m199) (pc' := 79) (ls' := [(7, .int a3), (6, .int 8), (0, .ref 55), (1, .int a1), (2, .int a2), (3, .int a3), (4, .int a4), (5, .int a5)]) (st' := [.ref 55]) rfl rfl ?_
      refine zy_h (mr := zm_m199) rfl rfl (zh_get (v := .ref 94) (zs_neE e12 (zs_neE e11 (zs_neE e10 k9 (by decide)) (by decide)) (by decide)) rfl) ?_
      refine zy_n 1 (mr := zm_m199) (pc' := 83) (ls' := [(7, .int a3), (6, .int 8), (0, .ref 55), (1, .int a1), (2, .int a2), (3, .int a3), (4, .int a4), (5, .int a5)]) (st' := [.ref 55, .ref 94]) rfl rfl ?_
      refine zy_h (mr := zm_m199) rfl rfl (zh_get (v := .int 0) (zs_neE e12 (zs_neE e11 (zs_neE e10 k9 (by decide)) (by decide)) (by decide)) rfl) ?_
      refine zy_n 12 (mr := zm_m199) (pc' := 103) (ls' := [(7, .int a3), (6, .int 8), (0, .ref 55), (1, .int a1), (2, .int a2), (3, .int a3), (4, .int a4), (5, .int a5)]) (st' := [.int ((a3 >>> (24 &&& 31)).toInt8.toInt32), .int 8, .ref 94]) rfl rfl ?_
      refine zy_hS (x := _) (mr := zm_m199) rfl rfl (zh_bast (zs_eqE e12 (zs_eqE e11 (zs_eqE e10 (zs_eqE e8 (zs_eqE e7 (zs_eqE e6 (zs_eqE e5 k4))))))) (by decide)) (fun he13 e13 => ?_)
      refine zy_n 4 (mr := zm_m199) (pc' := 27) (ls' := [(6, .int 9), (7, .int a3), (0, .ref 55), (1, .int a1), (2, .int a2), (3, .int a3), (4, .int a4), (5, .int a5)]) (st' := [.int 20, .int 9]) rfl rfl ?_
      refine zy_b (q := (30, [])) (mr := zm_m199) rfl rfl rfl ?_
      refine zy_n 2 (mr := zm_m199) (pc' := 33) (ls' := [(6, .int 9), (7, .int a3), (0, .ref 55), (1, .int a1), (2, .int a2), (3, .int a3), (4, .int a4), (5, .int a5)]) (st' := [.int 4, .int 9]) rfl rfl ?_
      refine zy_b (q := (40, [])) (mr := zm_m199) rfl rfl rfl ?_
      refine zy_n 2 (mr := zm_m199) (pc' := 44) (ls' := [(6, .int 9), (7, .int a3), (0, .ref 55), (1, .int a1), (2, .int a2), (3, .int a3), (4, .int a4), (5, .int a5)]) (st' := [.int 8, .int 9]) rfl rfl ?_
      refine zy_b (q := (51, [])) (mr := zm_m199) rfl rfl rfl ?_
      refine zy_n 2 (mr := zm_m199) (pc' := 55) (ls' := [(6, .int 9), (7, .int a3), (0, .ref 55), (1, .int a1), (2, .int a2), (3, .int a3), (4, .int a4), (5, .int a5)]) (st' := [.int 12, .int 9]) rfl rfl ?_
      refine zy_b (q := (58, [])) (mr := zm_m199) rfl rfl rfl ?_
      refine zy_n 4 (mr := zm_m199) (pc' := 79) (ls' := [(7, .int a3), (6, .int 9), (0, .ref 55), (1, .int a1), (2, .int a2), (3, .int a3), (4, .int a4), (5, .int a5)]) (st' := [.ref 55]) rfl rfl ?_
      have k14 := (zs_neE e13 (zs_neE e12 (zs_neE e11 (zs_neE e10 k9 (by decide)) (by decide)) (by decide)) (by decide))
      refine zy_h (mr := zm_m199) rfl rfl (zh_get (v := .ref 94) k14 rfl) ?_
      refine zy_n 1 (mr := zm_m199) (pc' := 83) (ls' := [(7, .int a3), (6, .int 9), (0, .ref 55), (1, .int a1), (2, .int a2), (3, .int a3), (4, .int a4), (5, .int a5)]) (st' := [.ref 55, .ref 94]) rfl rfl ?_
      refine zy_h (mr := zm_m199) rfl rfl (zh_get (v := .int 0) k14 rfl) ?_
      refine zy_n 12 (mr := zm_m199) (pc' := 103) (ls' := [(7, .int a3), (6, .int 9), (0, .ref 55), (1, .int a1), (2, .int a2), (3, .int a3), (4, .int a4), (5, .int a5)]) (st' := [.int ((a3 >>> (16 &&& 31)).toInt8.toInt32), .int 9, .ref 94]) rfl rfl ?_
      have k15 := (zs_eqE e13 (zs_eqE e12 (zs_eqE e11 (zs_eqE e10 (zs_eqE e8 (zs_eqE e7 (zs_eqE e6 (zs_eqE e5 k4))))))))
      refine zy_hS (x := _) (mr := zm_m199) rfl rfl (zh_bast k15 (by decide)) (fun he16 e16 => ?_)
      refine zy_n 4 (mr := zm_m199) (pc' := 27) (ls' := [(6, .int 10), (7, .int a3), (0, .ref 55), (1, .int a1), (2, .int a2), (3, .int a3), (4, .int a4), (5, .int a5)]) (st' := [.int 20, .int 10]) rfl rfl ?_
      refine zy_b (q := (30, [])) (mr := zm_m199) rfl rfl rfl ?_
      refine zy_n 2 (mr := zm_m199) (pc' := 33) (ls' := [(6, .int 10), (7, .int a3), (0, .ref 55), (1, .int a1), (2, .int a2), (3, .int a3), (4, .int a4), (5, .int a5)]) (st' := [.int 4, .int 10]) rfl rfl ?_
      refine zy_b (q := (40, [])) (mr := zm_m199) rfl rfl rfl ?_
      refine zy_n 2 (mr := zm_m199) (pc' := 44) (ls' := [(6, .int 10), (7, .int a3), (0, .ref 55), (1, .int a1), (2, .int a2), (3, .int a3), (4, .int a4), (5, .int a5)]) (st' := [.int 8, .int 10]) rfl rfl ?_
      refine zy_b (q := (51, [])) (mr := zm_m199) rfl rfl rfl ?_
      refine zy_n 2 (mr := zm_m199) (pc' := 55) (ls' := [(6, .int 10), (7, .int a3), (0, .ref 55), (1, .int a1), (2, .int a2), (3, .int a3), (4, .int a4), (5, .int a5)]) (st' := [.int 12, .int 10]) rfl rfl ?_
      refine zy_b (q := (58, [])) (mr := zm_m199) rfl rfl rfl ?_
      refine zy_n 4 (mr := zm_m199) (pc' := 79) (ls' := [(7, .int a3), (6, .int 10), (0, .ref 55), (1, .int a1), (2, .int a2), (3, .int a3), (4, .int a4), (5, .int a5)]) (st' := [.ref 55]) rfl rfl ?_
      refine zy_h (mr := zm_m199) rfl rfl (zh_get (v := .ref 94) (zs_neE e16 k14 (by decide)) rfl) ?_
      refine zy_n 1 (mr := zm_m199) (pc' := 83) (ls' := [(7, .int a3), (6, .int 10), (0, .ref 55), (1, .int a1), (2, .int a2), (3, .int a3), (4, .int a4), (5, .int a5)]) (st' := [.ref 55, .ref 94]) rfl rfl ?_
      refine zy_h (mr := zm_m199) rfl rfl (zh_get (v := .int 0) (zs_neE e16 k14 (by decide)) rfl) ?_
      refine zy_n 12 (mr := zm_m199) (pc' := 103) (ls' := [(7, .int a3), (6, .int 10), (0, .ref 55), (1, .int a1), (2, .int a2), (3, .int a3), (4, .int a4), (5, .int a5)]) (st' := [.int ((a3 >>> (8 &&& 31)).toInt8.toInt32), .int 10, .ref 94]) rfl rfl ?_
      refine zy_hS (x := _) (mr := zm_m199) rfl rfl (zh_bast (zs_eqE e16 k15) (by decide)) (fun he17 e17 => ?_)
      refine zy_n 4 (mr := zm_m199) (pc' := 27) (ls' := [(6, .int 11), (7, .int a3), (0, .ref 55), (1, .int a1), (2, .int a2), (3, .int a3), (4, .int a4), (5, .int a5)]) (st' := [.int 20, .int 11]) rfl rfl ?_
      refine zy_b (q := (30, [])) (mr := zm_m199) rfl rfl rfl ?_
      refine zy_n 2 (mr := zm_m199) (pc' := 33) (ls' := [(6, .int 11), (7, .int a3), (0, .ref 55), (1, .int a1), (2, .int a2), (3, .int a3), (4, .int a4), (5, .int a5)]) (st' := [.int 4, .int 11]) rfl rfl ?_
      refine zy_b (q := (40, [])) (mr := zm_m199) rfl rfl rfl ?_
      refine zy_n 2 (mr := zm_m199) (pc' := 44) (ls' := [(6, .int 11), (7, .int a3), (0, .ref 55), (1, .int a1), (2, .int a2), (3, .int a3), (4, .int a4), (5, .int a5)]) (st' := [.int 8, .int 11]) rfl rfl ?_
      refine zy_b (q := (51, [])) (mr := zm_m199) rfl rfl rfl ?_
      refine zy_n 2 (mr := zm_m199) (pc' := 55) (ls' := [(6, .int 11), (7, .int a3), (0, .ref 55), (1, .int a1), (2, .int a2), (3, .int a3), (4, .int a4), (5, .int a5)]) (st' := [.int 12, .int 11]) rfl rfl ?_
      refine zy_b (q := (58, [])) (mr := zm_m199) rfl rfl rfl ?_
      refine zy_n 4 (mr := zm_m199) (pc' := 79) (ls' := [(7, .int a3), (6, .int 11), (0, .ref 55), (1, .int a1), (2, .int a2), (3, .int a3), (4, .int a4), (5, .int a5)]) (st' := [.ref 55]) rfl rfl ?_
      refine zy_h (mr := zm_m199) rfl rfl (zh_get (v := .ref 94) (zs_neE e17 (zs_neE e16 k14 (by decide)) (by decide)) rfl) ?_
      refine zy_n 1 (mr := zm_m199) (pc' := 83) (ls' := [(7, .int a3), (6, .int 11), (0, .ref 55), (1, .int a1), (2, .int a2), (3, .int a3), (4, .int a4), (5, .int a5)]) (st' := [.ref 55, .ref 94]) rfl rfl ?_
      refine zy_h (mr := zm_m199) rfl rfl (zh_get (v := .int 0) (zs_neE e17 (zs_neE e16 k14 (by decide)) (by decide)) rfl) ?_
      refine zy_n 12 (mr := zm_m199) (pc' := 103) (ls' := [(7, .int a3), (6, .int 11), (0, .ref 55), (1, .int a1), (2, .int a2), (3, .int a3), (4, .int a4), (5, .int a5)]) (st' := [.int ((a3 >>> (0 &&& 31)).toInt8.toInt32), .int 11, .ref 94]) rfl rfl ?_
      as_aux_lemma =>
        refine zy_hS (x := _) (mr := zm_m199) rfl rfl (zh_bast (zs_eqE e17 (zs_eqE e16 k15)) (by decide)) (fun he18 e18 => ?_)
        refine zy_n 4 (mr := zm_m199) (pc' := 27) (ls' := [(6, .int 12), (7, .int a3), (0, .ref 55), (1, .int a1), (2, .int a2), (3, .int a3), (4, .int a4), (5, .int a5)]) (st' := [.int 20, .int 12]) rfl rfl ?_
        refine zy_b (q := (30, [])) (mr := zm_m199) rfl rfl rfl ?_
        refine zy_n 2 (mr := zm_m199) (pc' := 33) (ls' := [(6, .int 12), (7, .int a3), (0, .ref 55), (1, .int a1), (2, .int a2), (3, .int a3), (4, .int a4), (5, .int a5)]) (st' := [.int 4, .int 12]) rfl rfl ?_
        refine zy_b (q := (40, [])) (mr := zm_m199) rfl rfl rfl ?_
        refine zy_n 2 (mr := zm_m199) (pc' := 44) (ls' := [(6, .int 12), (7, .int a3), (0, .ref 55), (1, .int a1), (2, .int a2), (3, .int a3), (4, .int a4), (5, .int a5)]) (st' := [.int 8, .int 12]) rfl rfl ?_
        refine zy_b (q := (51, [])) (mr := zm_m199) rfl rfl rfl ?_
        refine zy_n 2 (mr := zm_m199) (pc' := 55) (ls' := [(6, .int 12), (7, .int a3), (0, .ref 55), (1, .int a1), (2, .int a2), (3, .int a3), (4, .int a4), (5, .int a5)]) (st' := [.int 12, .int 12]) rfl rfl ?_
        refine zy_b (q := (62, [])) (mr := zm_m199) rfl rfl rfl ?_
        refine zy_n 2 (mr := zm_m199) (pc' := 66) (ls' := [(6, .int 12), (7, .int a3), (0, .ref 55), (1, .int a1), (2, .int a2), (3, .int a3), (4, .int a4), (5, .int a5)]) (st' := [.int 16, .int 12]) rfl rfl ?_
        refine zy_b (q := (69, [])) (mr := zm_m199) rfl rfl rfl ?_
        refine zy_n 4 (mr := zm_m199) (pc' := 79) (ls' := [(7, .int a4), (6, .int 12), (0, .ref 55), (1, .int a1), (2, .int a2), (3, .int a3), (4, .int a4), (5, .int a5)]) (st' := [.ref 55]) rfl rfl ?_
        refine zy_h (mr := zm_m199) rfl rfl (zh_get (v := .ref 94) (zs_neE e18 (zs_neE e17 (zs_neE e16 k14 (by decide)) (by decide)) (by decide)) rfl) ?_
        refine zy_n 1 (mr := zm_m199) (pc' := 83) (ls' := [(7, .int a4), (6, .int 12), (0, .ref 55), (1, .int a1), (2, .int a2), (3, .int a3), (4, .int a4), (5, .int a5)]) (st' := [.ref 55, .ref 94]) rfl rfl ?_
        refine zy_h (mr := zm_m199) rfl rfl (zh_get (v := .int 0) (zs_neE e18 (zs_neE e17 (zs_neE e16 k14 (by decide)) (by decide)) (by decide)) rfl) ?_
        refine zy_n 12 (mr := zm_m199) (pc' := 103) (ls' := [(7, .int a4), (6, .int 12), (0, .ref 55), (1, .int a1), (2, .int a2), (3, .int a3), (4, .int a4), (5, .int a5)]) (st' := [.int ((a4 >>> (24 &&& 31)).toInt8.toInt32), .int 12, .ref 94]) rfl rfl ?_
        refine zy_hS (x := _) (mr := zm_m199) rfl rfl (zh_bast (zs_eqE e18 (zs_eqE e17 (zs_eqE e16 k15))) (by decide)) (fun he19 e19 => ?_)
        refine zy_n 4 (mr := zm_m199) (pc' := 27) (ls' := [(6, .int 13), (7, .int a4), (0, .ref 55), (1, .int a1), (2, .int a2), (3, .int a3), (4, .int a4), (5, .int a5)]) (st' := [.int 20, .int 13]) rfl rfl ?_
        refine zy_b (q := (30, [])) (mr := zm_m199) rfl rfl rfl ?_
        refine zy_n 2 (mr := zm_m199) (pc' := 33) (ls' := [(6, .int 13), (7, .int a4), (0, .ref 55), (1, .int a1), (2, .int a2), (3, .int a3), (4, .int a4), (5, .int a5)]) (st' := [.int 4, .int 13]) rfl rfl ?_
        refine zy_b (q := (40, [])) (mr := zm_m199) rfl rfl rfl ?_
        refine zy_n 2 (mr := zm_m199) (pc' := 44) (ls' := [(6, .int 13), (7, .int a4), (0, .ref 55), (1, .int a1), (2, .int a2), (3, .int a3), (4, .int a4), (5, .int a5)]) (st' := [.int 8, .int 13]) rfl rfl ?_
        refine zy_b (q := (51, [])) (mr := zm_m199) rfl rfl rfl ?_
        refine zy_n 2 (mr := zm_m199) (pc' := 55) (ls' := [(6, .int 13), (7, .int a4), (0, .ref 55), (1, .int a1), (2, .int a2), (3, .int a3), (4, .int a4), (5, .int a5)]) (st' := [.int 12, .int 13]) rfl rfl ?_
        refine zy_b (q := (62, [])) (mr := zm_m199) rfl rfl rfl ?_
        refine zy_n 2 (mr := zm_m199) (pc' := 66) (ls' := [(6, .int 13), (7, .int a4), (0, .ref 55), (1, .int a1), (2, .int a2), (3, .int a3), (4, .int a4), (5, .int a5)]) (st' := [.int 16, .int 13]) rfl rfl ?_
        refine zy_b (q := (69, [])) (mr := zm_m199) rfl rfl rfl ?_
        refine zy_n 4 (mr := zm_m199) (pc' := 79) (ls' := [(7, .int a4), (6, .int 13), (0, .ref 55), (1, .int a1), (2, .int a2), (3, .int a3), (4, .int a4), (5, .int a5)]) (st' := [.ref 55]) rfl rfl ?_
        have k20 := (zs_neE e19 (zs_neE e18 (zs_neE e17 (zs_neE e16 k14 (by decide)) (by decide)) (by decide)) (by decide))
        refine zy_h (mr := zm_m199) rfl rfl (zh_get (v := .ref 94) k20 rfl) ?_
        refine zy_n 1 (mr := zm_m199) (pc' := 83) (ls' := [(7, .int a4), (6, .int 13), (0, .ref 55), (1, .int a1), (2, .int a2), (3, .int a3), (4, .int a4), (5, .int a5)]) (st' := [.ref 55, .ref 94]) rfl rfl ?_
        refine zy_h (mr := zm_m199) rfl rfl (zh_get (v := .int 0) k20 rfl) ?_
        refine zy_n 12 (mr := zm_m199) (pc' := 103) (ls' := [(7, .int a4), (6, .int 13), (0, .ref 55), (1, .int a1), (2, .int a2), (3, .int a3), (4, .int a4), (5, .int a5)]) (st' := [.int ((a4 >>> (16 &&& 31)).toInt8.toInt32), .int 13, .ref 94]) rfl rfl ?_
        refine zy_hS (x := _) (mr := zm_m199) rfl rfl (zh_bast (zs_eqE e19 (zs_eqE e18 (zs_eqE e17 (zs_eqE e16 k15)))) (by decide)) (fun he21 e21 => ?_)
        refine zy_n 4 (mr := zm_m199) (pc' := 27) (ls' := [(6, .int 14), (7, .int a4), (0, .ref 55), (1, .int a1), (2, .int a2), (3, .int a3), (4, .int a4), (5, .int a5)]) (st' := [.int 20, .int 14]) rfl rfl ?_
        refine zy_b (q := (30, [])) (mr := zm_m199) rfl rfl rfl ?_
        refine zy_n 2 (mr := zm_m199) (pc' := 33) (ls' := [(6, .int 14), (7, .int a4), (0, .ref 55), (1, .int a1), (2, .int a2), (3, .int a3), (4, .int a4), (5, .int a5)]) (st' := [.int 4, .int 14]) rfl rfl ?_
        refine zy_b (q := (40, [])) (mr := zm_m199) rfl rfl rfl ?_
        refine zy_n 2 (mr := zm_m199) (pc' := 44) (ls' := [(6, .int 14), (7, .int a4), (0, .ref 55), (1, .int a1), (2, .int a2), (3, .int a3), (4, .int a4), (5, .int a5)]) (st' := [.int 8, .int 14]) rfl rfl ?_
        refine zy_b (q := (51, [])) (mr := zm_m199) rfl rfl rfl ?_
        refine zy_n 2 (mr := zm_m199) (pc' := 55) (ls' := [(6, .int 14), (7, .int a4), (0, .ref 55), (1, .int a1), (2, .int a2), (3, .int a3), (4, .int a4), (5, .int a5)]) (st' := [.int 12, .int 14]) rfl rfl ?_
        refine zy_b (q := (62, [])) (mr := zm_m199) rfl rfl rfl ?_
        refine zy_n 2 (mr := zm_m199) (pc' := 66) (ls' := [(6, .int 14), (7, .int a4), (0, .ref 55), (1, .int a1), (2, .int a2), (3, .int a3), (4, .int a4), (5, .int a5)]) (st' := [.int 16, .int 14]) rfl rfl ?_
        refine zy_b (q := (69, [])) (mr := zm_m199) rfl rfl rfl ?_
        refine zy_n 4 (mr := zm_m199) (pc' := 79) (ls' := [(7, .int a4), (6, .int 14), (0, .ref 55), (1, .int a1), (2, .int a2), (3, .int a3), (4, .int a4), (5, .int a5)]) (st' := [.ref 55]) rfl rfl ?_
        refine zy_h (mr := zm_m199) rfl rfl (zh_get (v := .ref 94) (zs_neE e21 k20 (by decide)) rfl) ?_
        refine zy_n 1 (mr := zm_m199) (pc' := 83) (ls' := [(7, .int a4), (6, .int 14), (0, .ref 55), (1, .int a1), (2, .int a2), (3, .int a3), (4, .int a4), (5, .int a5)]) (st' := [.ref 55, .ref 94]) rfl rfl ?_
        refine zy_h (mr := zm_m199) rfl rfl (zh_get (v := .int 0) (zs_neE e21 k20 (by decide)) rfl) ?_
        refine zy_n 12 (mr := zm_m199) (pc' := 103) (ls' := [(7, .int a4), (6, .int 14), (0, .ref 55), (1, .int a1), (2, .int a2), (3, .int a3), (4, .int a4), (5, .int a5)]) (st' := [.int ((a4 >>> (8 &&& 31)).toInt8.toInt32), .int 14, .ref 94]) rfl rfl ?_
        refine zy_hS (x := _) (mr := zm_m199) rfl rfl (zh_bast (zs_eqE e21 (zs_eqE e19 (zs_eqE e18 (zs_eqE e17 (zs_eqE e16 k15))))) (by decide)) (fun he22 e22 => ?_)
        refine zy_n 4 (mr := zm_m199) (pc' := 27) (ls' := [(6, .int 15), (7, .int a4), (0, .ref 55), (1, .int a1), (2, .int a2), (3, .int a3), (4, .int a4), (5, .int a5)]) (st' := [.int 20, .int 15]) rfl rfl ?_
        as_aux_lemma =>
          refine zy_b (q := (30, [])) (mr := zm_m199) rfl rfl rfl ?_
          refine zy_n 2 (mr := zm_m199) (pc' := 33) (ls' := [(6, .int 15), (7, .int a4), (0, .ref 55), (1, .int a1), (2, .int a2), (3, .int a3), (4, .int a4), (5, .int a5)]) (st' := [.int 4, .int 15]) rfl rfl ?_
          refine zy_b (q := (40, [])) (mr := zm_m199) rfl rfl rfl ?_
          refine zy_n 2 (mr := zm_m199) (pc' := 44) (ls' := [(6, .int 15), (7, .int a4), (0, .ref 55), (1, .int a1), (2, .int a2), (3, .int a3), (4, .int a4), (5, .int a5)]) (st' := [.int 8, .int 15]) rfl rfl ?_
          refine zy_b (q := (51, [])) (mr := zm_m199) rfl rfl rfl ?_
          refine zy_n 2 (mr := zm_m199) (pc' := 55) (ls' := [(6, .int 15), (7, .int a4), (0, .ref 55), (1, .int a1), (2, .int a2), (3, .int a3), (4, .int a4), (5, .int a5)]) (st' := [.int 12, .int 15]) rfl rfl ?_
          refine zy_b (q := (62, [])) (mr := zm_m199) rfl rfl rfl ?_
          refine zy_n 2 (mr := zm_m199) (pc' := 66) (ls' := [(6, .int 15), (7, .int a4), (0, .ref 55), (1, .int a1), (2, .int a2), (3, .int a3), (4, .int a4), (5, .int a5)]) (st' := [.int 16, .int 15]) rfl rfl ?_
          refine zy_b (q := (69, [])) (mr := zm_m199) rfl rfl rfl ?_
          refine zy_n 4 (mr := zm_m199) (pc' := 79) (ls' := [(7, .int a4), (6, .int 15), (0, .ref 55), (1, .int a1), (2, .int a2), (3, .int a3), (4, .int a4), (5, .int a5)]) (st' := [.ref 55]) rfl rfl ?_
          refine zy_h (mr := zm_m199) rfl rfl (zh_get (v := .ref 94) (zs_neE e22 (zs_neE e21 k20 (by decide)) (by decide)) rfl) ?_
          refine zy_n 1 (mr := zm_m199) (pc' := 83) (ls' := [(7, .int a4), (6, .int 15), (0, .ref 55), (1, .int a1), (2, .int a2), (3, .int a3), (4, .int a4), (5, .int a5)]) (st' := [.ref 55, .ref 94]) rfl rfl ?_
          refine zy_h (mr := zm_m199) rfl rfl (zh_get (v := .int 0) (zs_neE e22 (zs_neE e21 k20 (by decide)) (by decide)) rfl) ?_
          refine zy_n 12 (mr := zm_m199) (pc' := 103) (ls' := [(7, .int a4), (6, .int 15), (0, .ref 55), (1, .int a1), (2, .int a2), (3, .int a3), (4, .int a4), (5, .int a5)]) (st' := [.int ((a4 >>> (0 &&& 31)).toInt8.toInt32), .int 15, .ref 94]) rfl rfl ?_
          refine zy_hS (x := _) (mr := zm_m199) rfl rfl (zh_bast (zs_eqE e22 (zs_eqE e21 (zs_eqE e19 (zs_eqE e18 (zs_eqE e17 (zs_eqE e16 k15)))))) (by decide)) (fun he23 e23 => ?_)
          refine zy_n 4 (mr := zm_m199) (pc' := 27) (ls' := [(6, .int 16), (7, .int a4), (0, .ref 55), (1, .int a1), (2, .int a2), (3, .int a3), (4, .int a4), (5, .int a5)]) (st' := [.int 20, .int 16]) rfl rfl ?_
          refine zy_b (q := (30, [])) (mr := zm_m199) rfl rfl rfl ?_
          refine zy_n 2 (mr := zm_m199) (pc' := 33) (ls' := [(6, .int 16), (7, .int a4), (0, .ref 55), (1, .int a1), (2, .int a2), (3, .int a3), (4, .int a4), (5, .int a5)]) (st' := [.int 4, .int 16]) rfl rfl ?_
          refine zy_b (q := (40, [])) (mr := zm_m199) rfl rfl rfl ?_
          refine zy_n 2 (mr := zm_m199) (pc' := 44) (ls' := [(6, .int 16), (7, .int a4), (0, .ref 55), (1, .int a1), (2, .int a2), (3, .int a3), (4, .int a4), (5, .int a5)]) (st' := [.int 8, .int 16]) rfl rfl ?_
          refine zy_b (q := (51, [])) (mr := zm_m199) rfl rfl rfl ?_
          refine zy_n 2 (mr := zm_m199) (pc' := 55) (ls' := [(6, .int 16), (7, .int a4), (0, .ref 55), (1, .int a1), (2, .int a2), (3, .int a3), (4, .int a4), (5, .int a5)]) (st' := [.int 12, .int 16]) rfl rfl ?_
          refine zy_b (q := (62, [])) (mr := zm_m199) rfl rfl rfl ?_
          refine zy_n 2 (mr := zm_m199) (pc' := 66) (ls' := [(6, .int 16), (7, .int a4), (0, .ref 55), (1, .int a1), (2, .int a2), (3, .int a3), (4, .int a4), (5, .int a5)]) (st' := [.int 16, .int 16]) rfl rfl ?_
          refine zy_b (q := (74, [])) (mr := zm_m199) rfl rfl rfl ?_
          refine zy_n 3 (mr := zm_m199) (pc' := 79) (ls' := [(7, .int a5), (6, .int 16), (0, .ref 55), (1, .int a1), (2, .int a2), (3, .int a3), (4, .int a4), (5, .int a5)]) (st' := [.ref 55]) rfl rfl ?_
          refine zy_h (mr := zm_m199) rfl rfl (zh_get (v := .ref 94) (zs_neE e23 (zs_neE e22 (zs_neE e21 k20 (by decide)) (by decide)) (by decide)) rfl) ?_
          refine zy_n 1 (mr := zm_m199) (pc' := 83) (ls' := [(7, .int a5), (6, .int 16), (0, .ref 55), (1, .int a1), (2, .int a2), (3, .int a3), (4, .int a4), (5, .int a5)]) (st' := [.ref 55, .ref 94]) rfl rfl ?_
          refine zy_h (mr := zm_m199) rfl rfl (zh_get (v := .int 0) (zs_neE e23 (zs_neE e22 (zs_neE e21 k20 (by decide)) (by decide)) (by decide)) rfl) ?_
          refine zy_n 12 (mr := zm_m199) (pc' := 103) (ls' := [(7, .int a5), (6, .int 16), (0, .ref 55), (1, .int a1), (2, .int a2), (3, .int a3), (4, .int a4), (5, .int a5)]) (st' := [.int ((a5 >>> (24 &&& 31)).toInt8.toInt32), .int 16, .ref 94]) rfl rfl ?_
          have k24 := (zs_eqE e23 (zs_eqE e22 (zs_eqE e21 (zs_eqE e19 (zs_eqE e18 (zs_eqE e17 (zs_eqE e16 k15)))))))
          refine zy_hS (x := _) (mr := zm_m199) rfl rfl (zh_bast k24 (by decide)) (fun he25 e25 => ?_)
          refine zy_n 4 (mr := zm_m199) (pc' := 27) (ls' := [(6, .int 17), (7, .int a5), (0, .ref 55), (1, .int a1), (2, .int a2), (3, .int a3), (4, .int a4), (5, .int a5)]) (st' := [.int 20, .int 17]) rfl rfl ?_
          refine zy_b (q := (30, [])) (mr := zm_m199) rfl rfl rfl ?_
          refine zy_n 2 (mr := zm_m199) (pc' := 33) (ls' := [(6, .int 17), (7, .int a5), (0, .ref 55), (1, .int a1), (2, .int a2), (3, .int a3), (4, .int a4), (5, .int a5)]) (st' := [.int 4, .int 17]) rfl rfl ?_
          refine zy_b (q := (40, [])) (mr := zm_m199) rfl rfl rfl ?_
          refine zy_n 2 (mr := zm_m199) (pc' := 44) (ls' := [(6, .int 17), (7, .int a5), (0, .ref 55), (1, .int a1), (2, .int a2), (3, .int a3), (4, .int a4), (5, .int a5)]) (st' := [.int 8, .int 17]) rfl rfl ?_
          refine zy_b (q := (51, [])) (mr := zm_m199) rfl rfl rfl ?_
          refine zy_n 2 (mr := zm_m199) (pc' := 55) (ls' := [(6, .int 17), (7, .int a5), (0, .ref 55), (1, .int a1), (2, .int a2), (3, .int a3), (4, .int a4), (5, .int a5)]) (st' := [.int 12, .int 17]) rfl rfl ?_
          refine zy_b (q := (62, [])) (mr := zm_m199) rfl rfl rfl ?_
          refine zy_n 2 (mr := zm_m199) (pc' := 66) (ls' := [(6, .int 17), (7, .int a5), (0, .ref 55), (1, .int a1), (2, .int a2), (3, .int a3), (4, .int a4), (5, .int a5)]) (st' := [.int 16, .int 17]) rfl rfl ?_
          refine zy_b (q := (74, [])) (mr := zm_m199) rfl rfl rfl ?_
          refine zy_n 3 (mr := zm_m199) (pc' := 79) (ls' := [(7, .int a5), (6, .int 17), (0, .ref 55), (1, .int a1), (2, .int a2), (3, .int a3), (4, .int a4), (5, .int a5)]) (st' := [.ref 55]) rfl rfl ?_
          have k26 := (zs_neE e25 (zs_neE e23 (zs_neE e22 (zs_neE e21 k20 (by decide)) (by decide)) (by decide)) (by decide))
          refine zy_h (mr := zm_m199) rfl rfl (zh_get (v := .ref 94) k26 rfl) ?_
          refine zy_n 1 (mr := zm_m199) (pc' := 83) (ls' := [(7, .int a5), (6, .int 17), (0, .ref 55), (1, .int a1), (2, .int a2), (3, .int a3), (4, .int a4), (5, .int a5)]) (st' := [.ref 55, .ref 94]) rfl rfl ?_
          refine zy_h (mr := zm_m199) rfl rfl (zh_get (v := .int 0) k26 rfl) ?_
          refine zy_n 12 (mr := zm_m199) (pc' := 103) (ls' := [(7, .int a5), (6, .int 17), (0, .ref 55), (1, .int a1), (2, .int a2), (3, .int a3), (4, .int a4), (5, .int a5)]) (st' := [.int ((a5 >>> (16 &&& 31)).toInt8.toInt32), .int 17, .ref 94]) rfl rfl ?_
          refine zy_hS (x := _) (mr := zm_m199) rfl rfl (zh_bast (zs_eqE e25 k24) (by decide)) (fun he27 e27 => ?_)
          refine zy_n 4 (mr := zm_m199) (pc' := 27) (ls' := [(6, .int 18), (7, .int a5), (0, .ref 55), (1, .int a1), (2, .int a2), (3, .int a3), (4, .int a4), (5, .int a5)]) (st' := [.int 20, .int 18]) rfl rfl ?_
          refine zy_b (q := (30, [])) (mr := zm_m199) rfl rfl rfl ?_
          refine zy_n 2 (mr := zm_m199) (pc' := 33) (ls' := [(6, .int 18), (7, .int a5), (0, .ref 55), (1, .int a1), (2, .int a2), (3, .int a3), (4, .int a4), (5, .int a5)]) (st' := [.int 4, .int 18]) rfl rfl ?_
          as_aux_lemma =>
            refine zy_b (q := (40, [])) (mr := zm_m199) rfl rfl rfl ?_
            refine zy_n 2 (mr := zm_m199) (pc' := 44) (ls' := [(6, .int 18), (7, .int a5), (0, .ref 55), (1, .int a1), (2, .int a2), (3, .int a3), (4, .int a4), (5, .int a5)]) (st' := [.int 8, .int 18]) rfl rfl ?_
            refine zy_b (q := (51, [])) (mr := zm_m199) rfl rfl rfl ?_
            refine zy_n 2 (mr := zm_m199) (pc' := 55) (ls' := [(6, .int 18), (7, .int a5), (0, .ref 55), (1, .int a1), (2, .int a2), (3, .int a3), (4, .int a4), (5, .int a5)]) (st' := [.int 12, .int 18]) rfl rfl ?_
            refine zy_b (q := (62, [])) (mr := zm_m199) rfl rfl rfl ?_
            refine zy_n 2 (mr := zm_m199) (pc' := 66) (ls' := [(6, .int 18), (7, .int a5), (0, .ref 55), (1, .int a1), (2, .int a2), (3, .int a3), (4, .int a4), (5, .int a5)]) (st' := [.int 16, .int 18]) rfl rfl ?_
            refine zy_b (q := (74, [])) (mr := zm_m199) rfl rfl rfl ?_
            refine zy_n 3 (mr := zm_m199) (pc' := 79) (ls' := [(7, .int a5), (6, .int 18), (0, .ref 55), (1, .int a1), (2, .int a2), (3, .int a3), (4, .int a4), (5, .int a5)]) (st' := [.ref 55]) rfl rfl ?_
            refine zy_h (mr := zm_m199) rfl rfl (zh_get (v := .ref 94) (zs_neE e27 k26 (by decide)) rfl) ?_
            refine zy_n 1 (mr := zm_m199) (pc' := 83) (ls' := [(7, .int a5), (6, .int 18), (0, .ref 55), (1, .int a1), (2, .int a2), (3, .int a3), (4, .int a4), (5, .int a5)]) (st' := [.ref 55, .ref 94]) rfl rfl ?_
            refine zy_h (mr := zm_m199) rfl rfl (zh_get (v := .int 0) (zs_neE e27 k26 (by decide)) rfl) ?_
            refine zy_n 12 (mr := zm_m199) (pc' := 103) (ls' := [(7, .int a5), (6, .int 18), (0, .ref 55), (1, .int a1), (2, .int a2), (3, .int a3), (4, .int a4), (5, .int a5)]) (st' := [.int ((a5 >>> (8 &&& 31)).toInt8.toInt32), .int 18, .ref 94]) rfl rfl ?_
            refine zy_hS (x := _) (mr := zm_m199) rfl rfl (zh_bast (zs_eqE e27 (zs_eqE e25 k24)) (by decide)) (fun he28 e28 => ?_)
            refine zy_n 4 (mr := zm_m199) (pc' := 27) (ls' := [(6, .int 19), (7, .int a5), (0, .ref 55), (1, .int a1), (2, .int a2), (3, .int a3), (4, .int a4), (5, .int a5)]) (st' := [.int 20, .int 19]) rfl rfl ?_
            refine zy_b (q := (30, [])) (mr := zm_m199) rfl rfl rfl ?_
            refine zy_n 2 (mr := zm_m199) (pc' := 33) (ls' := [(6, .int 19), (7, .int a5), (0, .ref 55), (1, .int a1), (2, .int a2), (3, .int a3), (4, .int a4), (5, .int a5)]) (st' := [.int 4, .int 19]) rfl rfl ?_
            refine zy_b (q := (40, [])) (mr := zm_m199) rfl rfl rfl ?_
            refine zy_n 2 (mr := zm_m199) (pc' := 44) (ls' := [(6, .int 19), (7, .int a5), (0, .ref 55), (1, .int a1), (2, .int a2), (3, .int a3), (4, .int a4), (5, .int a5)]) (st' := [.int 8, .int 19]) rfl rfl ?_
            refine zy_b (q := (51, [])) (mr := zm_m199) rfl rfl rfl ?_
            refine zy_n 2 (mr := zm_m199) (pc' := 55) (ls' := [(6, .int 19), (7, .int a5), (0, .ref 55), (1, .int a1), (2, .int a2), (3, .int a3), (4, .int a4), (5, .int a5)]) (st' := [.int 12, .int 19]) rfl rfl ?_
            refine zy_b (q := (62, [])) (mr := zm_m199) rfl rfl rfl ?_
            refine zy_n 2 (mr := zm_m199) (pc' := 66) (ls' := [(6, .int 19), (7, .int a5), (0, .ref 55), (1, .int a1), (2, .int a2), (3, .int a3), (4, .int a4), (5, .int a5)]) (st' := [.int 16, .int 19]) rfl rfl ?_
            refine zy_b (q := (74, [])) (mr := zm_m199) rfl rfl rfl ?_
            refine zy_n 3 (mr := zm_m199) (pc' := 79) (ls' := [(7, .int a5), (6, .int 19), (0, .ref 55), (1, .int a1), (2, .int a2), (3, .int a3), (4, .int a4), (5, .int a5)]) (st' := [.ref 55]) rfl rfl ?_
            refine zy_h (mr := zm_m199) rfl rfl (zh_get (v := .ref 94) (zs_neE e28 (zs_neE e27 k26 (by decide)) (by decide)) rfl) ?_
            refine zy_n 1 (mr := zm_m199) (pc' := 83) (ls' := [(7, .int a5), (6, .int 19), (0, .ref 55), (1, .int a1), (2, .int a2), (3, .int a3), (4, .int a4), (5, .int a5)]) (st' := [.ref 55, .ref 94]) rfl rfl ?_
            refine zy_h (mr := zm_m199) rfl rfl (zh_get (v := .int 0) (zs_neE e28 (zs_neE e27 k26 (by decide)) (by decide)) rfl) ?_
            refine zy_n 12 (mr := zm_m199) (pc' := 103) (ls' := [(7, .int a5), (6, .int 19), (0, .ref 55), (1, .int a1), (2, .int a2), (3, .int a3), (4, .int a4), (5, .int a5)]) (st' := [.int ((a5 >>> (0 &&& 31)).toInt8.toInt32), .int 19, .ref 94]) rfl rfl ?_
            refine zy_hS (x := _) (mr := zm_m199) rfl rfl (zh_bast (zs_eqE e28 (zs_eqE e27 (zs_eqE e25 k24))) (by decide)) (fun he29 e29 => ?_)
            refine zy_n 4 (mr := zm_m199) (pc' := 27) (ls' := [(6, .int 20), (7, .int a5), (0, .ref 55), (1, .int a1), (2, .int a2), (3, .int a3), (4, .int a4), (5, .int a5)]) (st' := [.int 20, .int 20]) rfl rfl ?_
            refine zy_b (q := (110, [])) (mr := zm_m199) rfl rfl rfl ?_
            refine zy_n 2 (mr := zm_m199) (pc' := 112) (ls' := [(6, .int 20), (7, .int a5), (0, .ref 55), (1, .int a1), (2, .int a2), (3, .int a3), (4, .int a4), (5, .int a5)]) (st' := [.ref 55, .ref 55]) rfl rfl ?_
            refine zy_h (mr := zm_m199) rfl rfl (zh_get (v := .int 0) (zs_neE e29 (zs_neE e28 (zs_neE e27 k26 (by decide)) (by decide)) (by decide)) rfl) ?_
            refine zy_n 2 (mr := zm_m199) (pc' := 118) (ls' := [(6, .int 20), (7, .int a5), (0, .ref 55), (1, .int a1), (2, .int a2), (3, .int a3), (4, .int a4), (5, .int a5)]) (st' := [.int 20, .ref 55]) rfl rfl ?_
            refine zy_hS (x := .inr (11, [.int 0, .ref 56, .ref 57, .ref 58, .ref 59, .int 0, .int 0, .int 0, .int 0, .int 0, .int 0, .int 20, .int 30, .int 5, .int 2, .ref 60, .ref 61, .ref 62, .ref 63, .ref 64, .ref 65, .ref 66, .ref 67, .ref 68, .ref 69, .ref 70, .ref 71, .ref 72, .ref 73, .ref 74, .ref 75, .ref 76, .ref 77, .ref 78, .ref 79, .ref 80, .ref 81, .ref 82, .ref 83, .ref 84, .ref 85, .ref 86, .ref 87, .ref 88, .ref 89, .ref 90, .ref 91, .ref 92, .ref 93, .ref 94, .int 20, .int (-1), .ref 95, .ref 96, .ref 97, .ref 98, .int 0, .int 0, .int 0, .int 0, .int 0, .int 0, .int 0, .int 0, .int 0, .int 0, .int 0, .int 0, .int 0, .long 0, .int 0, .int 0, .int 0, .long 0, .long 0, .long 0, .long 0, .int 0, .int 0, .int 0, .int 0, .ref 99, .int 0, .int 0, .int 0, .ref 100, .ref 101, .ref 102, .ref 103, .ref 104, .ref 105, .ref 106, .ref 107, .ref 108, .ref 109, .ref 110, .ref 111, .ref 112, .ref 113, .ref 114, .int 0, .int 0, .int 0, .long 0, .long 0, .int 0, .ref 115, .ref 116, .int 0])) (mr := zm_m199) rfl rfl (zh_put (zs_neE e29 (zs_neE e28 (zs_neE e27 k26 (by decide)) (by decide)) (by decide)) rfl rfl) (fun he30 e30 => ?_)
            refine zy_n 1 (mr := zm_m199) (pc' := 122) (ls' := [(6, .int 20), (7, .int a5), (0, .ref 55), (1, .int a1), (2, .int a2), (3, .int a3), (4, .int a4), (5, .int a5)]) (st' := [.ref 55]) rfl rfl ?_
            have k31 := (zs_eqE e30 (zs_neE e29 (zs_neE e28 (zs_neE e27 k26 (by decide)) (by decide)) (by decide)))
            refine zy_h (mr := zm_m199) rfl rfl (zh_get (v := .int 20) k31 rfl) ?_
            refine zy_r (mr := zm_m199) rfl rfl rfl ?_
            refine ⟨⟨_, rfl, ?_⟩, Nat.le_trans (zs_lleE e30 (zs_lleE e29 (zs_lleE e28 (zs_lleE e27 (zs_lleE e25 (zs_lleE e23 (zs_lleE e22 (zs_lleE e21 (zs_lleE e19 (zs_lleE e18 (zs_lleE e17 (zs_lleE e16 (zs_lleE e13 (zs_lleE e12 (zs_lleE e11 (zs_lleE e10 (zs_lleE e8 (zs_lleE e7 (zs_lleE e6 (zs_lleE e5 (zs_lleE e2 (zs_lleE e1 KL)))))))))))))))))))))) (by decide), Nat.le_trans (zs_szleE (w := 109) e30 (zs_neE e29 (zs_neE e28 (zs_neE e27 k26 (by decide)) (by decide)) (by decide)) rfl rfl (zs_szleE (w := 300) e29 (zs_eqE e28 (zs_eqE e27 (zs_eqE e25 k24))) rfl rfl (zs_szleE (w := 300) e28 (zs_eqE e27 (zs_eqE e25 k24)) rfl rfl (zs_szleE (w := 300) e27 (zs_eqE e25 k24) rfl rfl (zs_szleE (w := 300) e25 k24 rfl rfl (zs_szleE (w := 300) e23 (zs_eqE e22 (zs_eqE e21 (zs_eqE e19 (zs_eqE e18 (zs_eqE e17 (zs_eqE e16 k15)))))) rfl rfl (zs_szleE (w := 300) e22 (zs_eqE e21 (zs_eqE e19 (zs_eqE e18 (zs_eqE e17 (zs_eqE e16 k15))))) rfl rfl (zs_szleE (w := 300) e21 (zs_eqE e19 (zs_eqE e18 (zs_eqE e17 (zs_eqE e16 k15)))) rfl rfl (zs_szleE (w := 300) e19 (zs_eqE e18 (zs_eqE e17 (zs_eqE e16 k15))) rfl rfl (zs_szleE (w := 300) e18 (zs_eqE e17 (zs_eqE e16 k15)) rfl rfl (zs_szleE (w := 300) e17 (zs_eqE e16 k15) rfl rfl (zs_szleE (w := 300) e16 k15 rfl rfl (zs_szleE (w := 300) e13 (zs_eqE e12 (zs_eqE e11 (zs_eqE e10 (zs_eqE e8 (zs_eqE e7 (zs_eqE e6 (zs_eqE e5 k4))))))) rfl rfl (zs_szleE (w := 300) e12 (zs_eqE e11 (zs_eqE e10 (zs_eqE e8 (zs_eqE e7 (zs_eqE e6 (zs_eqE e5 k4)))))) rfl rfl (zs_szleE (w := 300) e11 (zs_eqE e10 (zs_eqE e8 (zs_eqE e7 (zs_eqE e6 (zs_eqE e5 k4))))) rfl rfl (zs_szleE (w := 300) e10 (zs_eqE e8 (zs_eqE e7 (zs_eqE e6 (zs_eqE e5 k4)))) rfl rfl (zs_szleE (w := 300) e8 (zs_eqE e7 (zs_eqE e6 (zs_eqE e5 k4))) rfl rfl (zs_szleE (w := 300) e7 (zs_eqE e6 (zs_eqE e5 k4)) rfl rfl (zs_szleE (w := 300) e6 (zs_eqE e5 k4) rfl rfl (zs_szleE (w := 300) e5 k4 rfl rfl (zs_szleE (w := 300) e2 (zs_neE e1 ((K 94 (by decide) (by decide)).trans (zp_i F 69 rfl)) (by decide)) rfl rfl (zs_szleE (w := 109) e1 ((K 55 (by decide) (by decide)).trans (zp_o F 10 rfl)) rfl rfl KS)))))))))))))))))))))) (by decide)⟩
            first | (simp [zf_8]; done) | (simp [zf_8]; unfold zw; decide)
set_option maxHeartbeats 4000000 in
set_option maxRecDepth 20000 in
theorem zn_9 {og : Nat → Option zm_C} {h h0 : zm_H} (F : zp_ck h = true) (K : ∀ k : Nat, 55 ≤ k → k < 117 → h0[k]? = h[k]?) (KL : h0.length ≤ 200) (KS : zm_szs h0 ≤ 90000) (a1 : Int32) : zm_Y og 30 200 0 [(0, .ref 55), (1, .int a1)] [] h0 (fun r h1 => (∃ v, r = some (.int v) ∧ zf_9 a1 v) ∧ h1.length ≤ 300 ∧ zm_szs h1 ≤ 200000) := by
  refine zy_n 2 (mr := zm_m200) (pc' := 2) (ls' := [(0, .ref 55), (1, .int a1)]) (st' := [.int 0, .ref 55]) rfl rfl ?_
  refine zy_hS (x := .inr (11, [.int 0, .ref 56, .ref 57, .ref 58, .ref 59, .int 0, .int 0, .int 0, .int 0, .int 0, .int 0, .int 20, .int 30, .int 5, .int 2, .ref 60, .ref 61, .ref 62, .ref 63, .ref 64, .ref 65, .ref 66, .ref 67, .ref 68, .ref 69, .ref 70, .ref 71, .ref 72, .ref 73, .ref 74, .ref 75, .ref 76, .ref 77, .ref 78, .ref 79, .ref 80, .ref 81, .ref 82, .ref 83, .ref 84, .ref 85, .ref 86, .ref 87, .ref 88, .ref 89, .ref 90, .ref 91, .ref 92, .ref 93, .ref 94, .int 0, .int (-1), .ref 95, .ref 96, .ref 97, .ref 98, .int 0, .int 0, .int 0, .int 0, .int 0, .int 0, .int 0, .int 0, .int 0, .int 0, .int 0, .int 0, .int 0, .long 0, .int 0, .int 0, .int 0, .long 0, .long 0, .long 0, .long 0, .int 0, .int 0, .int 0, .int 0, .ref 99, .int 0, .int 0, .int 0, .ref 100, .ref 101, .ref 102, .ref 103, .ref 104, .ref 105, .ref 106, .ref 107, .ref 108, .ref 109, .ref 110, .ref 111, .ref 112, .ref 113, .ref 114, .int 0, .int 0, .int 0, .long 0, .long 0, .int 0, .ref 115, .ref 116, .int 0])) (mr := zm_m200) rfl rfl (zh_put ((K 55 (by decide) (by decide)).trans (zp_o F 10 rfl)) rfl rfl) (fun he1 e1 => ?_)
  refine zy_n 4 (mr := zm_m200) (pc' := 9) (ls' := [(0, .ref 55), (1, .int a1)]) (st' := [.ref 55, .long 0, .long a1.toInt64]) rfl rfl ?_
  refine zy_h (mr := zm_m200) rfl rfl (zh_get (v := .int 0) (zs_eqE e1 ((K 55 (by decide) (by decide)).trans (zp_o F 10 rfl))) rfl) ?_
  refine zy_n 1 (mr := zm_m200) (pc' := 13) (ls' := [(0, .ref 55), (1, .int a1)]) (st' := [.long 0, .long 0, .long a1.toInt64]) rfl rfl ?_
  refine zy_c (mc := zm_m183) (mr := zm_m200) rfl rfl rfl rfl rfl (zm_Y.mono (zk_in a1 0 0 rfl (by decide) (by decide)) ?_)
  rintro r h1 ⟨rfl, ⟨rfl, hc2⟩ | ⟨rfl, hc2⟩⟩
  · skip
    refine zy_b (q := (21, [])) (mr := zm_m200) rfl rfl rfl ?_
    refine zy_n 2 (mr := zm_m200) (pc' := 23) (ls' := [(0, .ref 55), (1, .int a1)]) (st' := [.int a1, .ref 55]) rfl rfl ?_
    refine zy_hS (x := .inr (11, [.int 0, .ref 56, .ref 57, .ref 58, .ref 59, .int 0, .int 0, .int 0, .int 0, .int 0, .int 0, .int 20, .int 30, .int 5, .int 2, .ref 60, .ref 61, .ref 62, .ref 63, .ref 64, .ref 65, .ref 66, .ref 67, .ref 68, .ref 69, .ref 70, .ref 71, .ref 72, .ref 73, .ref 74, .ref 75, .ref 76, .ref 77, .ref 78, .ref 79, .ref 80, .ref 81, .ref 82, .ref 83, .ref 84, .ref 85, .ref 86, .ref 87, .ref 88, .ref 89, .ref 90, .ref 91, .ref 92, .ref 93, .ref 94, .int a1, .int (-1), .ref 95, .ref 96, .ref 97, .ref 98, .int 0, .int 0, .int 0, .int 0, .int 0, .int 0, .int 0, .int 0, .int 0, .int 0, .int 0, .int 0, .int 0, .long 0, .int 0, .int 0, .int 0, .long 0, .long 0, .long 0, .long 0, .int 0, .int 0, .int 0, .int 0, .ref 99, .int 0, .int 0, .int 0, .ref 100, .ref 101, .ref 102, .ref 103, .ref 104, .ref 105, .ref 106, .ref 107, .ref 108, .ref 109, .ref 110, .ref 111, .ref 112, .ref 113, .ref 114, .int 0, .int 0, .int 0, .long 0, .long 0, .int 0, .ref 115, .ref 116, .int 0])) (mr := zm_m200) rfl rfl (zh_put (zs_eqE e1 ((K 55 (by decide) (by decide)).trans (zp_o F 10 rfl))) rfl rfl) (fun he3 e3 => ?_)
    refine zy_n 1 (mr := zm_m200) (pc' := 27) (ls' := [(0, .ref 55), (1, .int a1)]) (st' := [.int a1]) rfl rfl ?_
    refine zy_r (mr := zm_m200) rfl rfl rfl ?_
    refine ⟨⟨_, rfl, ?_⟩, Nat.le_trans (zs_lleE e3 (zs_lleE e1 KL)) (by decide), Nat.le_trans (zs_szleE (w := 109) e3 (zs_eqE e1 ((K 55 (by decide) (by decide)).trans (zp_o F 10 rfl))) rfl rfl (zs_szleE (w := 109) e1 ((K 55 (by decide) (by decide)).trans (zp_o F 10 rfl)) rfl rfl KS)) (by decide)⟩
    first | (simp [zf_9, hc2]; done) | (simp [zf_9, hc2]; unfold zw; decide)
  · skip
    refine zy_b (q := (19, [])) (mr := zm_m200) rfl rfl rfl ?_
    refine zy_n 1 (mr := zm_m200) (pc' := 20) (ls' := [(0, .ref 55), (1, .int a1)]) (st' := [.int (-1)]) rfl rfl ?_
    refine zy_r (mr := zm_m200) rfl rfl rfl ?_
    refine ⟨⟨_, rfl, ?_⟩, Nat.le_trans (zs_lleE e1 KL) (by decide), Nat.le_trans (zs_szleE (w := 109) e1 ((K 55 (by decide) (by decide)).trans (zp_o F 10 rfl)) rfl rfl KS) (by decide)⟩
    first | (simp [zf_9, hc2]; done) | (simp [zf_9, hc2]; unfold zw; decide)
set_option maxHeartbeats 4000000 in
set_option maxRecDepth 20000 in
theorem zn_10 {og : Nat → Option zm_C} {h h0 : zm_H} (F : zp_ck h = true) (K : ∀ k : Nat, 55 ≤ k → k < 117 → h0[k]? = h[k]?) (KL : h0.length ≤ 200) (KS : zm_szs h0 ≤ 90000) (a1 : Int32) : zm_Y og 30 201 0 [(0, .ref 55), (1, .int a1)] [] h0 (fun r h1 => (∃ v, r = some (.int v) ∧ zf_10 a1 v) ∧ h1.length ≤ 300 ∧ zm_szs h1 ≤ 200000) := by
  refine zy_n 2 (mr := zm_m201) (pc' := 2) (ls' := [(0, .ref 55), (1, .int a1)]) (st' := [.int 0, .ref 55]) rfl rfl ?_
  refine zy_hS (x := .inr (11, [.int 0, .ref 56, .ref 57, .ref 58, .ref 59, .int 0, .int 0, .int 0, .int 0, .int 0, .int 0, .int 20, .int 30, .int 5, .int 2, .ref 60, .ref 61, .ref 62, .ref 63, .ref 64, .ref 65, .ref 66, .ref 67, .ref 68, .ref 69, .ref 70, .ref 71, .ref 72, .ref 73, .ref 74, .ref 75, .ref 76, .ref 77, .ref 78, .ref 79, .ref 80, .ref 81, .ref 82, .ref 83, .ref 84, .ref 85, .ref 86, .ref 87, .ref 88, .ref 89, .ref 90, .ref 91, .ref 92, .ref 93, .ref 94, .int 0, .int (-1), .ref 95, .ref 96, .ref 97, .ref 98, .int 0, .int 0, .int 0, .int 0, .int 0, .int 0, .int 0, .int 0, .int 0, .int 0, .int 0, .int 0, .int 0, .long 0, .int 0, .int 0, .int 0, .long 0, .long 0, .long 0, .long 0, .int 0, .int 0, .int 0, .int 0, .ref 99, .int 0, .int 0, .int 0, .ref 100, .ref 101, .ref 102, .ref 103, .ref 104, .ref 105, .ref 106, .ref 107, .ref 108, .ref 109, .ref 110, .ref 111, .ref 112, .ref 113, .ref 114, .int 0, .int 0, .int 0, .long 0, .long 0, .int 0, .ref 115, .ref 116, .int 0])) (mr := zm_m201) rfl rfl (zh_put ((K 55 (by decide) (by decide)).trans (zp_o F 10 rfl)) rfl rfl) (fun he1 e1 => ?_)
  refine zy_n 4 (mr := zm_m201) (pc' := 9) (ls' := [(2, .int 0), (0, .ref 55), (1, .int a1)]) (st' := [.ref 55, .int 0]) rfl rfl ?_
  refine zy_h (mr := zm_m201) rfl rfl (zh_get (v := .int 0) (zs_eqE e1 ((K 55 (by decide) (by decide)).trans (zp_o F 10 rfl))) rfl) ?_
  refine zy_b (q := (31, [])) (mr := zm_m201) rfl rfl rfl ?_
  refine zy_n 1 (mr := zm_m201) (pc' := 32) (ls' := [(2, .int 0), (0, .ref 55), (1, .int a1)]) (st' := [.int a1]) rfl rfl ?_
  refine zy_c (mc := zm_m202) (mr := zm_m201) rfl rfl rfl rfl rfl ?_
  refine zy_n 4 (mr := zm_m202) (pc' := 6) (ls' := [(0, .int a1)]) (st' := [.long 99, .long 0, .long a1.toInt64]) rfl rfl ?_
  refine zy_c (mc := zm_m183) (mr := zm_m202) rfl rfl rfl rfl rfl (zm_Y.mono (zk_in a1 0 99 rfl (by decide) (by decide)) ?_)
  rintro r h1 ⟨rfl, ⟨rfl, hc2⟩ | ⟨rfl, hc2⟩⟩
  · skip
    refine zy_r (mr := zm_m202) rfl rfl rfl ?_
    refine zy_b (q := (38, [])) (mr := zm_m201) rfl rfl rfl ?_
    refine zy_n 2 (mr := zm_m201) (pc' := 41) (ls' := [(2, .int 0), (0, .ref 55), (1, .int a1)]) (st' := [.int 12, .int 0]) rfl rfl ?_
    refine zy_b (q := (47, [])) (mr := zm_m201) rfl rfl rfl ?_
    refine zy_n 2 (mr := zm_m201) (pc' := 50) (ls' := [(2, .int 0), (0, .ref 55), (1, .int a1)]) (st' := [.int 13, .ref 55]) rfl rfl ?_
    refine zy_c (mc := zm_m203) (mr := zm_m201) rfl rfl (zh_v rfl (zs_eqE e1 ((K 55 (by decide) (by decide)).trans (zp_o F 10 rfl))) rfl) rfl rfl ?_
    refine zy_n 4 (mr := zm_m203) (pc' := 4) (ls' := [(2, .int 0), (0, .ref 55), (1, .int 13)]) (st' := [.ref 55, .int 0]) rfl rfl ?_
    refine zy_h (mr := zm_m203) rfl rfl (zh_get (v := .int 0) (zs_eqE e1 ((K 55 (by decide) (by decide)).trans (zp_o F 10 rfl))) rfl) ?_
    refine zy_b (q := (34, [])) (mr := zm_m203) rfl rfl rfl ?_
    refine zy_n 1 (mr := zm_m203) (pc' := 35) (ls' := [(2, .int 0), (0, .ref 55), (1, .int 13)]) (st' := [.ref 55]) rfl rfl ?_
    refine zy_h (mr := zm_m203) rfl rfl (zh_get (v := .ref 96) (zs_eqE e1 ((K 55 (by decide) (by decide)).trans (zp_o F 10 rfl))) rfl) ?_
    refine zy_n 2 (mr := zm_m203) (pc' := 40) (ls' := [(2, .int 0), (0, .ref 55), (1, .int 13)]) (st' := [.ref 55, .int 13, .ref 96]) rfl rfl ?_
    refine zy_h (mr := zm_m203) rfl rfl (zh_get (v := .int 0) (zs_eqE e1 ((K 55 (by decide) (by decide)).trans (zp_o F 10 rfl))) rfl) ?_
    refine zy_hS (x := _) (mr := zm_m203) rfl rfl (zh_iast (zs_neE e1 ((K 96 (by decide) (by decide)).trans (zp_i F 71 rfl)) (by decide)) (by decide)) (fun he3 e3 => ?_)
    refine zy_n 2 (mr := zm_m203) (pc' := 46) (ls' := [(2, .int 0), (0, .ref 55), (1, .int 13)]) (st' := [.int 0, .ref 55]) rfl rfl ?_
    have k4 := (zs_neE e3 (zs_eqE e1 ((K 55 (by decide) (by decide)).trans (zp_o F 10 rfl))) (by decide))
    refine zy_hS (x := .inr (11, [.int 0, .ref 56, .ref 57, .ref 58, .ref 59, .int 0, .int 0, .int 0, .int 0, .int 0, .int 0, .int 20, .int 30, .int 5, .int 2, .ref 60, .ref 61, .ref 62, .ref 63, .ref 64, .ref 65, .ref 66, .ref 67, .ref 68, .ref 69, .ref 70, .ref 71, .ref 72, .ref 73, .ref 74, .ref 75, .ref 76, .ref 77, .ref 78, .ref 79, .ref 80, .ref 81, .ref 82, .ref 83, .ref 84, .ref 85, .ref 86, .ref 87, .ref 88, .ref 89, .ref 90, .ref 91, .ref 92, .ref 93, .ref 94, .int 0, .int (-1), .ref 95, .ref 96, .ref 97, .ref 98, .int 0, .int 0, .int 0, .int 0, .int 0, .int 0, .int 0, .int 0, .int 0, .int 0, .int 0, .int 0, .int 0, .long 0, .int 0, .int 0, .int 0, .long 0, .long 0, .long 0, .long 0, .int 0, .int 0, .int 0, .int 0, .ref 99, .int 0, .int 0, .int 0, .ref 100, .ref 101, .ref 102, .ref 103, .ref 104, .ref 105, .ref 106, .ref 107, .ref 108, .ref 109, .ref 110, .ref 111, .ref 112, .ref 113, .ref 114, .int 0, .int 0, .int 0, .long 0, .long 0, .int 0, .ref 115, .ref 116, .int 0])) (mr := zm_m203) rfl rfl (zh_put k4 rfl rfl) (fun he5 e5 => ?_)
    refine zy_n 2 (mr := zm_m203) (pc' := 51) (ls' := [(2, .int 0), (0, .ref 55), (1, .int 13)]) (st' := [.int (-1), .ref 55]) rfl rfl ?_
    have k6 := (zs_eqE e5 (zs_neE e3 (zs_eqE e1 ((K 55 (by decide) (by decide)).trans (zp_o F 10 rfl))) (by decide)))
    refine zy_hS (x := .inr (11, [.int 0, .ref 56, .ref 57, .ref 58, .ref 59, .int 0, .int 0, .int 0, .int 0, .int 0, .int 0, .int 20, .int 30, .int 5, .int 2, .ref 60, .ref 61, .ref 62, .ref 63, .ref 64, .ref 65, .ref 66, .ref 67, .ref 68, .ref 69, .ref 70, .ref 71, .ref 72, .ref 73, .ref 74, .ref 75, .ref 76, .ref 77, .ref 78, .ref 79, .ref 80, .ref 81, .ref 82, .ref 83, .ref 84, .ref 85, .ref 86, .ref 87, .ref 88, .ref 89, .ref 90, .ref 91, .ref 92, .ref 93, .ref 94, .int 0, .int (-1), .ref 95, .ref 96, .ref 97, .ref 98, .int 0, .int 0, .int 0, .int 0, .int 0, .int 0, .int 0, .int 0, .int 0, .int 0, .int 0, .int 0, .int 0, .long 0, .int 0, .int 0, .int 0, .long 0, .long 0, .long 0, .long 0, .int 0, .int 0, .int 0, .int 0, .ref 99, .int 0, .int 0, .int 0, .ref 100, .ref 101, .ref 102, .ref 103, .ref 104, .ref 105, .ref 106, .ref 107, .ref 108, .ref 109, .ref 110, .ref 111, .ref 112, .ref 113, .ref 114, .int 0, .int 0, .int 0, .long 0, .long 0, .int 0, .ref 115, .ref 116, .int 0])) (mr := zm_m203) rfl rfl (zh_put k6 rfl rfl) (fun he7 e7 => ?_)
    refine zy_r (mr := zm_m203) rfl rfl rfl ?_
    refine zy_n 6 (mr := zm_m201) (pc' := 60) (ls' := [(2, .int 0), (0, .ref 55), (1, .int a1)]) (st' := [.int (-1), .long 0, .int 0, .int (-1), .int 13, .ref 55]) rfl rfl ?_
    have k8 := (zs_eqE e7 (zs_eqE e5 (zs_neE e3 (zs_eqE e1 ((K 55 (by decide) (by decide)).trans (zp_o F 10 rfl))) (by decide))))
    refine zy_c (mc := zm_m204) (mr := zm_m201) rfl rfl (zh_v rfl k8 rfl) rfl rfl ?_
    refine zy_n 2 (mr := zm_m204) (pc' := 2) (ls' := [(0, .ref 55), (1, .int 13), (2, .int (-1)), (3, .int 0), (4, .long 0), (6, .int (-1))]) (st' := [.long 1, .ref 55]) rfl rfl ?_
    refine zy_hS (x := .inr (11, [.int 0, .ref 56, .ref 57, .ref 58, .ref 59, .int 0, .int 0, .int 0, .int 0, .int 0, .int 0, .int 20, .int 30, .int 5, .int 2, .ref 60, .ref 61, .ref 62, .ref 63, .ref 64, .ref 65, .ref 66, .ref 67, .ref 68, .ref 69, .ref 70, .ref 71, .ref 72, .ref 73, .ref 74, .ref 75, .ref 76, .ref 77, .ref 78, .ref 79, .ref 80, .ref 81, .ref 82, .ref 83, .ref 84, .ref 85, .ref 86, .ref 87, .ref 88, .ref 89, .ref 90, .ref 91, .ref 92, .ref 93, .ref 94, .int 0, .int (-1), .ref 95, .ref 96, .ref 97, .ref 98, .int 0, .int 0, .int 0, .int 0, .int 0, .int 0, .int 0, .int 0, .int 0, .int 0, .int 0, .int 0, .int 0, .long 0, .int 0, .int 0, .int 0, .long 1, .long 0, .long 0, .long 0, .int 0, .int 0, .int 0, .int 0, .ref 99, .int 0, .int 0, .int 0, .ref 100, .ref 101, .ref 102, .ref 103, .ref 104, .ref 105, .ref 106, .ref 107, .ref 108, .ref 109, .ref 110, .ref 111, .ref 112, .ref 113, .ref 114, .int 0, .int 0, .int 0, .long 0, .long 0, .int 0, .ref 115, .ref 116, .int 0])) (mr := zm_m204) rfl rfl (zh_put k8 rfl rfl) (fun he9 e9 => ?_)
    refine zy_n 2 (mr := zm_m204) (pc' := 7) (ls' := [(0, .ref 55), (1, .int 13), (2, .int (-1)), (3, .int 0), (4, .long 0), (6, .int (-1))]) (st' := [.int 0, .ref 55]) rfl rfl ?_
    refine zy_hS (x := .inr (11, [.int 0, .ref 56, .ref 57, .ref 58, .ref 59, .int 0, .int 0, .int 0, .int 0, .int 0, .int 0, .int 20, .int 30, .int 5, .int 2, .ref 60, .ref 61, .ref 62, .ref 63, .ref 64, .ref 65, .ref 66, .ref 67, .ref 68, .ref 69, .ref 70, .ref 71, .ref 72, .ref 73, .ref 74, .ref 75, .ref 76, .ref 77, .ref 78, .ref 79, .ref 80, .ref 81, .ref 82, .ref 83, .ref 84, .ref 85, .ref 86, .ref 87, .ref 88, .ref 89, .ref 90, .ref 91, .ref 92, .ref 93, .ref 94, .int 0, .int (-1), .ref 95, .ref 96, .ref 97, .ref 98, .int 0, .int 0, .int 0, .int 0, .int 0, .int 0, .int 0, .int 0, .int 0, .int 0, .int 0, .int 0, .int 0, .long 0, .int 0, .int 0, .int 0, .long 1, .long 0, .long 0, .long 0, .int 0, .int 0, .int 0, .int 0, .ref 99, .int 0, .int 0, .int 0, .ref 100, .ref 101, .ref 102, .ref 103, .ref 104, .ref 105, .ref 106, .ref 107, .ref 108, .ref 109, .ref 110, .ref 111, .ref 112, .ref 113, .ref 114, .int 0, .int 0, .int 0, .long 0, .long 0, .int 0, .ref 115, .ref 116, .int 0])) (mr := zm_m204) rfl rfl (zh_put (zs_eqE e9 k8) rfl (by decide)) (fun he10 e10 => ?_)
    refine zy_n 2 (mr := zm_m204) (pc' := 12) (ls' := [(0, .ref 55), (1, .int 13), (2, .int (-1)), (3, .int 0), (4, .long 0), (6, .int (-1))]) (st' := [.long 0, .ref 55]) rfl rfl ?_
    refine zy_hS (x := .inr (11, [.int 0, .ref 56, .ref 57, .ref 58, .ref 59, .int 0, .int 0, .int 0, .int 0, .int 0, .int 0, .int 20, .int 30, .int 5, .int 2, .ref 60, .ref 61, .ref 62, .ref 63, .ref 64, .ref 65, .ref 66, .ref 67, .ref 68, .ref 69, .ref 70, .ref 71, .ref 72, .ref 73, .ref 74, .ref 75, .ref 76, .ref 77, .ref 78, .ref 79, .ref 80, .ref 81, .ref 82, .ref 83, .ref 84, .ref 85, .ref 86, .ref 87, .ref 88, .ref 89, .ref 90, .ref 91, .ref 92, .ref 93, .ref 94, .int 0, .int (-1), .ref 95, .ref 96, .ref 97, .ref 98, .int 0, .int 0, .int 0, .int 0, .int 0, .int 0, .int 0, .int 0, .int 0, .int 0, .int 0, .int 0, .int 0, .long 0, .int 0, .int 0, .int 0, .long 1, .long 0, .long 0, .long 0, .int 0, .int 0, .int 0, .int 0, .ref 99, .int 0, .int 0, .int 0, .ref 100, .ref 101, .ref 102, .ref 103, .ref 104, .ref 105, .ref 106, .ref 107, .ref 108, .ref 109, .ref 110, .ref 111, .ref 112, .ref 113, .ref 114, .int 0, .int 0, .int 0, .long 0, .long 0, .int 0, .ref 115, .ref 116, .int 0])) (mr := zm_m204) rfl rfl (zh_put (zs_eqE e10 (zs_eqE e9 k8)) rfl rfl) (fun he11 e11 => ?_)
    refine zy_n 2 (mr := zm_m204) (pc' := 17) (ls' := [(0, .ref 55), (1, .int 13), (2, .int (-1)), (3, .int 0), (4, .long 0), (6, .int (-1))]) (st' := [.int (-1), .ref 55]) rfl rfl ?_
    refine zy_hS (x := .inr (11, [.int 0, .ref 56, .ref 57, .ref 58, .ref 59, .int 0, .int 0, .int 0, .int 0, .int 0, .int 0, .int 20, .int 30, .int 5, .int 2, .ref 60, .ref 61, .ref 62, .ref 63, .ref 64, .ref 65, .ref 66, .ref 67, .ref 68, .ref 69, .ref 70, .ref 71, .ref 72, .ref 73, .ref 74, .ref 75, .ref 76, .ref 77, .ref 78, .ref 79, .ref 80, .ref 81, .ref 82, .ref 83, .ref 84, .ref 85, .ref 86, .ref 87, .ref 88, .ref 89, .ref 90, .ref 91, .ref 92, .ref 93, .ref 94, .int 0, .int (-1), .ref 95, .ref 96, .ref 97, .ref 98, .int 0, .int 0, .int 0, .int 0, .int 0, .int 0, .int 0, .int 0, .int 0, .int 0, .int 0, .int 0, .int 0, .long 0, .int 0, .int 0, .int 0, .long 1, .long 0, .long 0, .long 0, .int (-1), .int 0, .int 0, .int 0, .ref 99, .int 0, .int 0, .int 0, .ref 100, .ref 101, .ref 102, .ref 103, .ref 104, .ref 105, .ref 106, .ref 107, .ref 108, .ref 109, .ref 110, .ref 111, .ref 112, .ref 113, .ref 114, .int 0, .int 0, .int 0, .long 0, .long 0, .int 0, .ref 115, .ref 116, .int 0])) (mr := zm_m204) rfl rfl (zh_put (zs_eqE e11 (zs_eqE e10 (zs_eqE e9 k8))) rfl rfl) (fun he12 e12 => ?_)
    refine zy_n 2 (mr := zm_m204) (pc' := 22) (ls' := [(0, .ref 55), (1, .int 13), (2, .int (-1)), (3, .int 0), (4, .long 0), (6, .int (-1))]) (st' := [.long 0, .ref 55]) rfl rfl ?_
    refine zy_hS (x := .inr (11, [.int 0, .ref 56, .ref 57, .ref 58, .ref 59, .int 0, .int 0, .int 0, .int 0, .int 0, .int 0, .int 20, .int 30, .int 5, .int 2, .ref 60, .ref 61, .ref 62, .ref 63, .ref 64, .ref 65, .ref 66, .ref 67, .ref 68, .ref 69, .ref 70, .ref 71, .ref 72, .ref 73, .ref 74, .ref 75, .ref 76, .ref 77, .ref 78, .ref 79, .ref 80, .ref 81, .ref 82, .ref 83, .ref 84, .ref 85, .ref 86, .ref 87, .ref 88, .ref 89, .ref 90, .ref 91, .ref 92, .ref 93, .ref 94, .int 0, .int (-1), .ref 95, .ref 96, .ref 97, .ref 98, .int 0, .int 0, .int 0, .int 0, .int 0, .int 0, .int 0, .int 0, .int 0, .int 0, .int 0, .int 0, .int 0, .long 0, .int 0, .int 0, .int 0, .long 1, .long 0, .long 0, .long 0, .int (-1), .int 0, .int 0, .int 0, .ref 99, .int 0, .int 0, .int 0, .ref 100, .ref 101, .ref 102, .ref 103, .ref 104, .ref 105, .ref 106, .ref 107, .ref 108, .ref 109, .ref 110, .ref 111, .ref 112, .ref 113, .ref 114, .int 0, .int 0, .int 0, .long 0, .long 0, .int 0, .ref 115, .ref 116, .int 0])) (mr := zm_m204) rfl rfl (zh_put (zs_eqE e12 (zs_eqE e11 (zs_eqE e10 (zs_eqE e9 k8)))) rfl rfl) (fun he13 e13 => ?_)
    refine zy_n 2 (mr := zm_m204) (pc' := 29) (ls' := [(0, .ref 55), (1, .int 13), (2, .int (-1)), (3, .int 0), (4, .long 0), (6, .int (-1))]) (st' := [.long 100, .ref 55]) rfl rfl ?_
    refine zy_hS (x := .inr (11, [.int 0, .ref 56, .ref 57, .ref 58, .ref 59, .int 0, .int 0, .int 0, .int 0, .int 0, .int 0, .int 20, .int 30, .int 5, .int 2, .ref 60, .ref 61, .ref 62, .ref 63, .ref 64, .ref 65, .ref 66, .ref 67, .ref 68, .ref 69, .ref 70, .ref 71, .ref 72, .ref 73, .ref 74, .ref 75, .ref 76, .ref 77, .ref 78, .ref 79, .ref 80, .ref 81, .ref 82, .ref 83, .ref 84, .ref 85, .ref 86, .ref 87, .ref 88, .ref 89, .ref 90, .ref 91, .ref 92, .ref 93, .ref 94, .int 0, .int (-1), .ref 95, .ref 96, .ref 97, .ref 98, .int 0, .int 0, .int 0, .int 0, .int 0, .int 0, .int 0, .int 0, .int 0, .int 0, .int 0, .int 0, .int 0, .long 0, .int 0, .int 0, .int 0, .long 1, .long 0, .long 0, .long 100, .int (-1), .int 0, .int 0, .int 0, .ref 99, .int 0, .int 0, .int 0, .ref 100, .ref 101, .ref 102, .ref 103, .ref 104, .ref 105, .ref 106, .ref 107, .ref 108, .ref 109, .ref 110, .ref 111, .ref 112, .ref 113, .ref 114, .int 0, .int 0, .int 0, .long 0, .long 0, .int 0, .ref 115, .ref 116, .int 0])) (mr := zm_m204) rfl rfl (zh_put (zs_eqE e13 (zs_eqE e12 (zs_eqE e11 (zs_eqE e10 (zs_eqE e9 k8))))) rfl rfl) (fun he14 e14 => ?_)
    refine zy_n 2 (mr := zm_m204) (pc' := 34) (ls' := [(0, .ref 55), (1, .int 13), (2, .int (-1)), (3, .int 0), (4, .long 0), (6, .int (-1))]) (st' := [.int 0, .ref 55]) rfl rfl ?_
    refine zy_hS (x := .inr (11, [.int 0, .ref 56, .ref 57, .ref 58, .ref 59, .int 0, .int 0, .int 0, .int 0, .int 0, .int 0, .int 20, .int 30, .int 5, .int 2, .ref 60, .ref 61, .ref 62, .ref 63, .ref 64, .ref 65, .ref 66, .ref 67, .ref 68, .ref 69, .ref 70, .ref 71, .ref 72, .ref 73, .ref 74, .ref 75, .ref 76, .ref 77, .ref 78, .ref 79, .ref 80, .ref 81, .ref 82, .ref 83, .ref 84, .ref 85, .ref 86, .ref 87, .ref 88, .ref 89, .ref 90, .ref 91, .ref 92, .ref 93, .ref 94, .int 0, .int (-1), .ref 95, .ref 96, .ref 97, .ref 98, .int 0, .int 0, .int 0, .int 0, .int 0, .int 0, .int 0, .int 0, .int 0, .int 0, .int 0, .int 0, .int 0, .long 0, .int 0, .int 0, .int 0, .long 1, .long 0, .long 0, .long 100, .int (-1), .int 0, .int 0, .int 0, .ref 99, .int 0, .int 0, .int 0, .ref 100, .ref 101, .ref 102, .ref 103, .ref 104, .ref 105, .ref 106, .ref 107, .ref 108, .ref 109, .ref 110, .ref 111, .ref 112, .ref 113, .ref 114, .int 0, .int 0, .int 0, .long 0, .long 0, .int 0, .ref 115, .ref 116, .int 0])) (mr := zm_m204) rfl rfl (zh_put (zs_eqE e14 (zs_eqE e13 (zs_eqE e12 (zs_eqE e11 (zs_eqE e10 (zs_eqE e9 k8)))))) rfl (by decide)) (fun he15 e15 => ?_)
    refine zy_n 2 (mr := zm_m204) (pc' := 39) (ls' := [(0, .ref 55), (1, .int 13), (2, .int (-1)), (3, .int 0), (4, .long 0), (6, .int (-1))]) (st' := [.int 0, .ref 55]) rfl rfl ?_
    as_aux_lemma =>
      have k16 := (zs_eqE e15 (zs_eqE e14 (zs_eqE e13 (zs_eqE e12 (zs_eqE e11 (zs_eqE e10 (zs_eqE e9 k8)))))))
      refine zy_hS (x := .inr (11, [.int 0, .ref 56, .ref 57, .ref 58, .ref 59, .int 0, .int 0, .int 0, .int 0, .int 0, .int 0, .int 20, .int 30, .int 5, .int 2, .ref 60, .ref 61, .ref 62, .ref 63, .ref 64, .ref 65, .ref 66, .ref 67, .ref 68, .ref 69, .ref 70, .ref 71, .ref 72, .ref 73, .ref 74, .ref 75, .ref 76, .ref 77, .ref 78, .ref 79, .ref 80, .ref 81, .ref 82, .ref 83, .ref 84, .ref 85, .ref 86, .ref 87, .ref 88, .ref 89, .ref 90, .ref 91, .ref 92, .ref 93, .ref 94, .int 0, .int (-1), .ref 95, .ref 96, .ref 97, .ref 98, .int 0, .int 0, .int 0, .int 0, .int 0, .int 0, .int 0, .int 0, .int 0, .int 0, .int 0, .int 0, .int 0, .long 0, .int 0, .int 0, .int 0, .long 1, .long 0, .long 0, .long 100, .int (-1), .int 0, .int 0, .int 0, .ref 99, .int 0, .int 0, .int 0, .ref 100, .ref 101, .ref 102, .ref 103, .ref 104, .ref 105, .ref 106, .ref 107, .ref 108, .ref 109, .ref 110, .ref 111, .ref 112, .ref 113, .ref 114, .int 0, .int 0, .int 0, .long 0, .long 0, .int 0, .ref 115, .ref 116, .int 0])) (mr := zm_m204) rfl rfl (zh_put k16 rfl (by decide)) (fun he17 e17 => ?_)
      refine zy_n 2 (mr := zm_m204) (pc' := 44) (ls' := [(0, .ref 55), (1, .int 13), (2, .int (-1)), (3, .int 0), (4, .long 0), (6, .int (-1))]) (st' := [.int (-1), .int 13]) rfl rfl ?_
      refine zy_b (q := (48, [])) (mr := zm_m204) rfl rfl rfl ?_
      refine zy_n 2 (mr := zm_m204) (pc' := 50) (ls' := [(0, .ref 55), (1, .int 13), (2, .int (-1)), (3, .int 0), (4, .long 0), (6, .int (-1))]) (st' := [.int 0, .ref 55]) rfl rfl ?_
      have k18 := (zs_eqE e17 (zs_eqE e15 (zs_eqE e14 (zs_eqE e13 (zs_eqE e12 (zs_eqE e11 (zs_eqE e10 (zs_eqE e9 k8))))))))
      refine zy_hS (x := .inr (11, [.int 0, .ref 56, .ref 57, .ref 58, .ref 59, .int 0, .int 0, .int 0, .int 0, .int 0, .int 0, .int 20, .int 30, .int 5, .int 2, .ref 60, .ref 61, .ref 62, .ref 63, .ref 64, .ref 65, .ref 66, .ref 67, .ref 68, .ref 69, .ref 70, .ref 71, .ref 72, .ref 73, .ref 74, .ref 75, .ref 76, .ref 77, .ref 78, .ref 79, .ref 80, .ref 81, .ref 82, .ref 83, .ref 84, .ref 85, .ref 86, .ref 87, .ref 88, .ref 89, .ref 90, .ref 91, .ref 92, .ref 93, .ref 94, .int 0, .int (-1), .ref 95, .ref 96, .ref 97, .ref 98, .int 0, .int 0, .int 0, .int 0, .int 0, .int 0, .int 0, .int 0, .int 0, .int 0, .int 0, .int 0, .int 0, .long 0, .int 0, .int 0, .int 0, .long 1, .long 0, .long 0, .long 100, .int (-1), .int 0, .int 0, .int 0, .ref 99, .int 0, .int 0, .int 0, .ref 100, .ref 101, .ref 102, .ref 103, .ref 104, .ref 105, .ref 106, .ref 107, .ref 108, .ref 109, .ref 110, .ref 111, .ref 112, .ref 113, .ref 114, .int 0, .int 0, .int 0, .long 0, .long 0, .int 0, .ref 115, .ref 116, .int 0])) (mr := zm_m204) rfl rfl (zh_put k18 rfl (by decide)) (fun he19 e19 => ?_)
      refine zy_n 2 (mr := zm_m204) (pc' := 55) (ls' := [(0, .ref 55), (1, .int 13), (2, .int (-1)), (3, .int 0), (4, .long 0), (6, .int (-1))]) (st' := [.int (-1), .ref 55]) rfl rfl ?_
      have k20 := (zs_eqE e19 (zs_eqE e17 (zs_eqE e15 (zs_eqE e14 (zs_eqE e13 (zs_eqE e12 (zs_eqE e11 (zs_eqE e10 (zs_eqE e9 k8)))))))))
      refine zy_hS (x := .inr (11, [.int 0, .ref 56, .ref 57, .ref 58, .ref 59, .int 0, .int 0, .int 0, .int 0, .int 0, .int 0, .int 20, .int 30, .int 5, .int 2, .ref 60, .ref 61, .ref 62, .ref 63, .ref 64, .ref 65, .ref 66, .ref 67, .ref 68, .ref 69, .ref 70, .ref 71, .ref 72, .ref 73, .ref 74, .ref 75, .ref 76, .ref 77, .ref 78, .ref 79, .ref 80, .ref 81, .ref 82, .ref 83, .ref 84, .ref 85, .ref 86, .ref 87, .ref 88, .ref 89, .ref 90, .ref 91, .ref 92, .ref 93, .ref 94, .int 0, .int (-1), .ref 95, .ref 96, .ref 97, .ref 98, .int 0, .int 0, .int 0, .int 0, .int 0, .int 0, .int 0, .int 0, .int 0, .int (-1), .int 0, .int 0, .int 0, .long 0, .int 0, .int 0, .int 0, .long 1, .long 0, .long 0, .long 100, .int (-1), .int 0, .int 0, .int 0, .ref 99, .int 0, .int 0, .int 0, .ref 100, .ref 101, .ref 102, .ref 103, .ref 104, .ref 105, .ref 106, .ref 107, .ref 108, .ref 109, .ref 110, .ref 111, .ref 112, .ref 113, .ref 114, .int 0, .int 0, .int 0, .long 0, .long 0, .int 0, .ref 115, .ref 116, .int 0])) (mr := zm_m204) rfl rfl (zh_put k20 rfl rfl) (fun he21 e21 => ?_)
      refine zy_n 2 (mr := zm_m204) (pc' := 60) (ls' := [(0, .ref 55), (1, .int 13), (2, .int (-1)), (3, .int 0), (4, .long 0), (6, .int (-1))]) (st' := [.int 0, .ref 55]) rfl rfl ?_
      have k22 := (zs_eqE e21 (zs_eqE e19 (zs_eqE e17 (zs_eqE e15 (zs_eqE e14 (zs_eqE e13 (zs_eqE e12 (zs_eqE e11 (zs_eqE e10 (zs_eqE e9 k8))))))))))
      refine zy_hS (x := .inr (11, [.int 0, .ref 56, .ref 57, .ref 58, .ref 59, .int 0, .int 0, .int 0, .int 0, .int 0, .int 0, .int 20, .int 30, .int 5, .int 2, .ref 60, .ref 61, .ref 62, .ref 63, .ref 64, .ref 65, .ref 66, .ref 67, .ref 68, .ref 69, .ref 70, .ref 71, .ref 72, .ref 73, .ref 74, .ref 75, .ref 76, .ref 77, .ref 78, .ref 79, .ref 80, .ref 81, .ref 82, .ref 83, .ref 84, .ref 85, .ref 86, .ref 87, .ref 88, .ref 89, .ref 90, .ref 91, .ref 92, .ref 93, .ref 94, .int 0, .int (-1), .ref 95, .ref 96, .ref 97, .ref 98, .int 0, .int 0, .int 0, .int 0, .int 0, .int 0, .int 0, .int 0, .int 0, .int (-1), .int 0, .int 0, .int 0, .long 0, .int 0, .int 0, .int 0, .long 1, .long 0, .long 0, .long 100, .int (-1), .int 0, .int 0, .int 0, .ref 99, .int 0, .int 0, .int 0, .ref 100, .ref 101, .ref 102, .ref 103, .ref 104, .ref 105, .ref 106, .ref 107, .ref 108, .ref 109, .ref 110, .ref 111, .ref 112, .ref 113, .ref 114, .int 0, .int 0, .int 0, .long 0, .long 0, .int 0, .ref 115, .ref 116, .int 0])) (mr := zm_m204) rfl rfl (zh_put k22 rfl rfl) (fun he23 e23 => ?_)
      refine zy_n 2 (mr := zm_m204) (pc' := 66) (ls' := [(0, .ref 55), (1, .int 13), (2, .int (-1)), (3, .int 0), (4, .long 0), (6, .int (-1))]) (st' := [.long 0, .ref 55]) rfl rfl ?_
      have k24 := (zs_eqE e23 (zs_eqE e21 (zs_eqE e19 (zs_eqE e17 (zs_eqE e15 (zs_eqE e14 (zs_eqE e13 (zs_eqE e12 (zs_eqE e11 (zs_eqE e10 (zs_eqE e9 k8)))))))))))
      refine zy_hS (x := .inr (11, [.int 0, .ref 56, .ref 57, .ref 58, .ref 59, .int 0, .int 0, .int 0, .int 0, .int 0, .int 0, .int 20, .int 30, .int 5, .int 2, .ref 60, .ref 61, .ref 62, .ref 63, .ref 64, .ref 65, .ref 66, .ref 67, .ref 68, .ref 69, .ref 70, .ref 71, .ref 72, .ref 73, .ref 74, .ref 75, .ref 76, .ref 77, .ref 78, .ref 79, .ref 80, .ref 81, .ref 82, .ref 83, .ref 84, .ref 85, .ref 86, .ref 87, .ref 88, .ref 89, .ref 90, .ref 91, .ref 92, .ref 93, .ref 94, .int 0, .int (-1), .ref 95, .ref 96, .ref 97, .ref 98, .int 0, .int 0, .int 0, .int 0, .int 0, .int 0, .int 0, .int 0, .int 0, .int (-1), .int 0, .int 0, .int 0, .long 0, .int 0, .int 0, .int 0, .long 1, .long 0, .long 0, .long 100, .int (-1), .int 0, .int 0, .int 0, .ref 99, .int 0, .int 0, .int 0, .ref 100, .ref 101, .ref 102, .ref 103, .ref 104, .ref 105, .ref 106, .ref 107, .ref 108, .ref 109, .ref 110, .ref 111, .ref 112, .ref 113, .ref 114, .int 0, .int 0, .int 0, .long 0, .long 0, .int 0, .ref 115, .ref 116, .int 0])) (mr := zm_m204) rfl rfl (zh_put k24 rfl rfl) (fun he25 e25 => ?_)
      refine zy_n 2 (mr := zm_m204) (pc' := 72) (ls' := [(0, .ref 55), (1, .int 13), (2, .int (-1)), (3, .int 0), (4, .long 0), (6, .int (-1))]) (st' := [.int (-1), .ref 55]) rfl rfl ?_
      have k26 := (zs_eqE e25 (zs_eqE e23 (zs_eqE e21 (zs_eqE e19 (zs_eqE e17 (zs_eqE e15 (zs_eqE e14 (zs_eqE e13 (zs_eqE e12 (zs_eqE e11 (zs_eqE e10 (zs_eqE e9 k8))))))))))))
      refine zy_hS (x := .inr (11, [.int 0, .ref 56, .ref 57, .ref 58, .ref 59, .int 0, .int 0, .int 0, .int 0, .int 0, .int 0, .int 20, .int 30, .int 5, .int 2, .ref 60, .ref 61, .ref 62, .ref 63, .ref 64, .ref 65, .ref 66, .ref 67, .ref 68, .ref 69, .ref 70, .ref 71, .ref 72, .ref 73, .ref 74, .ref 75, .ref 76, .ref 77, .ref 78, .ref 79, .ref 80, .ref 81, .ref 82, .ref 83, .ref 84, .ref 85, .ref 86, .ref 87, .ref 88, .ref 89, .ref 90, .ref 91, .ref 92, .ref 93, .ref 94, .int 0, .int (-1), .ref 95, .ref 96, .ref 97, .ref 98, .int 0, .int 0, .int 0, .int 0, .int 0, .int 0, .int 0, .int 0, .int 0, .int (-1), .int 0, .int (-1), .int 0, .long 0, .int 0, .int 0, .int 0, .long 1, .long 0, .long 0, .long 100, .int (-1), .int 0, .int 0, .int 0, .ref 99, .int 0, .int 0, .int 0, .ref 100, .ref 101, .ref 102, .ref 103, .ref 104, .ref 105, .ref 106, .ref 107, .ref 108, .ref 109, .ref 110, .ref 111, .ref 112, .ref 113, .ref 114, .int 0, .int 0, .int 0, .long 0, .long 0, .int 0, .ref 115, .ref 116, .int 0])) (mr := zm_m204) rfl rfl (zh_put k26 rfl rfl) (fun he27 e27 => ?_)
      refine zy_n 2 (mr := zm_m204) (pc' := 77) (ls' := [(0, .ref 55), (1, .int 13), (2, .int (-1)), (3, .int 0), (4, .long 0), (6, .int (-1))]) (st' := [.int 13, .ref 55]) rfl rfl ?_
      have k28 := (zs_eqE e27 (zs_eqE e25 (zs_eqE e23 (zs_eqE e21 (zs_eqE e19 (zs_eqE e17 (zs_eqE e15 (zs_eqE e14 (zs_eqE e13 (zs_eqE e12 (zs_eqE e11 (zs_eqE e10 (zs_eqE e9 k8)))))))))))))
      refine zy_c (mc := zm_m205) (mr := zm_m204) rfl rfl (zh_v rfl k28 rfl) rfl rfl ?_
      refine zy_n 4 (mr := zm_m205) (pc' := 6) (ls' := [(0, .ref 55), (1, .int 13)]) (st' := [.int 3900, .ref 55]) rfl rfl ?_
      refine zy_hS (x := .inr (11, [.int 0, .ref 56, .ref 57, .ref 58, .ref 59, .int 0, .int 0, .int 0, .int 0, .int 0, .int 0, .int 20, .int 30, .int 5, .int 2, .ref 60, .ref 61, .ref 62, .ref 63, .ref 64, .ref 65, .ref 66, .ref 67, .ref 68, .ref 69, .ref 70, .ref 71, .ref 72, .ref 73, .ref 74, .ref 75, .ref 76, .ref 77, .ref 78, .ref 79, .ref 80, .ref 81, .ref 82, .ref 83, .ref 84, .ref 85, .ref 86, .ref 87, .ref 88, .ref 89, .ref 90, .ref 91, .ref 92, .ref 93, .ref 94, .int 0, .int (-1), .ref 95, .ref 96, .ref 97, .ref 98, .int 3900, .int 0, .int 0, .int 0, .int 0, .int 0, .int 0, .int 0, .int 0, .int (-1), .int 0, .int (-1), .int 0, .long 0, .int 0, .int 0, .int 0, .long 1, .long 0, .long 0, .long 100, .int (-1), .int 0, .int 0, .int 0, .ref 99, .int 0, .int 0, .int 0, .ref 100, .ref 101, .ref 102, .ref 103, .ref 104, .ref 105, .ref 106, .ref 107, .ref 108, .ref 109, .ref 110, .ref 111, .ref 112, .ref 113, .ref 114, .int 0, .int 0, .int 0, .long 0, .long 0, .int 0, .ref 115, .ref 116, .int 0])) (mr := zm_m205) rfl rfl (zh_put k28 rfl rfl) (fun he29 e29 => ?_)
      refine zy_n 2 (mr := zm_m205) (pc' := 11) (ls' := [(0, .ref 55), (1, .int 13)]) (st' := [.ref 55, .ref 55]) rfl rfl ?_
      refine zy_h (mr := zm_m205) rfl rfl (zh_get (v := .ref 96) (zs_eqE e29 k28) rfl) ?_
      refine zy_n 1 (mr := zm_m205) (pc' := 15) (ls' := [(0, .ref 55), (1, .int 13)]) (st' := [.int 13, .ref 96, .ref 55]) rfl rfl ?_
      have k30 := (zs_neE e29 (zs_neE e27 (zs_neE e25 (zs_neE e23 (zs_neE e21 (zs_neE e19 (zs_neE e17 (zs_neE e15 (zs_neE e14 (zs_neE e13 (zs_neE e12 (zs_neE e11 (zs_neE e10 (zs_neE e9 (zs_neE e7 (zs_neE e5 (zs_eqE e3 (zs_neE e1 ((K 96 (by decide) (by decide)).trans (zp_i F 71 rfl)) (by decide))) (by decide)) (by decide)) (by decide)) (by decide)) (by decide)) (by decide)) (by decide)) (by decide)) (by decide)) (by decide)) (by decide)) (by decide)) (by decide)) (by decide)) (by decide)) (by decide))
      refine zy_h (mr := zm_m205) rfl rfl (zh_iald (v := 0) k30 (by decide) rfl) ?_
      refine zy_hS (x := .inr (11, [.int 0, .ref 56, .ref 57, .ref 58, .ref 59, .int 0, .int 0, .int 0, .int 0, .int 0, .int 0, .int 20, .int 30, .int 5, .int 2, .ref 60, .ref 61, .ref 62, .ref 63, .ref 64, .ref 65, .ref 66, .ref 67, .ref 68, .ref 69, .ref 70, .ref 71, .ref 72, .ref 73, .ref 74, .ref 75, .ref 76, .ref 77, .ref 78, .ref 79, .ref 80, .ref 81, .ref 82, .ref 83, .ref 84, .ref 85, .ref 86, .ref 87, .ref 88, .ref 89, .ref 90, .ref 91, .ref 92, .ref 93, .ref 94, .int 0, .int (-1), .ref 95, .ref 96, .ref 97, .ref 98, .int 3900, .int 0, .int 0, .int 0, .int 0, .int 0, .int 0, .int 0, .int 0, .int (-1), .int 0, .int (-1), .int 0, .long 0, .int 0, .int 0, .int 0, .long 1, .long 0, .long 0, .long 100, .int (-1), .int 0, .int 0, .int 0, .ref 99, .int 0, .int 0, .int 0, .ref 100, .ref 101, .ref 102, .ref 103, .ref 104, .ref 105, .ref 106, .ref 107, .ref 108, .ref 109, .ref 110, .ref 111, .ref 112, .ref 113, .ref 114, .int 0, .int 0, .int 0, .long 0, .long 0, .int 0, .ref 115, .ref 116, .int 0])) (mr := zm_m205) rfl rfl (zh_put (zs_eqE e29 k28) rfl rfl) (fun he31 e31 => ?_)
      refine zy_n 2 (mr := zm_m205) (pc' := 21) (ls' := [(0, .ref 55), (1, .int 13)]) (st' := [.int 0, .ref 55]) rfl rfl ?_
      refine zy_hS (x := .inr (11, [.int 0, .ref 56, .ref 57, .ref 58, .ref 59, .int 0, .int 0, .int 0, .int 0, .int 0, .int 0, .int 20, .int 30, .int 5, .int 2, .ref 60, .ref 61, .ref 62, .ref 63, .ref 64, .ref 65, .ref 66, .ref 67, .ref 68, .ref 69, .ref 70, .ref 71, .ref 72, .ref 73, .ref 74, .ref 75, .ref 76, .ref 77, .ref 78, .ref 79, .ref 80, .ref 81, .ref 82, .ref 83, .ref 84, .ref 85, .ref 86, .ref 87, .ref 88, .ref 89, .ref 90, .ref 91, .ref 92, .ref 93, .ref 94, .int 0, .int (-1), .ref 95, .ref 96, .ref 97, .ref 98, .int 3900, .int 0, .int 0, .int 0, .int 0, .int 0, .int 0, .int 0, .int 0, .int (-1), .int 0, .int (-1), .int 0, .long 0, .int 0, .int 0, .int 0, .long 1, .long 0, .long 0, .long 100, .int (-1), .int 0, .int 0, .int 0, .ref 99, .int 0, .int 0, .int 0, .ref 100, .ref 101, .ref 102, .ref 103, .ref 104, .ref 105, .ref 106, .ref 107, .ref 108, .ref 109, .ref 110, .ref 111, .ref 112, .ref 113, .ref 114, .int 0, .int 0, .int 0, .long 0, .long 0, .int 0, .ref 115, .ref 116, .int 0])) (mr := zm_m205) rfl rfl (zh_put (zs_eqE e31 (zs_eqE e29 k28)) rfl rfl) (fun he32 e32 => ?_)
      refine zy_n 2 (mr := zm_m205) (pc' := 26) (ls' := [(0, .ref 55), (1, .int 13)]) (st' := [.int 0, .ref 55]) rfl rfl ?_
      refine zy_hS (x := .inr (11, [.int 0, .ref 56, .ref 57, .ref 58, .ref 59, .int 0, .int 0, .int 0, .int 0, .int 0, .int 0, .int 20, .int 30, .int 5, .int 2, .ref 60, .ref 61, .ref 62, .ref 63, .ref 64, .ref 65, .ref 66, .ref 67, .ref 68, .ref 69, .ref 70, .ref 71, .ref 72, .ref 73, .ref 74, .ref 75, .ref 76, .ref 77, .ref 78, .ref 79, .ref 80, .ref 81, .ref 82, .ref 83, .ref 84, .ref 85, .ref 86, .ref 87, .ref 88, .ref 89, .ref 90, .ref 91, .ref 92, .ref 93, .ref 94, .int 0, .int (-1), .ref 95, .ref 96, .ref 97, .ref 98, .int 3900, .int 0, .int 0, .int 0, .int 0, .int 0, .int 0, .int 0, .int 0, .int (-1), .int 0, .int (-1), .int 0, .long 0, .int 0, .int 0, .int 0, .long 1, .long 0, .long 0, .long 100, .int (-1), .int 0, .int 0, .int 0, .ref 99, .int 0, .int 0, .int 0, .ref 100, .ref 101, .ref 102, .ref 103, .ref 104, .ref 105, .ref 106, .ref 107, .ref 108, .ref 109, .ref 110, .ref 111, .ref 112, .ref 113, .ref 114, .int 0, .int 0, .int 0, .long 0, .long 0, .int 0, .ref 115, .ref 116, .int 0])) (mr := zm_m205) rfl rfl (zh_put (zs_eqE e32 (zs_eqE e31 (zs_eqE e29 k28))) rfl rfl) (fun he33 e33 => ?_)
      refine zy_n 2 (mr := zm_m205) (pc' := 31) (ls' := [(0, .ref 55), (1, .int 13)]) (st' := [.int 0, .ref 55]) rfl rfl ?_
      refine zy_hS (x := .inr (11, [.int 0, .ref 56, .ref 57, .ref 58, .ref 59, .int 0, .int 0, .int 0, .int 0, .int 0, .int 0, .int 20, .int 30, .int 5, .int 2, .ref 60, .ref 61, .ref 62, .ref 63, .ref 64, .ref 65, .ref 66, .ref 67, .ref 68, .ref 69, .ref 70, .ref 71, .ref 72, .ref 73, .ref 74, .ref 75, .ref 76, .ref 77, .ref 78, .ref 79, .ref 80, .ref 81, .ref 82, .ref 83, .ref 84, .ref 85, .ref 86, .ref 87, .ref 88, .ref 89, .ref 90, .ref 91, .ref 92, .ref 93, .ref 94, .int 0, .int (-1), .ref 95, .ref 96, .ref 97, .ref 98, .int 3900, .int 0, .int 0, .int 0, .int 0, .int 0, .int 0, .int 0, .int 0, .int (-1), .int 0, .int (-1), .int 0, .long 0, .int 0, .int 0, .int 0, .long 1, .long 0, .long 0, .long 100, .int (-1), .int 0, .int 0, .int 0, .ref 99, .int 0, .int 0, .int 0, .ref 100, .ref 101, .ref 102, .ref 103, .ref 104, .ref 105, .ref 106, .ref 107, .ref 108, .ref 109, .ref 110, .ref 111, .ref 112, .ref 113, .ref 114, .int 0, .int 0, .int 0, .long 0, .long 0, .int 0, .ref 115, .ref 116, .int 0])) (mr := zm_m205) rfl rfl (zh_put (zs_eqE e33 (zs_eqE e32 (zs_eqE e31 (zs_eqE e29 k28)))) rfl rfl) (fun he34 e34 => ?_)
      refine zy_n 2 (mr := zm_m205) (pc' := 36) (ls' := [(0, .ref 55), (1, .int 13)]) (st' := [.int 0, .ref 55]) rfl rfl ?_
      refine zy_hS (x := .inr (11, [.int 0, .ref 56, .ref 57, .ref 58, .ref 59, .int 0, .int 0, .int 0, .int 0, .int 0, .int 0, .int 20, .int 30, .int 5, .int 2, .ref 60, .ref 61, .ref 62, .ref 63, .ref 64, .ref 65, .ref 66, .ref 67, .ref 68, .ref 69, .ref 70, .ref 71, .ref 72, .ref 73, .ref 74, .ref 75, .ref 76, .ref 77, .ref 78, .ref 79, .ref 80, .ref 81, .ref 82, .ref 83, .ref 84, .ref 85, .ref 86, .ref 87, .ref 88, .ref 89, .ref 90, .ref 91, .ref 92, .ref 93, .ref 94, .int 0, .int (-1), .ref 95, .ref 96, .ref 97, .ref 98, .int 3900, .int 0, .int 0, .int 0, .int 0, .int 0, .int 0, .int 0, .int 0, .int (-1), .int 0, .int (-1), .int 0, .long 0, .int 0, .int 0, .int 0, .long 1, .long 0, .long 0, .long 100, .int (-1), .int 0, .int 0, .int 0, .ref 99, .int 0, .int 0, .int 0, .ref 100, .ref 101, .ref 102, .ref 103, .ref 104, .ref 105, .ref 106, .ref 107, .ref 108, .ref 109, .ref 110, .ref 111, .ref 112, .ref 113, .ref 114, .int 0, .int 0, .int 0, .long 0, .long 0, .int 0, .ref 115, .ref 116, .int 0])) (mr := zm_m205) rfl rfl (zh_put (zs_eqE e34 (zs_eqE e33 (zs_eqE e32 (zs_eqE e31 (zs_eqE e29 k28))))) rfl (by decide)) (fun he35 e35 => ?_)
      refine zy_n 1 (mr := zm_m205) (pc' := 40) (ls' := [(0, .ref 55), (1, .int 13)]) (st' := [.ref 55]) rfl rfl ?_
      refine zy_c (mc := zm_m206) (mr := zm_m205) rfl rfl (zh_v rfl (zs_eqE e35 (zs_eqE e34 (zs_eqE e33 (zs_eqE e32 (zs_eqE e31 (zs_eqE e29 k28)))))) rfl) rfl rfl ?_
      refine zy_n 1 (mr := zm_m206) (pc' := 1) (ls' := [(0, .ref 55)]) (st' := [.ref 55]) rfl rfl ?_
      refine zy_h (mr := zm_m206) rfl rfl (zh_get (v := .int 0) (zs_eqE e35 (zs_eqE e34 (zs_eqE e33 (zs_eqE e32 (zs_eqE e31 (zs_eqE e29 k28)))))) rfl) ?_
      refine zy_n 1 (mr := zm_m206) (pc' := 5) (ls' := [(0, .ref 55)]) (st' := [.ref 55, .int 0]) rfl rfl ?_
      refine zy_h (mr := zm_m206) rfl rfl (zh_get (v := .int 0) (zs_eqE e35 (zs_eqE e34 (zs_eqE e33 (zs_eqE e32 (zs_eqE e31 (zs_eqE e29 k28)))))) rfl) ?_
      refine zy_b (q := (50, [])) (mr := zm_m206) rfl rfl rfl ?_
      refine zy_n 2 (mr := zm_m206) (pc' := 52) (ls' := [(0, .ref 55)]) (st' := [.ref 55, .ref 55]) rfl rfl ?_
      refine zy_h (mr := zm_m206) rfl rfl (zh_get (v := .int 0) (zs_eqE e35 (zs_eqE e34 (zs_eqE e33 (zs_eqE e32 (zs_eqE e31 (zs_eqE e29 k28)))))) rfl) ?_
      refine zy_hS (x := .inr (11, [.int 0, .ref 56, .ref 57, .ref 58, .ref 59, .int 0, .int 0, .int 0, .int 0, .int 0, .int 0, .int 20, .int 30, .int 5, .int 2, .ref 60, .ref 61, .ref 62, .ref 63, .ref 64, .ref 65, .ref 66, .ref 67, .ref 68, .ref 69, .ref 70, .ref 71, .ref 72, .ref 73, .ref 74, .ref 75, .ref 76, .ref 77, .ref 78, .ref 79, .ref 80, .ref 81, .ref 82, .ref 83, .ref 84, .ref 85, .ref 86, .ref 87, .ref 88, .ref 89, .ref 90, .ref 91, .ref 92, .ref 93, .ref 94, .int 0, .int (-1), .ref 95, .ref 96, .ref 97, .ref 98, .int 3900, .int 0, .int 0, .int 0, .int 0, .int 0, .int 0, .int 0, .int 0, .int (-1), .int 0, .int (-1), .int 0, .long 0, .int 0, .int 0, .int 0, .long 1, .long 0, .long 0, .long 100, .int (-1), .int 0, .int 0, .int 0, .ref 99, .int 0, .int 0, .int 0, .ref 100, .ref 101, .ref 102, .ref 103, .ref 104, .ref 105, .ref 106, .ref 107, .ref 108, .ref 109, .ref 110, .ref 111, .ref 112, .ref 113, .ref 114, .int 0, .int 0, .int 0, .long 0, .long 0, .int 0, .ref 115, .ref 116, .int 0])) (mr := zm_m206) rfl rfl (zh_put (zs_eqE e35 (zs_eqE e34 (zs_eqE e33 (zs_eqE e32 (zs_eqE e31 (zs_eqE e29 k28)))))) rfl rfl) (fun he36 e36 => ?_)
      refine zy_n 2 (mr := zm_m206) (pc' := 60) (ls' := [(0, .ref 55)]) (st' := [.ref 55, .ref 55]) rfl rfl ?_
      have k37 := (zs_eqE e36 (zs_eqE e35 (zs_eqE e34 (zs_eqE e33 (zs_eqE e32 (zs_eqE e31 (zs_eqE e29 k28)))))))
      refine zy_h (mr := zm_m206) rfl rfl (zh_get (v := .int 0) k37 rfl) ?_
      as_aux_lemma =>
        refine zy_c (mc := zm_m207) (mr := zm_m206) rfl rfl (zh_v rfl k37 rfl) rfl rfl ?_
        refine zy_n 2 (mr := zm_m207) (pc' := 2) (ls' := [(0, .ref 55), (1, .int 0)]) (st' := [.ref 55, .int 0]) rfl rfl ?_
        refine zy_h (mr := zm_m207) rfl rfl (zh_get (v := .int 0) k37 rfl) ?_
        refine zy_b (q := (22, [])) (mr := zm_m207) rfl rfl rfl ?_
        refine zy_n 1 (mr := zm_m207) (pc' := 23) (ls' := [(0, .ref 55), (1, .int 0)]) (st' := [.int 0]) rfl rfl ?_
        refine zy_r (mr := zm_m207) rfl rfl rfl ?_
        refine zy_n 2 (mr := zm_m206) (pc' := 68) (ls' := [(1, .int 0), (0, .ref 55)]) (st' := [.ref 55]) rfl rfl ?_
        refine zy_h (mr := zm_m206) rfl rfl (zh_get (v := .int 0) k37 rfl) ?_
        refine zy_n 1 (mr := zm_m206) (pc' := 72) (ls' := [(1, .int 0), (0, .ref 55)]) (st' := [.ref 55, .int 0]) rfl rfl ?_
        refine zy_h (mr := zm_m206) rfl rfl (zh_get (v := .int 0) k37 rfl) ?_
        refine zy_b (q := (78, [])) (mr := zm_m206) rfl rfl rfl ?_
        refine zy_n 2 (mr := zm_m206) (pc' := 80) (ls' := [(1, .int 0), (0, .ref 55)]) (st' := [.int 0, .ref 55]) rfl rfl ?_
        refine zy_hS (x := .inr (11, [.int 0, .ref 56, .ref 57, .ref 58, .ref 59, .int 0, .int 0, .int 0, .int 0, .int 0, .int 0, .int 20, .int 30, .int 5, .int 2, .ref 60, .ref 61, .ref 62, .ref 63, .ref 64, .ref 65, .ref 66, .ref 67, .ref 68, .ref 69, .ref 70, .ref 71, .ref 72, .ref 73, .ref 74, .ref 75, .ref 76, .ref 77, .ref 78, .ref 79, .ref 80, .ref 81, .ref 82, .ref 83, .ref 84, .ref 85, .ref 86, .ref 87, .ref 88, .ref 89, .ref 90, .ref 91, .ref 92, .ref 93, .ref 94, .int 0, .int (-1), .ref 95, .ref 96, .ref 97, .ref 98, .int 3900, .int 0, .int 0, .int 0, .int 0, .int 0, .int 0, .int 0, .int 0, .int (-1), .int 0, .int (-1), .int 0, .long 0, .int 0, .int 0, .int 0, .long 1, .long 0, .long 0, .long 100, .int (-1), .int 0, .int 0, .int 0, .ref 99, .int 0, .int 0, .int 0, .ref 100, .ref 101, .ref 102, .ref 103, .ref 104, .ref 105, .ref 106, .ref 107, .ref 108, .ref 109, .ref 110, .ref 111, .ref 112, .ref 113, .ref 114, .int 0, .int 0, .int 0, .long 0, .long 0, .int 0, .ref 115, .ref 116, .int 0])) (mr := zm_m206) rfl rfl (zh_put k37 rfl rfl) (fun he38 e38 => ?_)
        refine zy_n 1 (mr := zm_m206) (pc' := 252) (ls' := [(1, .int 0), (0, .ref 55)]) (st' := []) rfl rfl ?_
        refine zy_r (mr := zm_m206) rfl rfl rfl ?_
        refine zy_r (mr := zm_m205) rfl rfl rfl ?_
        refine zy_n 1 (mr := zm_m204) (pc' := 81) (ls' := [(0, .ref 55), (1, .int 13), (2, .int (-1)), (3, .int 0), (4, .long 0), (6, .int (-1))]) (st' := [.ref 55]) rfl rfl ?_
        refine zy_h (mr := zm_m204) rfl rfl (zh_get (v := .int 0) (zs_eqE e38 k37) rfl) ?_
        refine zy_b (q := (87, [])) (mr := zm_m204) rfl rfl rfl ?_
        refine zy_r (mr := zm_m204) rfl rfl rfl ?_
        refine zy_n 1 (mr := zm_m201) (pc' := 64) (ls' := [(2, .int 0), (0, .ref 55), (1, .int a1)]) (st' := [.ref 55]) rfl rfl ?_
        refine zy_h (mr := zm_m201) rfl rfl (zh_get (v := .int 0) (zs_eqE e38 k37) rfl) ?_
        refine zy_b (q := (73, [])) (mr := zm_m201) rfl rfl rfl ?_
        refine zy_n 3 (mr := zm_m201) (pc' := 77) (ls' := [(2, .int 0), (0, .ref 55), (1, .int a1)]) (st' := [.int 0, .int 13, .ref 55]) rfl rfl ?_
        refine zy_c (mc := zm_m230) (mr := zm_m201) rfl rfl (zh_v rfl (zs_eqE e38 k37) rfl) rfl rfl ?_
        refine zy_n 4 (mr := zm_m230) (pc' := 4) (ls' := [(3, .int 0), (0, .ref 55), (1, .int 13), (2, .int 0)]) (st' := [.ref 55, .int 0]) rfl rfl ?_
        refine zy_h (mr := zm_m230) rfl rfl (zh_get (v := .ref 96) (zs_eqE e38 k37) rfl) ?_
        refine zy_n 1 (mr := zm_m230) (pc' := 8) (ls' := [(3, .int 0), (0, .ref 55), (1, .int 13), (2, .int 0)]) (st' := [.int 13, .ref 96, .int 0]) rfl rfl ?_
        have k39 := (zs_neE e38 (zs_neE e36 (zs_neE e35 (zs_neE e34 (zs_neE e33 (zs_neE e32 (zs_neE e31 k30 (by decide)) (by decide)) (by decide)) (by decide)) (by decide)) (by decide)) (by decide))
        refine zy_h (mr := zm_m230) rfl rfl (zh_iald (v := 0) k39 (by decide) rfl) ?_
        refine zy_b (q := (42, [])) (mr := zm_m230) rfl rfl rfl ?_
        refine zy_n 1 (mr := zm_m230) (pc' := 43) (ls' := [(3, .int 0), (0, .ref 55), (1, .int 13), (2, .int 0)]) (st' := [.ref 55]) rfl rfl ?_
        refine zy_h (mr := zm_m230) rfl rfl (zh_get (v := .ref 96) (zs_eqE e38 k37) rfl) ?_
        refine zy_n 2 (mr := zm_m230) (pc' := 48) (ls' := [(3, .int 0), (0, .ref 55), (1, .int 13), (2, .int 0)]) (st' := [.ref 55, .int 0, .ref 96]) rfl rfl ?_
        refine zy_h (mr := zm_m230) rfl rfl (zh_get (v := .ref 96) (zs_eqE e38 k37) rfl) ?_
        refine zy_n 1 (mr := zm_m230) (pc' := 52) (ls' := [(3, .int 0), (0, .ref 55), (1, .int 13), (2, .int 0)]) (st' := [.int 13, .ref 96, .int 0, .ref 96]) rfl rfl ?_
        refine zy_h (mr := zm_m230) rfl rfl (zh_iald (v := 0) k39 (by decide) rfl) ?_
        refine zy_hS (x := _) (mr := zm_m230) rfl rfl (zh_iast k39 (by decide)) (fun he40 e40 => ?_)
        refine zy_r (mr := zm_m230) rfl rfl rfl ?_
        refine zy_n 1 (mr := zm_m201) (pc' := 81) (ls' := [(2, .int 0), (0, .ref 55), (1, .int a1)]) (st' := [.ref 55]) rfl rfl ?_
        refine zy_h (mr := zm_m201) rfl rfl (zh_get (v := .ref 97) (zs_neE e40 (zs_eqE e38 k37) (by decide)) rfl) ?_
        refine zy_n 2 (mr := zm_m201) (pc' := 86) (ls' := [(2, .int 0), (0, .ref 55), (1, .int a1)]) (st' := [.int a1, .int 0, .ref 97]) rfl rfl ?_
        have k41 := (zs_neE e40 (zs_neE e38 (zs_neE e36 (zs_neE e35 (zs_neE e34 (zs_neE e33 (zs_neE e32 (zs_neE e31 (zs_neE e29 (zs_neE e27 (zs_neE e25 (zs_neE e23 (zs_neE e21 (zs_neE e19 (zs_neE e17 (zs_neE e15 (zs_neE e14 (zs_neE e13 (zs_neE e12 (zs_neE e11 (zs_neE e10 (zs_neE e9 (zs_neE e7 (zs_neE e5 (zs_neE e3 (zs_neE e1 ((K 97 (by decide) (by decide)).trans (zp_i F 72 rfl)) (by decide)) (by decide)) (by decide)) (by decide)) (by decide)) (by decide)) (by decide)) (by decide)) (by decide)) (by decide)) (by decide)) (by decide)) (by decide)) (by decide)) (by decide)) (by decide)) (by decide)) (by decide)) (by decide)) (by decide)) (by decide)) (by decide)) (by decide)) (by decide)) (by decide)) (by decide))
        refine zy_hS (x := _) (mr := zm_m201) rfl rfl (zh_iast k41 (by decide)) (fun he42 e42 => ?_)
        refine zy_n 1 (mr := zm_m201) (pc' := 88) (ls' := [(2, .int 0), (0, .ref 55), (1, .int a1)]) (st' := [.ref 55]) rfl rfl ?_
        refine zy_h (mr := zm_m201) rfl rfl (zh_get (v := .ref 98) (zs_neE e42 (zs_neE e40 (zs_eqE e38 k37) (by decide)) (by decide)) rfl) ?_
        refine zy_n 2 (mr := zm_m201) (pc' := 93) (ls' := [(2, .int 0), (0, .ref 55), (1, .int a1)]) (st' := [.ref 55, .int 0, .ref 98]) rfl rfl ?_
        refine zy_h (mr := zm_m201) rfl rfl (zh_get (v := .int 0) (zs_neE e42 (zs_neE e40 (zs_eqE e38 k37) (by decide)) (by decide)) rfl) ?_
        have k43 := (zs_neE e42 (zs_neE e40 (zs_neE e38 (zs_neE e36 (zs_neE e35 (zs_neE e34 (zs_neE e33 (zs_neE e32 (zs_neE e31 (zs_neE e29 (zs_neE e27 (zs_neE e25 (zs_neE e23 (zs_neE e21 (zs_neE e19 (zs_neE e17 (zs_neE e15 (zs_neE e14 (zs_neE e13 (zs_neE e12 (zs_neE e11 (zs_neE e10 (zs_neE e9 (zs_neE e7 (zs_neE e5 (zs_neE e3 (zs_neE e1 ((K 98 (by decide) (by decide)).trans (zp_i F 73 rfl)) (by decide)) (by decide)) (by decide)) (by decide)) (by decide)) (by decide)) (by decide)) (by decide)) (by decide)) (by decide)) (by decide)) (by decide)) (by decide)) (by decide)) (by decide)) (by decide)) (by decide)) (by decide)) (by decide)) (by decide)) (by decide)) (by decide)) (by decide)) (by decide)) (by decide)) (by decide)) (by decide))
        refine zy_hS (x := _) (mr := zm_m201) rfl rfl (zh_iast k43 (by decide)) (fun he44 e44 => ?_)
        refine zy_n 2 (mr := zm_m201) (pc' := 99) (ls' := [(2, .int 0), (0, .ref 55), (1, .int a1)]) (st' := [.ref 55, .int 0]) rfl rfl ?_
        as_aux_lemma =>
          have k45 := (zs_neE e44 (zs_neE e42 (zs_neE e40 (zs_eqE e38 k37) (by decide)) (by decide)) (by decide))
          refine zy_h (mr := zm_m201) rfl rfl (zh_get (v := .int 0) k45 rfl) ?_
          refine zy_b (q := (105, [])) (mr := zm_m201) rfl rfl rfl ?_
          refine zy_n 2 (mr := zm_m201) (pc' := 107) (ls' := [(2, .int 0), (0, .ref 55), (1, .int a1)]) (st' := [.ref 55, .ref 55]) rfl rfl ?_
          refine zy_h (mr := zm_m201) rfl rfl (zh_get (v := .int 0) k45 rfl) ?_
          refine zy_n 2 (mr := zm_m201) (pc' := 112) (ls' := [(2, .int 0), (0, .ref 55), (1, .int a1)]) (st' := [.int 1, .ref 55]) rfl rfl ?_
          refine zy_hS (x := .inr (11, [.int 0, .ref 56, .ref 57, .ref 58, .ref 59, .int 0, .int 0, .int 0, .int 0, .int 1, .int 0, .int 20, .int 30, .int 5, .int 2, .ref 60, .ref 61, .ref 62, .ref 63, .ref 64, .ref 65, .ref 66, .ref 67, .ref 68, .ref 69, .ref 70, .ref 71, .ref 72, .ref 73, .ref 74, .ref 75, .ref 76, .ref 77, .ref 78, .ref 79, .ref 80, .ref 81, .ref 82, .ref 83, .ref 84, .ref 85, .ref 86, .ref 87, .ref 88, .ref 89, .ref 90, .ref 91, .ref 92, .ref 93, .ref 94, .int 0, .int (-1), .ref 95, .ref 96, .ref 97, .ref 98, .int 3900, .int 0, .int 0, .int 0, .int 0, .int 0, .int 0, .int 0, .int 0, .int (-1), .int 0, .int (-1), .int 0, .long 0, .int 0, .int 0, .int 0, .long 1, .long 0, .long 0, .long 100, .int (-1), .int 0, .int 0, .int 0, .ref 99, .int 0, .int 0, .int 0, .ref 100, .ref 101, .ref 102, .ref 103, .ref 104, .ref 105, .ref 106, .ref 107, .ref 108, .ref 109, .ref 110, .ref 111, .ref 112, .ref 113, .ref 114, .int 0, .int 0, .int 0, .long 0, .long 0, .int 0, .ref 115, .ref 116, .int 0])) (mr := zm_m201) rfl rfl (zh_put k45 rfl rfl) (fun he46 e46 => ?_)
          refine zy_n 2 (mr := zm_m201) (pc' := 117) (ls' := [(2, .int 0), (0, .ref 55), (1, .int a1)]) (st' := [.int 0, .ref 55]) rfl rfl ?_
          refine zy_hS (x := .inr (11, [.int 0, .ref 56, .ref 57, .ref 58, .ref 59, .int 0, .int 0, .int 0, .int 0, .int 1, .int 0, .int 20, .int 30, .int 5, .int 2, .ref 60, .ref 61, .ref 62, .ref 63, .ref 64, .ref 65, .ref 66, .ref 67, .ref 68, .ref 69, .ref 70, .ref 71, .ref 72, .ref 73, .ref 74, .ref 75, .ref 76, .ref 77, .ref 78, .ref 79, .ref 80, .ref 81, .ref 82, .ref 83, .ref 84, .ref 85, .ref 86, .ref 87, .ref 88, .ref 89, .ref 90, .ref 91, .ref 92, .ref 93, .ref 94, .int 0, .int (-1), .ref 95, .ref 96, .ref 97, .ref 98, .int 3900, .int 0, .int 0, .int 0, .int 0, .int 0, .int 0, .int 0, .int 0, .int (-1), .int 0, .int (-1), .int 0, .long 0, .int 0, .int 0, .int 0, .long 1, .long 0, .long 0, .long 100, .int (-1), .int 0, .int 0, .int 0, .ref 99, .int 0, .int 0, .int 0, .ref 100, .ref 101, .ref 102, .ref 103, .ref 104, .ref 105, .ref 106, .ref 107, .ref 108, .ref 109, .ref 110, .ref 111, .ref 112, .ref 113, .ref 114, .int 0, .int 0, .int 0, .long 0, .long 0, .int 0, .ref 115, .ref 116, .int 0])) (mr := zm_m201) rfl rfl (zh_put (zs_eqE e46 k45) rfl (by decide)) (fun he47 e47 => ?_)
          refine zy_n 1 (mr := zm_m201) (pc' := 121) (ls' := [(2, .int 0), (0, .ref 55), (1, .int a1)]) (st' := [.ref 55]) rfl rfl ?_
          refine zy_h (mr := zm_m201) rfl rfl (zh_get (v := .int 0) (zs_eqE e47 (zs_eqE e46 k45)) rfl) ?_
          refine zy_r (mr := zm_m201) rfl rfl rfl ?_
          refine ⟨⟨_, rfl, ?_⟩, Nat.le_trans (zs_lleE e47 (zs_lleE e46 (zs_lleE e44 (zs_lleE e42 (zs_lleE e40 (zs_lleE e38 (zs_lleE e36 (zs_lleE e35 (zs_lleE e34 (zs_lleE e33 (zs_lleE e32 (zs_lleE e31 (zs_lleE e29 (zs_lleE e27 (zs_lleE e25 (zs_lleE e23 (zs_lleE e21 (zs_lleE e19 (zs_lleE e17 (zs_lleE e15 (zs_lleE e14 (zs_lleE e13 (zs_lleE e12 (zs_lleE e11 (zs_lleE e10 (zs_lleE e9 (zs_lleE e7 (zs_lleE e5 (zs_lleE e3 (zs_lleE e1 KL)))))))))))))))))))))))))))))) (by decide), Nat.le_trans (zs_szleE (w := 109) e47 (zs_eqE e46 k45) rfl rfl (zs_szleE (w := 109) e46 k45 rfl rfl (zs_szleE (w := 12) e44 k43 rfl rfl (zs_szleE (w := 12) e42 k41 rfl rfl (zs_szleE (w := 15) e40 k39 rfl rfl (zs_szleE (w := 109) e38 k37 rfl rfl (zs_szleE (w := 109) e36 (zs_eqE e35 (zs_eqE e34 (zs_eqE e33 (zs_eqE e32 (zs_eqE e31 (zs_eqE e29 k28)))))) rfl rfl (zs_szleE (w := 109) e35 (zs_eqE e34 (zs_eqE e33 (zs_eqE e32 (zs_eqE e31 (zs_eqE e29 k28))))) rfl rfl (zs_szleE (w := 109) e34 (zs_eqE e33 (zs_eqE e32 (zs_eqE e31 (zs_eqE e29 k28)))) rfl rfl (zs_szleE (w := 109) e33 (zs_eqE e32 (zs_eqE e31 (zs_eqE e29 k28))) rfl rfl (zs_szleE (w := 109) e32 (zs_eqE e31 (zs_eqE e29 k28)) rfl rfl (zs_szleE (w := 109) e31 (zs_eqE e29 k28) rfl rfl (zs_szleE (w := 109) e29 k28 rfl rfl (zs_szleE (w := 109) e27 (zs_eqE e25 (zs_eqE e23 (zs_eqE e21 (zs_eqE e19 (zs_eqE e17 (zs_eqE e15 (zs_eqE e14 (zs_eqE e13 (zs_eqE e12 (zs_eqE e11 (zs_eqE e10 (zs_eqE e9 k8)))))))))))) rfl rfl (zs_szleE (w := 109) e25 (zs_eqE e23 (zs_eqE e21 (zs_eqE e19 (zs_eqE e17 (zs_eqE e15 (zs_eqE e14 (zs_eqE e13 (zs_eqE e12 (zs_eqE e11 (zs_eqE e10 (zs_eqE e9 k8))))))))))) rfl rfl (zs_szleE (w := 109) e23 (zs_eqE e21 (zs_eqE e19 (zs_eqE e17 (zs_eqE e15 (zs_eqE e14 (zs_eqE e13 (zs_eqE e12 (zs_eqE e11 (zs_eqE e10 (zs_eqE e9 k8)))))))))) rfl rfl (zs_szleE (w := 109) e21 (zs_eqE e19 (zs_eqE e17 (zs_eqE e15 (zs_eqE e14 (zs_eqE e13 (zs_eqE e12 (zs_eqE e11 (zs_eqE e10 (zs_eqE e9 k8))))))))) rfl rfl (zs_szleE (w := 109) e19 (zs_eqE e17 (zs_eqE e15 (zs_eqE e14 (zs_eqE e13 (zs_eqE e12 (zs_eqE e11 (zs_eqE e10 (zs_eqE e9 k8)))))))) rfl rfl (zs_szleE (w := 109) e17 (zs_eqE e15 (zs_eqE e14 (zs_eqE e13 (zs_eqE e12 (zs_eqE e11 (zs_eqE e10 (zs_eqE e9 k8))))))) rfl rfl (zs_szleE (w := 109) e15 (zs_eqE e14 (zs_eqE e13 (zs_eqE e12 (zs_eqE e11 (zs_eqE e10 (zs_eqE e9 k8)))))) rfl rfl (zs_szleE (w := 109) e14 (zs_eqE e13 (zs_eqE e12 (zs_eqE e11 (zs_eqE e10 (zs_eqE e9 k8))))) rfl rfl (zs_szleE (w := 109) e13 (zs_eqE e12 (zs_eqE e11 (zs_eqE e10 (zs_eqE e9 k8)))) rfl rfl (zs_szleE (w := 109) e12 (zs_eqE e11 (zs_eqE e10 (zs_eqE e9 k8))) rfl rfl (zs_szleE (w := 109) e11 (zs_eqE e10 (zs_eqE e9 k8)) rfl rfl (zs_szleE (w := 109) e10 (zs_eqE e9 k8) rfl rfl (zs_szleE (w := 109) e9 k8 rfl rfl (zs_szleE (w := 109) e7 (zs_eqE e5 (zs_neE e3 (zs_eqE e1 ((K 55 (by decide) (by decide)).trans (zp_o F 10 rfl))) (by decide))) rfl rfl (zs_szleE (w := 109) e5 (zs_neE e3 (zs_eqE e1 ((K 55 (by decide) (by decide)).trans (zp_o F 10 rfl))) (by decide)) rfl rfl (zs_szleE (w := 15) e3 (zs_neE e1 ((K 96 (by decide) (by decide)).trans (zp_i F 71 rfl)) (by decide)) rfl rfl (zs_szleE (w := 109) e1 ((K 55 (by decide) (by decide)).trans (zp_o F 10 rfl)) rfl rfl KS)))))))))))))))))))))))))))))) (by decide)⟩
          first | (simp [zf_10, hc2]; done) | (simp [zf_10, hc2]; unfold zw; decide)
  · skip
    refine zy_r (mr := zm_m202) rfl rfl rfl ?_
    refine zy_b (q := (44, [])) (mr := zm_m201) rfl rfl rfl ?_
    refine zy_n 1 (mr := zm_m201) (pc' := 46) (ls' := [(2, .int 0), (0, .ref 55), (1, .int a1)]) (st' := [.int (-2)]) rfl rfl ?_
    refine zy_r (mr := zm_m201) rfl rfl rfl ?_
    refine ⟨⟨_, rfl, ?_⟩, Nat.le_trans (zs_lleE e1 KL) (by decide), Nat.le_trans (zs_szleE (w := 109) e1 ((K 55 (by decide) (by decide)).trans (zp_o F 10 rfl)) rfl rfl KS) (by decide)⟩
    first | (simp [zf_10, hc2]; done) | (simp [zf_10, hc2]; unfold zw; decide)
set_option maxHeartbeats 4000000 in
set_option maxRecDepth 20000 in
theorem zn_11 {og : Nat → Option zm_C} {h h0 : zm_H} (F : zp_ck h = true) (K : ∀ k : Nat, 55 ≤ k → k < 117 → h0[k]? = h[k]?) (KL : h0.length ≤ 200) (KS : zm_szs h0 ≤ 90000)  : zm_Y og 30 231 0 [(0, .ref 55)] [] h0 (fun r h1 => (∃ v, r = some (.int v) ∧ zf_11 v) ∧ h1.length ≤ 300 ∧ zm_szs h1 ≤ 200000) := by
  refine zy_n 2 (mr := zm_m231) (pc' := 2) (ls' := [(0, .ref 55)]) (st' := [.int 0, .ref 55]) rfl rfl ?_
  refine zy_hS (x := .inr (11, [.int 0, .ref 56, .ref 57, .ref 58, .ref 59, .int 0, .int 0, .int 0, .int 0, .int 0, .int 0, .int 20, .int 30, .int 5, .int 2, .ref 60, .ref 61, .ref 62, .ref 63, .ref 64, .ref 65, .ref 66, .ref 67, .ref 68, .ref 69, .ref 70, .ref 71, .ref 72, .ref 73, .ref 74, .ref 75, .ref 76, .ref 77, .ref 78, .ref 79, .ref 80, .ref 81, .ref 82, .ref 83, .ref 84, .ref 85, .ref 86, .ref 87, .ref 88, .ref 89, .ref 90, .ref 91, .ref 92, .ref 93, .ref 94, .int 0, .int (-1), .ref 95, .ref 96, .ref 97, .ref 98, .int 0, .int 0, .int 0, .int 0, .int 0, .int 0, .int 0, .int 0, .int 0, .int 0, .int 0, .int 0, .int 0, .long 0, .int 0, .int 0, .int 0, .long 0, .long 0, .long 0, .long 0, .int 0, .int 0, .int 0, .int 0, .ref 99, .int 0, .int 0, .int 0, .ref 100, .ref 101, .ref 102, .ref 103, .ref 104, .ref 105, .ref 106, .ref 107, .ref 108, .ref 109, .ref 110, .ref 111, .ref 112, .ref 113, .ref 114, .int 0, .int 0, .int 0, .long 0, .long 0, .int 0, .ref 115, .ref 116, .int 0])) (mr := zm_m231) rfl rfl (zh_put ((K 55 (by decide) (by decide)).trans (zp_o F 10 rfl)) rfl rfl) (fun he1 e1 => ?_)
  refine zy_n 1 (mr := zm_m231) (pc' := 6) (ls' := [(0, .ref 55)]) (st' := [.ref 55]) rfl rfl ?_
  refine zy_h (mr := zm_m231) rfl rfl (zh_get (v := .int (-1)) (zs_eqE e1 ((K 55 (by decide) (by decide)).trans (zp_o F 10 rfl))) rfl) ?_
  refine zy_r (mr := zm_m231) rfl rfl rfl ?_
  refine ⟨⟨_, rfl, ?_⟩, Nat.le_trans (zs_lleE e1 KL) (by decide), Nat.le_trans (zs_szleE (w := 109) e1 ((K 55 (by decide) (by decide)).trans (zp_o F 10 rfl)) rfl rfl KS) (by decide)⟩
  first | (simp [zf_11]; done) | (simp [zf_11]; unfold zw; decide)
set_option maxHeartbeats 4000000 in
set_option maxRecDepth 20000 in
theorem zn_12 {og : Nat → Option zm_C} {h h0 : zm_H} (F : zp_ck h = true) (K : ∀ k : Nat, 55 ≤ k → k < 117 → h0[k]? = h[k]?) (KL : h0.length ≤ 200) (KS : zm_szs h0 ≤ 90000) (a1 : Int32) (a2 : Int32) (a3 : Int32) : zm_Y og 30 232 0 [(0, .ref 55), (1, .int a1), (2, .int a2), (3, .int a3)] [] h0 (fun r h1 => (∃ v, r = some (.int v) ∧ zf_12 a1 a2 a3 v) ∧ h1.length ≤ 300 ∧ zm_szs h1 ≤ 200000) := by
  refine zy_n 2 (mr := zm_m232) (pc' := 2) (ls' := [(0, .ref 55), (1, .int a1), (2, .int a2), (3, .int a3)]) (st' := [.int 0, .ref 55]) rfl rfl ?_
  refine zy_hS (x := .inr (11, [.int 0, .ref 56, .ref 57, .ref 58, .ref 59, .int 0, .int 0, .int 0, .int 0, .int 0, .int 0, .int 20, .int 30, .int 5, .int 2, .ref 60, .ref 61, .ref 62, .ref 63, .ref 64, .ref 65, .ref 66, .ref 67, .ref 68, .ref 69, .ref 70, .ref 71, .ref 72, .ref 73, .ref 74, .ref 75, .ref 76, .ref 77, .ref 78, .ref 79, .ref 80, .ref 81, .ref 82, .ref 83, .ref 84, .ref 85, .ref 86, .ref 87, .ref 88, .ref 89, .ref 90, .ref 91, .ref 92, .ref 93, .ref 94, .int 0, .int (-1), .ref 95, .ref 96, .ref 97, .ref 98, .int 0, .int 0, .int 0, .int 0, .int 0, .int 0, .int 0, .int 0, .int 0, .int 0, .int 0, .int 0, .int 0, .long 0, .int 0, .int 0, .int 0, .long 0, .long 0, .long 0, .long 0, .int 0, .int 0, .int 0, .int 0, .ref 99, .int 0, .int 0, .int 0, .ref 100, .ref 101, .ref 102, .ref 103, .ref 104, .ref 105, .ref 106, .ref 107, .ref 108, .ref 109, .ref 110, .ref 111, .ref 112, .ref 113, .ref 114, .int 0, .int 0, .int 0, .long 0, .long 0, .int 0, .ref 115, .ref 116, .int 0])) (mr := zm_m232) rfl rfl (zh_put ((K 55 (by decide) (by decide)).trans (zp_o F 10 rfl)) rfl rfl) (fun he1 e1 => ?_)
  refine zy_n 3 (mr := zm_m232) (pc' := 8) (ls' := [(0, .ref 55), (1, .int a1), (2, .int a2), (3, .int a3)]) (st' := [.int a2, .int a1, .ref 55]) rfl rfl ?_
  refine zy_c (mc := zm_m195) (mr := zm_m232) rfl rfl (zh_v rfl (zs_eqE e1 ((K 55 (by decide) (by decide)).trans (zp_o F 10 rfl))) rfl) rfl rfl ?_
  refine zy_n 2 (mr := zm_m195) (pc' := 2) (ls' := [(0, .ref 55), (1, .int a1), (2, .int a2)]) (st' := [.int a1, .ref 55]) rfl rfl ?_
  refine zy_c (mc := zm_m193) (mr := zm_m195) rfl rfl (zh_v rfl (zs_eqE e1 ((K 55 (by decide) (by decide)).trans (zp_o F 10 rfl))) rfl) rfl rfl ?_
  refine zy_n 4 (mr := zm_m193) (pc' := 4) (ls' := [(0, .ref 55), (1, .int a1)]) (st' := [.ref 55, .long 0, .long a1.toInt64]) rfl rfl ?_
  refine zy_h (mr := zm_m193) rfl rfl (zh_get (v := .int 0) (zs_eqE e1 ((K 55 (by decide) (by decide)).trans (zp_o F 10 rfl))) rfl) ?_
  refine zy_n 3 (mr := zm_m193) (pc' := 10) (ls' := [(0, .ref 55), (1, .int a1)]) (st' := [.long (-1), .long 0, .long a1.toInt64]) rfl rfl ?_
  refine zy_c (mc := zm_m183) (mr := zm_m193) rfl rfl rfl rfl rfl (zm_Y.mono (zk_in a1 0 (-1) rfl (by decide) (by decide)) ?_)
  rintro r h1 ⟨rfl, ⟨rfl, hc2⟩ | ⟨rfl, hc2⟩⟩
  · exact absurd hc2 (zl_emp (by decide))
  refine zy_r (mr := zm_m193) rfl rfl rfl ?_
  refine zy_b (q := (30, [])) (mr := zm_m195) rfl rfl rfl ?_
  refine zy_n 1 (mr := zm_m195) (pc' := 31) (ls' := [(0, .ref 55), (1, .int a1), (2, .int a2)]) (st' := [.int 0]) rfl rfl ?_
  refine zy_r (mr := zm_m195) rfl rfl rfl ?_
  refine zy_b (q := (36, [])) (mr := zm_m232) rfl rfl rfl ?_
  refine zy_n 1 (mr := zm_m232) (pc' := 38) (ls' := [(0, .ref 55), (1, .int a1), (2, .int a2), (3, .int a3)]) (st' := [.int (-2)]) rfl rfl ?_
  refine zy_r (mr := zm_m232) rfl rfl rfl ?_
  refine ⟨⟨_, rfl, ?_⟩, Nat.le_trans (zs_lleE e1 KL) (by decide), Nat.le_trans (zs_szleE (w := 109) e1 ((K 55 (by decide) (by decide)).trans (zp_o F 10 rfl)) rfl rfl KS) (by decide)⟩
  first | (simp [zf_12]; done) | (simp [zf_12]; unfold zw; decide)
set_option maxHeartbeats 4000000 in
set_option maxRecDepth 20000 in
theorem zn_13 {og : Nat → Option zm_C} {h h0 : zm_H} (F : zp_ck h = true) (K : ∀ k : Nat, 55 ≤ k → k < 117 → h0[k]? = h[k]?) (KL : h0.length ≤ 200) (KS : zm_szs h0 ≤ 90000) (a1 : Int32) (a2 : Int32) (a3 : Int32) : zm_Y og 30 235 0 [(0, .ref 55), (1, .int a1), (2, .int a2), (3, .int a3)] [] h0 (fun r h1 => (∃ v, r = some (.int v) ∧ zf_13 a1 a2 a3 v) ∧ h1.length ≤ 300 ∧ zm_szs h1 ≤ 200000) := by
  refine zy_n 2 (mr := zm_m235) (pc' := 2) (ls' := [(0, .ref 55), (1, .int a1), (2, .int a2), (3, .int a3)]) (st' := [.int 0, .ref 55]) rfl rfl ?_
  refine zy_hS (x := .inr (11, [.int 0, .ref 56, .ref 57, .ref 58, .ref 59, .int 0, .int 0, .int 0, .int 0, .int 0, .int 0, .int 20, .int 30, .int 5, .int 2, .ref 60, .ref 61, .ref 62, .ref 63, .ref 64, .ref 65, .ref 66, .ref 67, .ref 68, .ref 69, .ref 70, .ref 71, .ref 72, .ref 73, .ref 74, .ref 75, .ref 76, .ref 77, .ref 78, .ref 79, .ref 80, .ref 81, .ref 82, .ref 83, .ref 84, .ref 85, .ref 86, .ref 87, .ref 88, .ref 89, .ref 90, .ref 91, .ref 92, .ref 93, .ref 94, .int 0, .int (-1), .ref 95, .ref 96, .ref 97, .ref 98, .int 0, .int 0, .int 0, .int 0, .int 0, .int 0, .int 0, .int 0, .int 0, .int 0, .int 0, .int 0, .int 0, .long 0, .int 0, .int 0, .int 0, .long 0, .long 0, .long 0, .long 0, .int 0, .int 0, .int 0, .int 0, .ref 99, .int 0, .int 0, .int 0, .ref 100, .ref 101, .ref 102, .ref 103, .ref 104, .ref 105, .ref 106, .ref 107, .ref 108, .ref 109, .ref 110, .ref 111, .ref 112, .ref 113, .ref 114, .int 0, .int 0, .int 0, .long 0, .long 0, .int 0, .ref 115, .ref 116, .int 0])) (mr := zm_m235) rfl rfl (zh_put ((K 55 (by decide) (by decide)).trans (zp_o F 10 rfl)) rfl rfl) (fun he1 e1 => ?_)
  refine zy_n 2 (mr := zm_m235) (pc' := 7) (ls' := [(0, .ref 55), (1, .int a1), (2, .int a2), (3, .int a3)]) (st' := [.int a1, .ref 55]) rfl rfl ?_
  refine zy_c (mc := zm_m193) (mr := zm_m235) rfl rfl (zh_v rfl (zs_eqE e1 ((K 55 (by decide) (by decide)).trans (zp_o F 10 rfl))) rfl) rfl rfl ?_
  refine zy_n 4 (mr := zm_m193) (pc' := 4) (ls' := [(0, .ref 55), (1, .int a1)]) (st' := [.ref 55, .long 0, .long a1.toInt64]) rfl rfl ?_
  refine zy_h (mr := zm_m193) rfl rfl (zh_get (v := .int 0) (zs_eqE e1 ((K 55 (by decide) (by decide)).trans (zp_o F 10 rfl))) rfl) ?_
  refine zy_n 3 (mr := zm_m193) (pc' := 10) (ls' := [(0, .ref 55), (1, .int a1)]) (st' := [.long (-1), .long 0, .long a1.toInt64]) rfl rfl ?_
  refine zy_c (mc := zm_m183) (mr := zm_m193) rfl rfl rfl rfl rfl (zm_Y.mono (zk_in a1 0 (-1) rfl (by decide) (by decide)) ?_)
  rintro r h1 ⟨rfl, ⟨rfl, hc2⟩ | ⟨rfl, hc2⟩⟩
  · exact absurd hc2 (zl_emp (by decide))
  refine zy_r (mr := zm_m193) rfl rfl rfl ?_
  refine zy_b (q := (52, [])) (mr := zm_m235) rfl rfl rfl ?_
  refine zy_n 1 (mr := zm_m235) (pc' := 54) (ls' := [(0, .ref 55), (1, .int a1), (2, .int a2), (3, .int a3)]) (st' := [.int (-2)]) rfl rfl ?_
  refine zy_r (mr := zm_m235) rfl rfl rfl ?_
  refine ⟨⟨_, rfl, ?_⟩, Nat.le_trans (zs_lleE e1 KL) (by decide), Nat.le_trans (zs_szleE (w := 109) e1 ((K 55 (by decide) (by decide)).trans (zp_o F 10 rfl)) rfl rfl KS) (by decide)⟩
  first | (simp [zf_13]; done) | (simp [zf_13]; unfold zw; decide)
