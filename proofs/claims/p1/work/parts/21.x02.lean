set_option maxHeartbeats 4000000 in
set_option maxRecDepth 20000 in
theorem zx_21 {og : Nat → Option zm_C} {h : zm_H} (F : zp_ck h = true) (a1 : Int32) (a2 : Int32) : zm_Y og 30 114 0 [(0, .ref 0), (1, .int a1), (2, .int a2)] [] h (fun r h1 => (∃ v, r = some (.int v) ∧ zf_21 a1 a2 v) ∧ (∀ k : Nat, 55 ≤ k → k < 117 → h1[k]? = h[k]?) ∧ h1.length ≤ 200 ∧ zm_szs h1 ≤ 90000) := by
  refine zy_n 2 (mr := zm_m114) (pc' := 2) (ls' := [(0, .ref 0), (1, .int a1), (2, .int a2)]) (st' := [.int a1, .ref 0]) rfl rfl ?_
  refine zy_c (mc := zm_m17) (mr := zm_m114) rfl rfl (zh_v rfl (zp_o F 0 rfl) rfl) rfl rfl ?_
  refine zy_n 2 (mr := zm_m17) (pc' := 2) (ls' := [(0, .ref 0), (1, .int a1)]) (st' := [.int a1, .ref 0]) rfl rfl ?_
  refine zy_c (mc := zm_m18) (mr := zm_m17) rfl rfl (zh_v rfl (zp_o F 0 rfl) rfl) rfl rfl ?_
  refine zy_n 3 (mr := zm_m18) (pc' := 3) (ls' := [(0, .ref 0), (1, .int a1)]) (st' := [.ref 0, .int 0, .int a1]) rfl rfl ?_
  refine zy_h (mr := zm_m18) rfl rfl (zh_get (v := .int 0) (zp_o F 0 rfl) rfl) ?_
  refine zy_n 2 (mr := zm_m18) (pc' := 8) (ls' := [(0, .ref 0), (1, .int a1)]) (st' := [.int (-1), .int 0, .int a1]) rfl rfl ?_
  refine zy_c (mc := zm_m10) (mr := zm_m18) rfl rfl rfl rfl rfl (zm_Y.mono (zk_within a1 0 (-1)) ?_)
  rintro r h1 ⟨rfl, ⟨rfl, hc1⟩ | ⟨rfl, hc1⟩⟩
  · exact absurd hc1 (zl_emp (by decide))
  refine zy_r (mr := zm_m18) rfl rfl rfl ?_
  refine zy_b (q := (24, [])) (mr := zm_m17) rfl rfl rfl ?_
  refine zy_n 1 (mr := zm_m17) (pc' := 25) (ls' := [(0, .ref 0), (1, .int a1)]) (st' := [.int 0]) rfl rfl ?_
  refine zy_r (mr := zm_m17) rfl rfl rfl ?_
  refine zy_b (q := (17, [])) (mr := zm_m114) rfl rfl rfl ?_
  refine zy_n 1 (mr := zm_m114) (pc' := 19) (ls' := [(0, .ref 0), (1, .int a1), (2, .int a2)]) (st' := [.int (-2)]) rfl rfl ?_
  refine zy_r (mr := zm_m114) rfl rfl rfl ?_
  refine ⟨⟨_, rfl, ?_⟩, fun k hk1 hk2 => rfl, Nat.le_trans (Nat.le_of_eq (zp_len F).1) (by decide), Nat.le_trans (Nat.le_of_eq (zp_len F).2) (by decide)⟩
  simp [zf_21]
set_option maxHeartbeats 4000000 in
set_option maxRecDepth 20000 in
theorem zx_22 {og : Nat → Option zm_C} {h : zm_H} (F : zp_ck h = true) (a1 : Int32) : zm_Y og 30 116 0 [(0, .ref 0), (1, .int a1)] [] h (fun r h1 => (∃ v, r = some (.int v) ∧ zf_22 a1 v) ∧ (∀ k : Nat, 55 ≤ k → k < 117 → h1[k]? = h[k]?) ∧ h1.length ≤ 200 ∧ zm_szs h1 ≤ 90000) := by
  refine zy_n 3 (mr := zm_m116) (pc' := 3) (ls' := [(0, .ref 0), (1, .int a1)]) (st' := [.ref 0, .int 0, .int a1]) rfl rfl ?_
  refine zy_h (mr := zm_m116) rfl rfl (zh_get (v := .ref 25) (zp_o F 0 rfl) rfl) ?_
  refine zy_h (mr := zm_m116) rfl rfl (zh_get (v := .int 0) (zp_o F 5 rfl) rfl) ?_
  refine zy_n 2 (mr := zm_m116) (pc' := 11) (ls' := [(0, .ref 0), (1, .int a1)]) (st' := [.int (-1), .int 0, .int a1]) rfl rfl ?_
  refine zy_c (mc := zm_m10) (mr := zm_m116) rfl rfl rfl rfl rfl (zm_Y.mono (zk_within a1 0 (-1)) ?_)
  rintro r h1 ⟨rfl, ⟨rfl, hc1⟩ | ⟨rfl, hc1⟩⟩
  · exact absurd hc1 (zl_emp (by decide))
  refine zy_b (q := (28, [])) (mr := zm_m116) rfl rfl rfl ?_
  refine zy_n 1 (mr := zm_m116) (pc' := 30) (ls' := [(0, .ref 0), (1, .int a1)]) (st' := [.int (-2)]) rfl rfl ?_
  refine zy_r (mr := zm_m116) rfl rfl rfl ?_
  refine ⟨⟨_, rfl, ?_⟩, fun k hk1 hk2 => rfl, Nat.le_trans (Nat.le_of_eq (zp_len F).1) (by decide), Nat.le_trans (Nat.le_of_eq (zp_len F).2) (by decide)⟩
  simp [zf_22]
set_option maxHeartbeats 4000000 in
set_option maxRecDepth 20000 in
theorem zx_23 {og : Nat → Option zm_C} {h : zm_H} (F : zp_ck h = true) (a1 : Int32) (a2 : Int32) : zm_Y og 30 119 0 [(0, .ref 0), (1, .int a1), (2, .int a2)] [] h (fun r h1 => (∃ v, r = some (.int v) ∧ zf_23 a1 a2 v) ∧ (∀ k : Nat, 55 ≤ k → k < 117 → h1[k]? = h[k]?) ∧ h1.length ≤ 200 ∧ zm_szs h1 ≤ 90000) := by
  refine zy_n 3 (mr := zm_m119) (pc' := 3) (ls' := [(0, .ref 0), (1, .int a1), (2, .int a2)]) (st' := [.ref 0, .int 0, .int a1]) rfl rfl ?_
  refine zy_h (mr := zm_m119) rfl rfl (zh_get (v := .ref 25) (zp_o F 0 rfl) rfl) ?_
  refine zy_h (mr := zm_m119) rfl rfl (zh_get (v := .int 0) (zp_o F 5 rfl) rfl) ?_
  refine zy_n 2 (mr := zm_m119) (pc' := 11) (ls' := [(0, .ref 0), (1, .int a1), (2, .int a2)]) (st' := [.int (-1), .int 0, .int a1]) rfl rfl ?_
  refine zy_c (mc := zm_m10) (mr := zm_m119) rfl rfl rfl rfl rfl (zm_Y.mono (zk_within a1 0 (-1)) ?_)
  rintro r h1 ⟨rfl, ⟨rfl, hc1⟩ | ⟨rfl, hc1⟩⟩
  · exact absurd hc1 (zl_emp (by decide))
  refine zy_b (q := (27, [])) (mr := zm_m119) rfl rfl rfl ?_
  refine zy_n 1 (mr := zm_m119) (pc' := 29) (ls' := [(0, .ref 0), (1, .int a1), (2, .int a2)]) (st' := [.int (-2)]) rfl rfl ?_
  refine zy_r (mr := zm_m119) rfl rfl rfl ?_
  refine ⟨⟨_, rfl, ?_⟩, fun k hk1 hk2 => rfl, Nat.le_trans (Nat.le_of_eq (zp_len F).1) (by decide), Nat.le_trans (Nat.le_of_eq (zp_len F).2) (by decide)⟩
  simp [zf_23]
set_option maxHeartbeats 4000000 in
set_option maxRecDepth 20000 in
theorem zx_24 {og : Nat → Option zm_C} {h : zm_H} (F : zp_ck h = true) (a1 : Int32) (a2 : Int32) : zm_Y og 30 120 0 [(0, .ref 0), (1, .int a1), (2, .int a2)] [] h (fun r h1 => (∃ v, r = some (.int v) ∧ zf_24 a1 a2 v) ∧ (∀ k : Nat, 55 ≤ k → k < 117 → h1[k]? = h[k]?) ∧ h1.length ≤ 200 ∧ zm_szs h1 ≤ 90000) := by
  refine zy_n 3 (mr := zm_m120) (pc' := 3) (ls' := [(0, .ref 0), (1, .int a1), (2, .int a2)]) (st' := [.int 3, .int 0, .int a1]) rfl rfl ?_
  refine zy_c (mc := zm_m10) (mr := zm_m120) rfl rfl rfl rfl rfl (zm_Y.mono (zk_within a1 0 3) ?_)
  rintro r h1 ⟨rfl, ⟨rfl, hc1⟩ | ⟨rfl, hc1⟩⟩
  · skip
    refine zy_b (q := (9, [])) (mr := zm_m120) rfl rfl rfl ?_
    refine zy_n 3 (mr := zm_m120) (pc' := 12) (ls' := [(0, .ref 0), (1, .int a1), (2, .int a2)]) (st' := [.int 3, .int 0, .int a2]) rfl rfl ?_
    refine zy_c (mc := zm_m10) (mr := zm_m120) rfl rfl rfl rfl rfl (zm_Y.mono (zk_within a2 0 3) ?_)
    rintro r h1 ⟨rfl, ⟨rfl, hc2⟩ | ⟨rfl, hc2⟩⟩
    · skip
      refine zy_b (q := (21, [])) (mr := zm_m120) rfl rfl rfl ?_
      refine zy_n 1 (mr := zm_m120) (pc' := 22) (ls' := [(0, .ref 0), (1, .int a1), (2, .int a2)]) (st' := [.ref 0]) rfl rfl ?_
      refine zy_h (mr := zm_m120) rfl rfl (zh_get (v := .ref 27) (zp_o F 0 rfl) rfl) ?_
      refine zy_n 3 (mr := zm_m120) (pc' := 28) (ls' := [(0, .ref 0), (1, .int a1), (2, .int a2)]) (st' := [.ref 0, .int a2, .int a1, .ref 27]) rfl rfl ?_
      refine zy_h (mr := zm_m120) rfl rfl (zh_get (v := .int 0) (zp_o F 0 rfl) rfl) ?_
      refine zy_c (mc := zm_m121) (mr := zm_m120) rfl rfl (zh_v rfl (zp_o F 6 rfl) rfl) rfl rfl ?_
      refine zy_n 1 (mr := zm_m121) (pc' := 1) (ls' := [(0, .ref 27), (1, .int a1), (2, .int a2), (3, .int 0)]) (st' := [.ref 27]) rfl rfl ?_
      refine zy_h (mr := zm_m121) rfl rfl (zh_get (v := .ref 34) (zp_o F 6 rfl) rfl) ?_
      refine zy_n 5 (mr := zm_m121) (pc' := 9) (ls' := [(0, .ref 27), (1, .int a1), (2, .int a2), (3, .int 0)]) (st' := [.int ((a1 * 4) + a2), .ref 34]) rfl rfl ?_
      refine zy_h (mr := zm_m121) rfl rfl (zh_iald (v := 0) (zp_i F 23 rfl) (zl_2a hc1 hc2).1 (zp_iall F 23 rfl (v := 0) (by decide) (by decide) (zl_2a hc1 hc2).2)) ?_
      refine zy_n 3 (mr := zm_m121) (pc' := 13) (ls' := [(0, .ref 27), (1, .int a1), (2, .int a2), (3, .int 0)]) (st' := [.int 1, .int 0]) rfl rfl ?_
      refine zy_b (q := (20, [])) (mr := zm_m121) rfl rfl rfl ?_
      refine zy_n 1 (mr := zm_m121) (pc' := 21) (ls' := [(0, .ref 27), (1, .int a1), (2, .int a2), (3, .int 0)]) (st' := [.int 0]) rfl rfl ?_
      refine zy_r (mr := zm_m121) rfl rfl rfl ?_
      refine zy_b (q := (40, [])) (mr := zm_m120) rfl rfl rfl ?_
      refine zy_n 6 (mr := zm_m120) (pc' := 48) (ls' := [(4, .int 0), (3, .int 0), (0, .ref 0), (1, .int a1), (2, .int a2)]) (st' := [.ref 0, .int 0]) rfl rfl ?_
      refine zy_h (mr := zm_m120) rfl rfl (zh_get (v := .int 0) (zp_o F 0 rfl) rfl) ?_
      refine zy_b (q := (78, [])) (mr := zm_m120) rfl rfl rfl ?_
      refine zy_n 1 (mr := zm_m120) (pc' := 79) (ls' := [(4, .int 0), (3, .int 0), (0, .ref 0), (1, .int a1), (2, .int a2)]) (st' := [.ref 0]) rfl rfl ?_
      refine zy_h (mr := zm_m120) rfl rfl (zh_get (v := .ref 27) (zp_o F 0 rfl) rfl) ?_
      refine zy_n 1 (mr := zm_m120) (pc' := 83) (ls' := [(4, .int 0), (3, .int 0), (0, .ref 0), (1, .int a1), (2, .int a2)]) (st' := [.int 0, .ref 27]) rfl rfl ?_
      refine zy_c (mc := zm_m123) (mr := zm_m120) rfl rfl (zh_v rfl (zp_o F 6 rfl) rfl) rfl rfl ?_
      refine zy_n 1 (mr := zm_m123) (pc' := 1) (ls' := [(0, .ref 27), (1, .int 0)]) (st' := [.ref 27]) rfl rfl ?_
      refine zy_h (mr := zm_m123) rfl rfl (zh_get (v := .int 0) (zp_o F 6 rfl) rfl) ?_
      refine zy_n 3 (mr := zm_m123) (pc' := 9) (ls' := [(0, .ref 27), (1, .int 0)]) (st' := [.int 1200, .int 0]) rfl rfl ?_
      refine zy_b (q := (12, [])) (mr := zm_m123) rfl rfl rfl ?_
      refine zy_n 2 (mr := zm_m123) (pc' := 17) (ls' := [(0, .ref 27), (1, .int 0)]) (st' := [.int 1]) rfl rfl ?_
      refine zy_r (mr := zm_m123) rfl rfl rfl ?_
      refine zy_b (q := (92, [])) (mr := zm_m120) rfl rfl rfl ?_
      refine zy_n 1 (mr := zm_m120) (pc' := 93) (ls' := [(4, .int 0), (3, .int 0), (0, .ref 0), (1, .int a1), (2, .int a2)]) (st' := [.ref 0]) rfl rfl ?_
      refine zy_h (mr := zm_m120) rfl rfl (zh_get (v := .ref 7) (zp_o F 0 rfl) rfl) ?_
      refine zy_n 1 (mr := zm_m120) (pc' := 97) (ls' := [(4, .int 0), (3, .int 0), (0, .ref 0), (1, .int a1), (2, .int a2)]) (st' := [.ref 0, .ref 7]) rfl rfl ?_
      refine zy_h (mr := zm_m120) rfl rfl (zh_get (v := .int 0) (zp_o F 0 rfl) rfl) ?_
      refine zy_c (mc := zm_m75) (mr := zm_m120) rfl rfl (zh_v rfl (zp_o F 2 rfl) rfl) rfl rfl ?_
      refine zy_n 1 (mr := zm_m75) (pc' := 1) (ls' := [(0, .ref 7), (1, .int 0)]) (st' := [.ref 7]) rfl rfl ?_
      refine zy_h (mr := zm_m75) rfl rfl (zh_get (v := .ref 16) (zp_o F 2 rfl) rfl) ?_
      refine zy_n 5 (mr := zm_m75) (pc' := 9) (ls' := [(3, .int 0), (2, .ref 16), (0, .ref 7), (1, .int 0)]) (st' := [.ref 7, .int 0]) rfl rfl ?_
      refine zy_h (mr := zm_m75) rfl rfl (zh_get (v := .int 0) (zp_o F 2 rfl) rfl) ?_
      refine zy_b (q := (61, [])) (mr := zm_m75) rfl rfl rfl ?_
      refine zy_n 1 (mr := zm_m75) (pc' := 62) (ls' := [(3, .int 0), (2, .ref 16), (0, .ref 7), (1, .int 0)]) (st' := [.ref 16]) rfl rfl ?_
      refine zy_r (mr := zm_m75) rfl rfl rfl ?_
      refine zy_n 5 (mr := zm_m120) (pc' := 111) (ls' := [(5, .int 0), (4, .ref 16), (3, .int 0), (0, .ref 0), (1, .int a1), (2, .int a2)]) (st' := [.ref 0, .int 0]) rfl rfl ?_
      as_aux_lemma =>
        refine zy_h (mr := zm_m120) rfl rfl (zh_get (v := .int 0) (zp_o F 0 rfl) rfl) ?_
        refine zy_b (q := (177, [])) (mr := zm_m120) rfl rfl rfl ?_
        refine zy_n 1 (mr := zm_m120) (pc' := 178) (ls' := [(5, .int 0), (4, .ref 16), (3, .int 0), (0, .ref 0), (1, .int a1), (2, .int a2)]) (st' := [.ref 0]) rfl rfl ?_
        refine zy_h (mr := zm_m120) rfl rfl (zh_get (v := .ref 27) (zp_o F 0 rfl) rfl) ?_
        refine zy_n 3 (mr := zm_m120) (pc' := 184) (ls' := [(5, .int 0), (4, .ref 16), (3, .int 0), (0, .ref 0), (1, .int a1), (2, .int a2)]) (st' := [.ref 0, .int a2, .int a1, .ref 27]) rfl rfl ?_
        refine zy_h (mr := zm_m120) rfl rfl (zh_get (v := .int 0) (zp_o F 0 rfl) rfl) ?_
        refine zy_c (mc := zm_m125) (mr := zm_m120) rfl rfl (zh_v rfl (zp_o F 6 rfl) rfl) rfl rfl ?_
        refine zy_n 1 (mr := zm_m125) (pc' := 1) (ls' := [(0, .ref 27), (1, .int a1), (2, .int a2), (3, .int 0)]) (st' := [.ref 27]) rfl rfl ?_
        refine zy_h (mr := zm_m125) rfl rfl (zh_get (v := .ref 34) (zp_o F 6 rfl) rfl) ?_
        refine zy_n 8 (mr := zm_m125) (pc' := 12) (ls' := [(0, .ref 27), (1, .int a1), (2, .int a2), (3, .int 0)]) (st' := [.int 1, .int ((a1 * 4) + a2), .ref 34]) rfl rfl ?_
        refine zy_hS (x := _) (mr := zm_m125) rfl rfl (zh_iast (zp_i F 23 rfl) (zl_2a hc1 hc2).1) (fun he3 e3 => ?_)
        refine zy_r (mr := zm_m125) rfl rfl rfl ?_
        refine zy_n 1 (mr := zm_m120) (pc' := 191) (ls' := [(5, .int 0), (4, .ref 16), (3, .int 0), (0, .ref 0), (1, .int a1), (2, .int a2)]) (st' := [.int 0]) rfl rfl ?_
        refine zy_r (mr := zm_m120) rfl rfl rfl ?_
        refine ⟨⟨_, rfl, ?_⟩, fun k hk1 hk2 => ((zs_kE e3 (by omega)).trans rfl), Nat.le_trans (Nat.le_of_eq (zs_lsetE e3 (zp_len F).1)) (by decide), Nat.le_trans (Nat.le_of_eq (zs_szsetE (w := 16) e3 (zp_i F 23 rfl) rfl rfl (zp_len F).2)) (by decide)⟩
        simp [zf_24, hc1, hc2]
    · skip
      refine zy_b (q := (18, [])) (mr := zm_m120) rfl rfl rfl ?_
      refine zy_n 1 (mr := zm_m120) (pc' := 20) (ls' := [(0, .ref 0), (1, .int a1), (2, .int a2)]) (st' := [.int (-2)]) rfl rfl ?_
      refine zy_r (mr := zm_m120) rfl rfl rfl ?_
      refine ⟨⟨_, rfl, ?_⟩, fun k hk1 hk2 => rfl, Nat.le_trans (Nat.le_of_eq (zp_len F).1) (by decide), Nat.le_trans (Nat.le_of_eq (zp_len F).2) (by decide)⟩
      simp [zf_24, hc1, hc2]
  · skip
    refine zy_b (q := (18, [])) (mr := zm_m120) rfl rfl rfl ?_
    refine zy_n 1 (mr := zm_m120) (pc' := 20) (ls' := [(0, .ref 0), (1, .int a1), (2, .int a2)]) (st' := [.int (-2)]) rfl rfl ?_
    refine zy_r (mr := zm_m120) rfl rfl rfl ?_
    refine ⟨⟨_, rfl, ?_⟩, fun k hk1 hk2 => rfl, Nat.le_trans (Nat.le_of_eq (zp_len F).1) (by decide), Nat.le_trans (Nat.le_of_eq (zp_len F).2) (by decide)⟩
    simp [zf_24, hc1]
set_option maxHeartbeats 4000000 in
set_option maxRecDepth 20000 in
theorem zx_25 {og : Nat → Option zm_C} {h : zm_H} (F : zp_ck h = true) (a1 : Int32) (a2 : Int32) : zm_Y og 30 126 0 [(0, .ref 0), (1, .int a1), (2, .int a2)] [] h (fun r h1 => (∃ v, r = some (.int v) ∧ zf_25 a1 a2 v) ∧ (∀ k : Nat, 55 ≤ k → k < 117 → h1[k]? = h[k]?) ∧ h1.length ≤ 200 ∧ zm_szs h1 ≤ 90000) := by
  refine zy_n 3 (mr := zm_m126) (pc' := 3) (ls' := [(0, .ref 0), (1, .int a1), (2, .int a2)]) (st' := [.int 3, .int 0, .int a1]) rfl rfl ?_
  refine zy_c (mc := zm_m10) (mr := zm_m126) rfl rfl rfl rfl rfl (zm_Y.mono (zk_within a1 0 3) ?_)
  rintro r h1 ⟨rfl, ⟨rfl, hc1⟩ | ⟨rfl, hc1⟩⟩
  · skip
    refine zy_b (q := (9, [])) (mr := zm_m126) rfl rfl rfl ?_
    refine zy_n 2 (mr := zm_m126) (pc' := 11) (ls' := [(0, .ref 0), (1, .int a1), (2, .int a2)]) (st' := [.int a2, .ref 0]) rfl rfl ?_
    refine zy_c (mc := zm_m17) (mr := zm_m126) rfl rfl (zh_v rfl (zp_o F 0 rfl) rfl) rfl rfl ?_
    refine zy_n 2 (mr := zm_m17) (pc' := 2) (ls' := [(0, .ref 0), (1, .int a2)]) (st' := [.int a2, .ref 0]) rfl rfl ?_
    refine zy_c (mc := zm_m18) (mr := zm_m17) rfl rfl (zh_v rfl (zp_o F 0 rfl) rfl) rfl rfl ?_
    refine zy_n 3 (mr := zm_m18) (pc' := 3) (ls' := [(0, .ref 0), (1, .int a2)]) (st' := [.ref 0, .int 0, .int a2]) rfl rfl ?_
    refine zy_h (mr := zm_m18) rfl rfl (zh_get (v := .int 0) (zp_o F 0 rfl) rfl) ?_
    refine zy_n 2 (mr := zm_m18) (pc' := 8) (ls' := [(0, .ref 0), (1, .int a2)]) (st' := [.int (-1), .int 0, .int a2]) rfl rfl ?_
    refine zy_c (mc := zm_m10) (mr := zm_m18) rfl rfl rfl rfl rfl (zm_Y.mono (zk_within a2 0 (-1)) ?_)
    rintro r h1 ⟨rfl, ⟨rfl, hc2⟩ | ⟨rfl, hc2⟩⟩
    · exact absurd hc2 (zl_emp (by decide))
    refine zy_r (mr := zm_m18) rfl rfl rfl ?_
    refine zy_b (q := (24, [])) (mr := zm_m17) rfl rfl rfl ?_
    refine zy_n 1 (mr := zm_m17) (pc' := 25) (ls' := [(0, .ref 0), (1, .int a2)]) (st' := [.int 0]) rfl rfl ?_
    refine zy_r (mr := zm_m17) rfl rfl rfl ?_
    refine zy_b (q := (17, [])) (mr := zm_m126) rfl rfl rfl ?_
    refine zy_n 1 (mr := zm_m126) (pc' := 20) (ls' := [(0, .ref 0), (1, .int a1), (2, .int a2)]) (st' := [.int (-1000000)]) rfl rfl ?_
    refine zy_r (mr := zm_m126) rfl rfl rfl ?_
    refine ⟨⟨_, rfl, ?_⟩, fun k hk1 hk2 => rfl, Nat.le_trans (Nat.le_of_eq (zp_len F).1) (by decide), Nat.le_trans (Nat.le_of_eq (zp_len F).2) (by decide)⟩
    simp [zf_25, hc1]
  · skip
    refine zy_b (q := (17, [])) (mr := zm_m126) rfl rfl rfl ?_
    refine zy_n 1 (mr := zm_m126) (pc' := 20) (ls' := [(0, .ref 0), (1, .int a1), (2, .int a2)]) (st' := [.int (-1000000)]) rfl rfl ?_
    refine zy_r (mr := zm_m126) rfl rfl rfl ?_
    refine ⟨⟨_, rfl, ?_⟩, fun k hk1 hk2 => rfl, Nat.le_trans (Nat.le_of_eq (zp_len F).1) (by decide), Nat.le_trans (Nat.le_of_eq (zp_len F).2) (by decide)⟩
    simp [zf_25, hc1]
set_option maxHeartbeats 4000000 in
set_option maxRecDepth 20000 in
theorem zx_26 {og : Nat → Option zm_C} {h : zm_H} (F : zp_ck h = true) (a1 : Int32) (a2 : Int32) : zm_Y og 30 128 0 [(0, .ref 0), (1, .int a1), (2, .int a2)] [] h (fun r h1 => (∃ v, r = some (.int v) ∧ zf_26 a1 a2 v) ∧ (∀ k : Nat, 55 ≤ k → k < 117 → h1[k]? = h[k]?) ∧ h1.length ≤ 200 ∧ zm_szs h1 ≤ 90000) := by
  refine zy_n 3 (mr := zm_m128) (pc' := 3) (ls' := [(0, .ref 0), (1, .int a1), (2, .int a2)]) (st' := [.int 3, .int 0, .int a1]) rfl rfl ?_
  refine zy_c (mc := zm_m10) (mr := zm_m128) rfl rfl rfl rfl rfl (zm_Y.mono (zk_within a1 0 3) ?_)
  rintro r h1 ⟨rfl, ⟨rfl, hc1⟩ | ⟨rfl, hc1⟩⟩
  · skip
    refine zy_b (q := (9, [])) (mr := zm_m128) rfl rfl rfl ?_
    refine zy_n 3 (mr := zm_m128) (pc' := 14) (ls' := [(0, .ref 0), (1, .int a1), (2, .int a2)]) (st' := [.int 500, .int 0, .int a2]) rfl rfl ?_
    refine zy_c (mc := zm_m10) (mr := zm_m128) rfl rfl rfl rfl rfl (zm_Y.mono (zk_within a2 0 500) ?_)
    rintro r h1 ⟨rfl, ⟨rfl, hc2⟩ | ⟨rfl, hc2⟩⟩
    · skip
      refine zy_b (q := (23, [])) (mr := zm_m128) rfl rfl rfl ?_
      refine zy_n 1 (mr := zm_m128) (pc' := 24) (ls' := [(0, .ref 0), (1, .int a1), (2, .int a2)]) (st' := [.ref 0]) rfl rfl ?_
      refine zy_h (mr := zm_m128) rfl rfl (zh_get (v := .null) (zp_o F 0 rfl) rfl) ?_
      refine zy_b (mr := zm_m128) rfl rfl rfl ?_
      refine zy_n 2 (mr := zm_m128) (pc' := 41) (ls' := [(0, .ref 0), (1, .int a1), (2, .int a2)]) (st' := [.int 501, .ref 0]) rfl rfl ?_
      refine zy_hE (mr := zm_m128) rfl rfl (zh_newa (N := 501) (zp_len F).1 (by decide) (by decide)) (fun he3 e3 => ?_)
      refine zy_hS (x := .inr (10, [.ref 1, .int 0, .int 0, .int 0, .int 2, .int (-1), .ref 2, .ref 7, .ref 25, .ref 27, .ref 36, .ref 41, .ref 45, .ref 54, .ref 117, .null])) (mr := zm_m128) rfl rfl (zh_put (zs_appE e3 (zp_o F 0 rfl)) rfl rfl) (fun he4 e4 => ?_)
      refine zy_n 2 (mr := zm_m128) (pc' := 50) (ls' := [(0, .ref 0), (1, .int a1), (2, .int a2)]) (st' := [.int 501, .ref 0]) rfl rfl ?_
      refine zy_hE (mr := zm_m128) rfl rfl (zh_newa (N := 501) (zs_lsetE e4 (zs_lappE e3 (zp_len F).1 rfl)) (by decide) (by decide)) (fun he5 e5 => ?_)
      refine zy_hS (x := .inr (10, [.ref 1, .int 0, .int 0, .int 0, .int 2, .int (-1), .ref 2, .ref 7, .ref 25, .ref 27, .ref 36, .ref 41, .ref 45, .ref 54, .ref 117, .ref 118])) (mr := zm_m128) rfl rfl (zh_put (zs_appE e5 (zs_eqE e4 (zs_appE e3 (zp_o F 0 rfl)))) rfl rfl) (fun he6 e6 => ?_)
      refine zy_n 1 (mr := zm_m128) (pc' := 56) (ls' := [(0, .ref 0), (1, .int a1), (2, .int a2)]) (st' := [.ref 0]) rfl rfl ?_
      refine zy_h (mr := zm_m128) rfl rfl (zh_get (v := .ref 117) (zs_eqE e6 (zs_appE e5 (zs_eqE e4 (zs_appE e3 (zp_o F 0 rfl))))) rfl) ?_
      refine zy_n 1 (mr := zm_m128) (pc' := 62) (ls' := [(0, .ref 0), (1, .int a1), (2, .int a2)]) (st' := [.long (-1), .ref 117]) rfl rfl ?_
      have k9 := (zs_neE e6 (zs_appE e5 (zs_neE e4 (zs_newE (k := 0) e3 (zp_len F).1 rfl) (by decide))) (by decide))
      refine zy_c (mc := zm_m78) (mr := zm_m128) rfl rfl rfl rfl rfl (zm_Y.mono (zk_filll (-1) k9 (by decide)) ?_)
      rintro r he10 ⟨rfl, g7, e10, hg8⟩
      refine zy_n 1 (mr := zm_m128) (pc' := 66) (ls' := [(0, .ref 0), (1, .int a1), (2, .int a2)]) (st' := [.ref 0]) rfl rfl ?_
      refine zy_h (mr := zm_m128) rfl rfl (zh_get (v := .ref 118) (zs_neE e10 (zs_eqE e6 (zs_appE e5 (zs_eqE e4 (zs_appE e3 (zp_o F 0 rfl))))) (by decide)) rfl) ?_
      refine zy_n 1 (mr := zm_m128) (pc' := 70) (ls' := [(0, .ref 0), (1, .int a1), (2, .int a2)]) (st' := [.int 0, .ref 118]) rfl rfl ?_
      have k13 := (zs_neE e10 (zs_neE e6 (zs_newE (k := 0) e5 (zs_lsetE e4 (zs_lappE e3 (zp_len F).1 rfl)) rfl) (by decide)) (by decide))
      refine zy_c (mc := zm_m129) (mr := zm_m128) rfl rfl rfl rfl rfl (zm_Y.mono (zk_filli 0 k13 (by decide)) ?_)
      rintro r he14 ⟨rfl, g11, e14, hg12⟩
      refine zy_n 1 (mr := zm_m128) (pc' := 74) (ls' := [(0, .ref 0), (1, .int a1), (2, .int a2)]) (st' := [.ref 0]) rfl rfl ?_
      have k15 := (zs_neE e14 (zs_neE e10 (zs_eqE e6 (zs_appE e5 (zs_eqE e4 (zs_appE e3 (zp_o F 0 rfl))))) (by decide)) (by decide))
      refine zy_h (mr := zm_m128) rfl rfl (zh_get (v := .ref 117) k15 rfl) ?_
      refine zy_n 2 (mr := zm_m128) (pc' := 79) (ls' := [(0, .ref 0), (1, .int a1), (2, .int a2)]) (st' := [.long 0, .int 0, .ref 117]) rfl rfl ?_
      refine zy_hS (x := _) (mr := zm_m128) rfl rfl (zh_last (zs_neE e14 (zs_eqE e10 k9) (by decide)) (by decide)) (fun he16 e16 => ?_)
      refine zy_n 4 (mr := zm_m128) (pc' := 84) (ls' := [(3, .int 0), (0, .ref 0), (1, .int a1), (2, .int a2)]) (st' := [.ref 0, .int 0]) rfl rfl ?_
      refine zy_h (mr := zm_m128) rfl rfl (zh_get (v := .int 0) (zs_neE e16 k15 (by decide)) rfl) ?_
      refine zy_b (q := (111, [])) (mr := zm_m128) rfl rfl rfl ?_
      refine zy_n 4 (mr := zm_m128) (pc' := 116) (ls' := [(4, .int 1), (3, .int 0), (0, .ref 0), (1, .int a1), (2, .int a2)]) (st' := []) rfl rfl ?_
      refine zk_route a1 a2 hc2 (zs_neE e16 k15 (by decide)) rfl (zs_eqE e16 (zs_neE e14 (zs_eqE e10 k9) (by decide))) rfl (fun j hj0 hj => (pk_uLn (show j ≠ 0 by omega)).trans (hg8 j hj)) ?_
      refine zy_n 1 (mr := zm_m128) (pc' := 149) (ls' := [(3, .int 0), (0, .ref 0), (1, .int a1), (2, .int a2)]) (st' := [.ref 0]) rfl rfl ?_
      refine zy_h (mr := zm_m128) rfl rfl (zh_get (v := .ref 118) (zs_neE e16 k15 (by decide)) rfl) ?_
      refine zy_n 1 (mr := zm_m128) (pc' := 153) (ls' := [(3, .int 0), (0, .ref 0), (1, .int a1), (2, .int a2)]) (st' := [.int 0, .ref 118]) rfl rfl ?_
      refine zy_h (mr := zm_m128) rfl rfl (zh_iald (v := 0) (zs_neE e16 (zs_eqE e14 k13) (by decide)) (by decide) (hg12 _ (by decide))) ?_
      refine zy_r (mr := zm_m128) rfl rfl rfl ?_
      have k17 := (zs_lsetE e16 (zs_lsetE e14 (zs_lsetE e10 (zs_lsetE e6 (zs_lappE e5 (zs_lsetE e4 (zs_lappE e3 (zp_len F).1 rfl)) rfl)))))
      refine ⟨⟨_, rfl, ?_⟩, fun k hk1 hk2 => ((zs_kE e16 (by omega)).trans ((zs_kE e14 (by omega)).trans ((zs_kE e10 (by omega)).trans ((zs_kE e6 (by omega)).trans ((zs_kappE e5 (zs_lsetE e4 (zs_lappE e3 (zp_len F).1 rfl)) (by omega)).trans ((zs_kE e4 (by omega)).trans ((zs_kappE e3 (zp_len F).1 (by omega)).trans rfl))))))), Nat.le_trans (Nat.le_of_eq k17) (by decide), Nat.le_trans (Nat.le_of_eq (zs_szsetE (w := 501) e16 (zs_neE e14 (zs_eqE e10 k9) (by decide)) rfl rfl (zs_szsetE (w := 501) e14 k13 rfl rfl (zs_szsetE (w := 501) e10 k9 rfl rfl (zs_szsetE (w := 16) e6 (zs_appE e5 (zs_eqE e4 (zs_appE e3 (zp_o F 0 rfl)))) rfl rfl (zs_szappE e5 (zs_szsetE (w := 16) e4 (zs_appE e3 (zp_o F 0 rfl)) rfl rfl (zs_szappE e3 (zp_len F).2 rfl)) rfl)))))) (by decide)⟩
      simp [zf_26, hc1, hc2]
    · skip
      as_aux_lemma =>
        refine zy_b (q := (20, [])) (mr := zm_m128) rfl rfl rfl ?_
        refine zy_n 1 (mr := zm_m128) (pc' := 22) (ls' := [(0, .ref 0), (1, .int a1), (2, .int a2)]) (st' := [.int (-2)]) rfl rfl ?_
        refine zy_r (mr := zm_m128) rfl rfl rfl ?_
        refine ⟨⟨_, rfl, ?_⟩, fun k hk1 hk2 => rfl, Nat.le_trans (Nat.le_of_eq (zp_len F).1) (by decide), Nat.le_trans (Nat.le_of_eq (zp_len F).2) (by decide)⟩
        simp [zf_26, hc1, hc2]
  · skip
    refine zy_b (q := (20, [])) (mr := zm_m128) rfl rfl rfl ?_
    refine zy_n 1 (mr := zm_m128) (pc' := 22) (ls' := [(0, .ref 0), (1, .int a1), (2, .int a2)]) (st' := [.int (-2)]) rfl rfl ?_
    refine zy_r (mr := zm_m128) rfl rfl rfl ?_
    refine ⟨⟨_, rfl, ?_⟩, fun k hk1 hk2 => rfl, Nat.le_trans (Nat.le_of_eq (zp_len F).1) (by decide), Nat.le_trans (Nat.le_of_eq (zp_len F).2) (by decide)⟩
    simp [zf_26, hc1]
set_option maxHeartbeats 4000000 in
set_option maxRecDepth 20000 in
theorem zx_27 {og : Nat → Option zm_C} {h : zm_H} (F : zp_ck h = true) (a1 : Int32) (a2 : Int32) (a3 : Int32) : zm_Y og 30 131 0 [(0, .ref 0), (1, .int a1), (2, .int a2), (3, .int a3)] [] h (fun r h1 => (∃ v, r = some (.int v) ∧ zf_27 a1 a2 a3 v) ∧ (∀ k : Nat, 55 ≤ k → k < 117 → h1[k]? = h[k]?) ∧ h1.length ≤ 200 ∧ zm_szs h1 ≤ 90000) := by
  refine zy_n 2 (mr := zm_m131) (pc' := 2) (ls' := [(0, .ref 0), (1, .int a1), (2, .int a2), (3, .int a3)]) (st' := [.int a1, .ref 0]) rfl rfl ?_
  refine zy_c (mc := zm_m18) (mr := zm_m131) rfl rfl (zh_v rfl (zp_o F 0 rfl) rfl) rfl rfl ?_
  refine zy_n 3 (mr := zm_m18) (pc' := 3) (ls' := [(0, .ref 0), (1, .int a1)]) (st' := [.ref 0, .int 0, .int a1]) rfl rfl ?_
  refine zy_h (mr := zm_m18) rfl rfl (zh_get (v := .int 0) (zp_o F 0 rfl) rfl) ?_
  refine zy_n 2 (mr := zm_m18) (pc' := 8) (ls' := [(0, .ref 0), (1, .int a1)]) (st' := [.int (-1), .int 0, .int a1]) rfl rfl ?_
  refine zy_c (mc := zm_m10) (mr := zm_m18) rfl rfl rfl rfl rfl (zm_Y.mono (zk_within a1 0 (-1)) ?_)
  rintro r h1 ⟨rfl, ⟨rfl, hc1⟩ | ⟨rfl, hc1⟩⟩
  · exact absurd hc1 (zl_emp (by decide))
  refine zy_r (mr := zm_m18) rfl rfl rfl ?_
  refine zy_b (q := (33, [])) (mr := zm_m131) rfl rfl rfl ?_
  refine zy_n 1 (mr := zm_m131) (pc' := 35) (ls' := [(0, .ref 0), (1, .int a1), (2, .int a2), (3, .int a3)]) (st' := [.int (-2)]) rfl rfl ?_
  refine zy_r (mr := zm_m131) rfl rfl rfl ?_
  refine ⟨⟨_, rfl, ?_⟩, fun k hk1 hk2 => rfl, Nat.le_trans (Nat.le_of_eq (zp_len F).1) (by decide), Nat.le_trans (Nat.le_of_eq (zp_len F).2) (by decide)⟩
  simp [zf_27]
set_option maxHeartbeats 4000000 in
set_option maxRecDepth 20000 in
theorem zx_28 {og : Nat → Option zm_C} {h : zm_H} (F : zp_ck h = true)  : zm_Y og 30 132 0 [(0, .ref 0)] [] h (fun r h1 => (∃ v, r = some (.long v) ∧ zf_28 v) ∧ (∀ k : Nat, 55 ≤ k → k < 117 → h1[k]? = h[k]?) ∧ h1.length ≤ 200 ∧ zm_szs h1 ≤ 90000) := by
  refine zy_n 1 (mr := zm_m132) (pc' := 1) (ls' := [(0, .ref 0)]) (st' := [.ref 0]) rfl rfl ?_
  refine zy_h (mr := zm_m132) rfl rfl (zh_get (v := .int 0) (zp_o F 0 rfl) rfl) ?_
  refine zy_n 1 (mr := zm_m132) (pc' := 6) (ls' := [(0, .ref 0)]) (st' := [.int 99, .int 0]) rfl rfl ?_
  refine zy_b (q := (13, [])) (mr := zm_m132) rfl rfl rfl ?_
  refine zy_n 1 (mr := zm_m132) (pc' := 14) (ls' := [(0, .ref 0)]) (st' := [.ref 0]) rfl rfl ?_
  refine zy_h (mr := zm_m132) rfl rfl (zh_get (v := .ref 7) (zp_o F 0 rfl) rfl) ?_
  refine zy_n 1 (mr := zm_m132) (pc' := 18) (ls' := [(0, .ref 0)]) (st' := [.ref 0, .ref 7]) rfl rfl ?_
  refine zy_h (mr := zm_m132) rfl rfl (zh_get (v := .int 0) (zp_o F 0 rfl) rfl) ?_
  refine zy_c (mc := zm_m75) (mr := zm_m132) rfl rfl (zh_v rfl (zp_o F 2 rfl) rfl) rfl rfl ?_
  refine zy_n 1 (mr := zm_m75) (pc' := 1) (ls' := [(0, .ref 7), (1, .int 0)]) (st' := [.ref 7]) rfl rfl ?_
  refine zy_h (mr := zm_m75) rfl rfl (zh_get (v := .ref 16) (zp_o F 2 rfl) rfl) ?_
  refine zy_n 5 (mr := zm_m75) (pc' := 9) (ls' := [(3, .int 0), (2, .ref 16), (0, .ref 7), (1, .int 0)]) (st' := [.ref 7, .int 0]) rfl rfl ?_
  refine zy_h (mr := zm_m75) rfl rfl (zh_get (v := .int 0) (zp_o F 2 rfl) rfl) ?_
  refine zy_b (q := (61, [])) (mr := zm_m75) rfl rfl rfl ?_
  refine zy_n 1 (mr := zm_m75) (pc' := 62) (ls' := [(3, .int 0), (2, .ref 16), (0, .ref 7), (1, .int 0)]) (st' := [.ref 16]) rfl rfl ?_
  refine zy_r (mr := zm_m75) rfl rfl rfl ?_
  refine zy_n 2 (mr := zm_m132) (pc' := 26) (ls' := [(1, .ref 16), (0, .ref 0)]) (st' := [.ref 0]) rfl rfl ?_
  refine zy_h (mr := zm_m132) rfl rfl (zh_get (v := .ref 27) (zp_o F 0 rfl) rfl) ?_
  refine zy_n 1 (mr := zm_m132) (pc' := 30) (ls' := [(1, .ref 16), (0, .ref 0)]) (st' := [.ref 0, .ref 27]) rfl rfl ?_
  refine zy_h (mr := zm_m132) rfl rfl (zh_get (v := .int 0) (zp_o F 0 rfl) rfl) ?_
  refine zy_c (mc := zm_m133) (mr := zm_m132) rfl rfl (zh_v rfl (zp_o F 6 rfl) rfl) rfl rfl ?_
  refine zy_n 1 (mr := zm_m133) (pc' := 1) (ls' := [(0, .ref 27), (1, .int 0)]) (st' := [.ref 27]) rfl rfl ?_
  refine zy_h (mr := zm_m133) rfl rfl (zh_get (v := .ref 35) (zp_o F 6 rfl) rfl) ?_
  refine zy_n 1 (mr := zm_m133) (pc' := 5) (ls' := [(0, .ref 27), (1, .int 0)]) (st' := [.int 0, .ref 35]) rfl rfl ?_
  refine zy_c (mc := zm_m129) (mr := zm_m133) rfl rfl rfl rfl rfl (zm_Y.mono (zk_filli 0 (zp_i F 24 rfl) (by decide)) ?_)
  rintro r he3 ⟨rfl, g1, e3, hg2⟩
  refine zy_n 4 (mr := zm_m133) (pc' := 12) (ls' := [(2, .int 0), (0, .ref 27), (1, .int 0)]) (st' := [.ref 27, .int 0]) rfl rfl ?_
  refine zy_h (mr := zm_m133) rfl rfl (zh_get (v := .int 0) (zs_neE e3 (zp_o F 6 rfl) (by decide)) rfl) ?_
  refine zy_b (q := (58, [])) (mr := zm_m133) rfl rfl rfl ?_
  refine zy_r (mr := zm_m133) rfl rfl rfl ?_
  refine zy_n 4 (mr := zm_m132) (pc' := 40) (ls' := [(2, .int 0), (1, .ref 16), (0, .ref 0)]) (st' := [.ref 0, .int 0]) rfl rfl ?_
  refine zy_h (mr := zm_m132) rfl rfl (zh_get (v := .int 0) (zs_neE e3 (zp_o F 0 rfl) (by decide)) rfl) ?_
  refine zy_b (q := (70, [])) (mr := zm_m132) rfl rfl rfl ?_
  refine zy_n 6 (mr := zm_m132) (pc' := 78) (ls' := [(4, .int 0), (2, .long 0), (1, .ref 16), (0, .ref 0)]) (st' := [.ref 0, .int 0]) rfl rfl ?_
  refine zy_h (mr := zm_m132) rfl rfl (zh_get (v := .int 0) (zs_neE e3 (zp_o F 0 rfl) (by decide)) rfl) ?_
  refine zy_b (q := (121, [])) (mr := zm_m132) rfl rfl rfl ?_
  refine zy_n 2 (mr := zm_m132) (pc' := 123) (ls' := [(4, .int 0), (2, .long 0), (1, .ref 16), (0, .ref 0)]) (st' := [.ref 0, .ref 0]) rfl rfl ?_
  refine zy_h (mr := zm_m132) rfl rfl (zh_get (v := .int 0) (zs_neE e3 (zp_o F 0 rfl) (by decide)) rfl) ?_
  refine zy_n 2 (mr := zm_m132) (pc' := 128) (ls' := [(4, .int 0), (2, .long 0), (1, .ref 16), (0, .ref 0)]) (st' := [.int 1, .ref 0]) rfl rfl ?_
  refine zy_hS (x := .inr (10, [.ref 1, .int 0, .int 0, .int 1, .int 2, .int (-1), .ref 2, .ref 7, .ref 25, .ref 27, .ref 36, .ref 41, .ref 45, .ref 54, .null, .null])) (mr := zm_m132) rfl rfl (zh_put (zs_neE e3 (zp_o F 0 rfl) (by decide)) rfl rfl) (fun he4 e4 => ?_)
  refine zy_n 1 (mr := zm_m132) (pc' := 132) (ls' := [(4, .int 0), (2, .long 0), (1, .ref 16), (0, .ref 0)]) (st' := [.ref 0]) rfl rfl ?_
  refine zy_h (mr := zm_m132) rfl rfl (zh_get (v := .ref 36) (zs_eqE e4 (zs_neE e3 (zp_o F 0 rfl) (by decide))) rfl) ?_
  refine zy_n 1 (mr := zm_m132) (pc' := 136) (ls' := [(4, .int 0), (2, .long 0), (1, .ref 16), (0, .ref 0)]) (st' := [.int 0, .ref 36]) rfl rfl ?_
  refine zy_hS (x := .inr (6, [.ref 7, .ref 37, .ref 38, .int 20, .int 30, .ref 39, .ref 40, .int 0, .null, .int 0, .null, .null, .null, .null, .null])) (mr := zm_m132) rfl rfl (zh_put (zs_neE e4 (zs_neE e3 (zp_o F 7 rfl) (by decide)) (by decide)) rfl (by decide)) (fun he5 e5 => ?_)
  refine zy_n 1 (mr := zm_m132) (pc' := 140) (ls' := [(4, .int 0), (2, .long 0), (1, .ref 16), (0, .ref 0)]) (st' := [.long 0]) rfl rfl ?_
  refine zy_r (mr := zm_m132) rfl rfl rfl ?_
  refine ⟨⟨_, rfl, ?_⟩, fun k hk1 hk2 => ((zs_kE e5 (by omega)).trans ((zs_kE e4 (by omega)).trans ((zs_kE e3 (by omega)).trans rfl))), Nat.le_trans (Nat.le_of_eq (zs_lsetE e5 (zs_lsetE e4 (zs_lsetE e3 (zp_len F).1)))) (by decide), Nat.le_trans (Nat.le_of_eq (zs_szsetE (w := 15) e5 (zs_neE e4 (zs_neE e3 (zp_o F 7 rfl) (by decide)) (by decide)) rfl rfl (zs_szsetE (w := 16) e4 (zs_neE e3 (zp_o F 0 rfl) (by decide)) rfl rfl (zs_szsetE (w := 1600) e3 (zp_i F 24 rfl) rfl rfl (zp_len F).2)))) (by decide)⟩
  simp [zf_28]
set_option maxHeartbeats 4000000 in
set_option maxRecDepth 20000 in
theorem zx_29 {og : Nat → Option zm_C} {h : zm_H} (F : zp_ck h = true) (a1 : Int32) (a2 : Int32) (a3 : Int32) (a4 : Int32) : zm_Y og 30 136 0 [(0, .ref 0), (1, .int a1), (2, .int a2), (3, .int a3), (4, .int a4)] [] h (fun r h1 => (∃ v, r = some (.int v) ∧ zf_29 a1 a2 a3 a4 v) ∧ (∀ k : Nat, 55 ≤ k → k < 117 → h1[k]? = h[k]?) ∧ h1.length ≤ 200 ∧ zm_szs h1 ≤ 90000) := by
  refine zy_n 4 (mr := zm_m136) (pc' := 4) (ls' := [(0, .ref 0), (1, .int a1), (2, .int a2), (3, .int a3), (4, .int a4)]) (st' := [.int a3, .int a2, .int a1, .ref 0]) rfl rfl ?_
  refine zy_c (mc := zm_m137) (mr := zm_m136) rfl rfl (zh_v rfl (zp_o F 0 rfl) rfl) rfl rfl ?_
  refine zy_n 2 (mr := zm_m137) (pc' := 2) (ls' := [(0, .ref 0), (1, .int a1), (2, .int a2), (3, .int a3)]) (st' := [.int a1, .ref 0]) rfl rfl ?_
  refine zy_c (mc := zm_m18) (mr := zm_m137) rfl rfl (zh_v rfl (zp_o F 0 rfl) rfl) rfl rfl ?_
  refine zy_n 3 (mr := zm_m18) (pc' := 3) (ls' := [(0, .ref 0), (1, .int a1)]) (st' := [.ref 0, .int 0, .int a1]) rfl rfl ?_
  refine zy_h (mr := zm_m18) rfl rfl (zh_get (v := .int 0) (zp_o F 0 rfl) rfl) ?_
  refine zy_n 2 (mr := zm_m18) (pc' := 8) (ls' := [(0, .ref 0), (1, .int a1)]) (st' := [.int (-1), .int 0, .int a1]) rfl rfl ?_
  refine zy_c (mc := zm_m10) (mr := zm_m18) rfl rfl rfl rfl rfl (zm_Y.mono (zk_within a1 0 (-1)) ?_)
  rintro r h1 ⟨rfl, ⟨rfl, hc1⟩ | ⟨rfl, hc1⟩⟩
  · exact absurd hc1 (zl_emp (by decide))
  refine zy_r (mr := zm_m18) rfl rfl rfl ?_
  refine zy_b (q := (31, [])) (mr := zm_m137) rfl rfl rfl ?_
  refine zy_n 1 (mr := zm_m137) (pc' := 32) (ls' := [(0, .ref 0), (1, .int a1), (2, .int a2), (3, .int a3)]) (st' := [.int 0]) rfl rfl ?_
  refine zy_r (mr := zm_m137) rfl rfl rfl ?_
  refine zy_b (q := (20, [])) (mr := zm_m136) rfl rfl rfl ?_
  refine zy_n 1 (mr := zm_m136) (pc' := 21) (ls' := [(0, .ref 0), (1, .int a1), (2, .int a2), (3, .int a3), (4, .int a4)]) (st' := [.int (-1)]) rfl rfl ?_
  refine zy_r (mr := zm_m136) rfl rfl rfl ?_
  refine ⟨⟨_, rfl, ?_⟩, fun k hk1 hk2 => rfl, Nat.le_trans (Nat.le_of_eq (zp_len F).1) (by decide), Nat.le_trans (Nat.le_of_eq (zp_len F).2) (by decide)⟩
  simp [zf_29]
set_option maxHeartbeats 4000000 in
set_option maxRecDepth 20000 in
theorem zx_30 {og : Nat → Option zm_C} {h : zm_H} (F : zp_ck h = true) (a1 : Int32) (a2 : Int32) (a3 : Int32) (a4 : Int32) : zm_Y og 30 139 0 [(0, .ref 0), (1, .int a1), (2, .int a2), (3, .int a3), (4, .int a4)] [] h (fun r h1 => (∃ v, r = some (.int v) ∧ zf_30 a1 a2 a3 a4 v) ∧ (∀ k : Nat, 55 ≤ k → k < 117 → h1[k]? = h[k]?) ∧ h1.length ≤ 200 ∧ zm_szs h1 ≤ 90000) := by
  refine zy_n 4 (mr := zm_m139) (pc' := 4) (ls' := [(0, .ref 0), (1, .int a1), (2, .int a2), (3, .int a3), (4, .int a4)]) (st' := [.int a3, .int a2, .int a1, .ref 0]) rfl rfl ?_
  refine zy_c (mc := zm_m137) (mr := zm_m139) rfl rfl (zh_v rfl (zp_o F 0 rfl) rfl) rfl rfl ?_
  refine zy_n 2 (mr := zm_m137) (pc' := 2) (ls' := [(0, .ref 0), (1, .int a1), (2, .int a2), (3, .int a3)]) (st' := [.int a1, .ref 0]) rfl rfl ?_
  refine zy_c (mc := zm_m18) (mr := zm_m137) rfl rfl (zh_v rfl (zp_o F 0 rfl) rfl) rfl rfl ?_
  refine zy_n 3 (mr := zm_m18) (pc' := 3) (ls' := [(0, .ref 0), (1, .int a1)]) (st' := [.ref 0, .int 0, .int a1]) rfl rfl ?_
  refine zy_h (mr := zm_m18) rfl rfl (zh_get (v := .int 0) (zp_o F 0 rfl) rfl) ?_
  refine zy_n 2 (mr := zm_m18) (pc' := 8) (ls' := [(0, .ref 0), (1, .int a1)]) (st' := [.int (-1), .int 0, .int a1]) rfl rfl ?_
  refine zy_c (mc := zm_m10) (mr := zm_m18) rfl rfl rfl rfl rfl (zm_Y.mono (zk_within a1 0 (-1)) ?_)
  rintro r h1 ⟨rfl, ⟨rfl, hc1⟩ | ⟨rfl, hc1⟩⟩
  · exact absurd hc1 (zl_emp (by decide))
  refine zy_r (mr := zm_m18) rfl rfl rfl ?_
  refine zy_b (q := (31, [])) (mr := zm_m137) rfl rfl rfl ?_
  refine zy_n 1 (mr := zm_m137) (pc' := 32) (ls' := [(0, .ref 0), (1, .int a1), (2, .int a2), (3, .int a3)]) (st' := [.int 0]) rfl rfl ?_
  refine zy_r (mr := zm_m137) rfl rfl rfl ?_
  refine zy_b (q := (20, [])) (mr := zm_m139) rfl rfl rfl ?_
  refine zy_n 1 (mr := zm_m139) (pc' := 21) (ls' := [(0, .ref 0), (1, .int a1), (2, .int a2), (3, .int a3), (4, .int a4)]) (st' := [.int (-1)]) rfl rfl ?_
  refine zy_r (mr := zm_m139) rfl rfl rfl ?_
  refine ⟨⟨_, rfl, ?_⟩, fun k hk1 hk2 => rfl, Nat.le_trans (Nat.le_of_eq (zp_len F).1) (by decide), Nat.le_trans (Nat.le_of_eq (zp_len F).2) (by decide)⟩
  simp [zf_30]
set_option maxHeartbeats 4000000 in
set_option maxRecDepth 20000 in
theorem zx_31 {og : Nat → Option zm_C} {h : zm_H} (F : zp_ck h = true) (a1 : Int32) (a2 : Int32) (a3 : Int32) : zm_Y og 30 141 0 [(0, .ref 0), (1, .int a1), (2, .int a2), (3, .int a3)] [] h (fun r h1 => (∃ v, r = some (.int v) ∧ zf_31 a1 a2 a3 v) ∧ (∀ k : Nat, 55 ≤ k → k < 117 → h1[k]? = h[k]?) ∧ h1.length ≤ 200 ∧ zm_szs h1 ≤ 90000) := by
  refine zy_n 3 (mr := zm_m141) (pc' := 3) (ls' := [(0, .ref 0), (1, .int a1), (2, .int a2), (3, .int a3)]) (st' := [.int 3, .int 0, .int a1]) rfl rfl ?_
  refine zy_c (mc := zm_m10) (mr := zm_m141) rfl rfl rfl rfl rfl (zm_Y.mono (zk_within a1 0 3) ?_)
  rintro r h1 ⟨rfl, ⟨rfl, hc1⟩ | ⟨rfl, hc1⟩⟩
  · skip
    refine zy_b (q := (9, [])) (mr := zm_m141) rfl rfl rfl ?_
    refine zy_n 3 (mr := zm_m141) (pc' := 12) (ls' := [(0, .ref 0), (1, .int a1), (2, .int a2), (3, .int a3)]) (st' := [.int 3, .int 0, .int a2]) rfl rfl ?_
    refine zy_c (mc := zm_m10) (mr := zm_m141) rfl rfl rfl rfl rfl (zm_Y.mono (zk_within a2 0 3) ?_)
    rintro r h1 ⟨rfl, ⟨rfl, hc2⟩ | ⟨rfl, hc2⟩⟩
    · skip
      refine zy_b (q := (18, [])) (mr := zm_m141) rfl rfl rfl ?_
      refine zy_n 2 (mr := zm_m141) (pc' := 20) (ls' := [(0, .ref 0), (1, .int a1), (2, .int a2), (3, .int a3)]) (st' := [.int a2, .int a1]) rfl rfl ?_
      refine zy_b (mr := zm_m141) rfl rfl rfl (zc_eq (fun hc3 => ?_) (fun hc3 => ?_))
      · skip
        refine zy_n 1 (mr := zm_m141) (pc' := 35) (ls' := [(0, .ref 0), (1, .int a1), (2, .int a2), (3, .int a3)]) (st' := [.int (-1000000)]) rfl rfl ?_
        refine zy_r (mr := zm_m141) rfl rfl rfl ?_
        refine ⟨⟨_, rfl, ?_⟩, fun k hk1 hk2 => rfl, Nat.le_trans (Nat.le_of_eq (zp_len F).1) (by decide), Nat.le_trans (Nat.le_of_eq (zp_len F).2) (by decide)⟩
        first | (simp [zf_31, hc1, hc2, hc3]; done) | (simp [zf_31, hc1, hc2, hc3]; unfold zw; decide)
      · skip
        refine zy_n 3 (mr := zm_m141) (pc' := 26) (ls' := [(0, .ref 0), (1, .int a1), (2, .int a2), (3, .int a3)]) (st' := [.int 3, .int 0, .int a3]) rfl rfl ?_
        refine zy_c (mc := zm_m10) (mr := zm_m141) rfl rfl rfl rfl rfl (zm_Y.mono (zk_within a3 0 3) ?_)
        rintro r h1 ⟨rfl, ⟨rfl, hc4⟩ | ⟨rfl, hc4⟩⟩
        · skip
          refine zy_b (q := (36, [])) (mr := zm_m141) rfl rfl rfl ?_
          refine zy_n 1 (mr := zm_m141) (pc' := 37) (ls' := [(0, .ref 0), (1, .int a1), (2, .int a2), (3, .int a3)]) (st' := [.ref 0]) rfl rfl ?_
          refine zy_h (mr := zm_m141) rfl rfl (zh_get (v := .ref 27) (zp_o F 0 rfl) rfl) ?_
          refine zy_n 3 (mr := zm_m141) (pc' := 43) (ls' := [(0, .ref 0), (1, .int a1), (2, .int a2), (3, .int a3)]) (st' := [.int a3, .int a2, .int a1, .ref 27]) rfl rfl ?_
          refine zy_c (mc := zm_m142) (mr := zm_m141) rfl rfl (zh_v rfl (zp_o F 6 rfl) rfl) rfl rfl ?_
          refine zy_n 1 (mr := zm_m142) (pc' := 1) (ls' := [(0, .ref 27), (1, .int a1), (2, .int a2), (3, .int a3)]) (st' := [.ref 27]) rfl rfl ?_
          refine zy_h (mr := zm_m142) rfl rfl (zh_get (v := .ref 35) (zp_o F 6 rfl) rfl) ?_
          refine zy_n 1 (mr := zm_m142) (pc' := 5) (ls' := [(0, .ref 27), (1, .int a1), (2, .int a2), (3, .int a3)]) (st' := [.int 0, .ref 35]) rfl rfl ?_
          refine zy_c (mc := zm_m129) (mr := zm_m142) rfl rfl rfl rfl rfl (zm_Y.mono (zk_filli 0 (zp_i F 24 rfl) (by decide)) ?_)
          rintro r he7 ⟨rfl, g5, e7, hg6⟩
          refine zy_n 4 (mr := zm_m142) (pc' := 14) (ls' := [(4, .int 0), (0, .ref 27), (1, .int a1), (2, .int a2), (3, .int a3)]) (st' := [.ref 27, .int 0]) rfl rfl ?_
          refine zy_h (mr := zm_m142) rfl rfl (zh_get (v := .int 0) (zs_neE e7 (zp_o F 6 rfl) (by decide)) rfl) ?_
          refine zy_b (q := (74, [])) (mr := zm_m142) rfl rfl rfl ?_
          refine zy_n 12 (mr := zm_m142) (pc' := 92) (ls' := [(8, .int 0), (7, .int 0), (6, .int 0), (5, .int 0), (4, .int 0), (0, .ref 27), (1, .int a1), (2, .int a2), (3, .int a3)]) (st' := [.ref 27, .int 0]) rfl rfl ?_
          refine zy_h (mr := zm_m142) rfl rfl (zh_get (v := .int 0) (zs_neE e7 (zp_o F 6 rfl) (by decide)) rfl) ?_
          refine zy_b (q := (216, [])) (mr := zm_m142) rfl rfl rfl ?_
          refine zy_n 1 (mr := zm_m142) (pc' := 217) (ls' := [(8, .int 0), (7, .int 0), (6, .int 0), (5, .int 0), (4, .int 0), (0, .ref 27), (1, .int a1), (2, .int a2), (3, .int a3)]) (st' := [.int a3]) rfl rfl ?_
          rcases zl_4 hc4 with rfl | rfl | rfl | rfl
          · skip
            refine zy_b (q := (244, [])) (mr := zm_m142) rfl rfl (by decide +kernel) ?_
            refine zy_n 1 (mr := zm_m142) (pc' := 246) (ls' := [(8, .int 0), (7, .int 0), (6, .int 0), (5, .int 0), (4, .int 0), (0, .ref 27), (1, .int a1), (2, .int a2), (3, .int 0)]) (st' := [.int 0]) rfl rfl ?_
            refine zy_r (mr := zm_m142) rfl rfl rfl ?_
            refine zy_r (mr := zm_m141) rfl rfl rfl ?_
            refine ⟨⟨_, rfl, ?_⟩, fun k hk1 hk2 => ((zs_kE e7 (by omega)).trans rfl), Nat.le_trans (Nat.le_of_eq (zs_lsetE e7 (zp_len F).1)) (by decide), Nat.le_trans (Nat.le_of_eq (zs_szsetE (w := 1600) e7 (zp_i F 24 rfl) rfl rfl (zp_len F).2)) (by decide)⟩
            first | (simp [zf_31, hc1, hc2, hc3, hc4]; done) | (simp [zf_31, hc1, hc2, hc3, hc4]; unfold zw; decide)
          · skip
            refine zy_b (q := (247, [])) (mr := zm_m142) rfl rfl (by decide +kernel) ?_
            refine zy_n 1 (mr := zm_m142) (pc' := 249) (ls' := [(8, .int 0), (7, .int 0), (6, .int 0), (5, .int 0), (4, .int 0), (0, .ref 27), (1, .int a1), (2, .int a2), (3, .int 1)]) (st' := [.int 0]) rfl rfl ?_
            as_aux_lemma =>
              refine zy_r (mr := zm_m142) rfl rfl rfl ?_
              refine zy_r (mr := zm_m141) rfl rfl rfl ?_
              refine ⟨⟨_, rfl, ?_⟩, fun k hk1 hk2 => ((zs_kE e7 (by omega)).trans rfl), Nat.le_trans (Nat.le_of_eq (zs_lsetE e7 (zp_len F).1)) (by decide), Nat.le_trans (Nat.le_of_eq (zs_szsetE (w := 1600) e7 (zp_i F 24 rfl) rfl rfl (zp_len F).2)) (by decide)⟩
              first | (simp [zf_31, hc1, hc2, hc3, hc4]; done) | (simp [zf_31, hc1, hc2, hc3, hc4]; unfold zw; decide)
          · skip
            refine zy_b (q := (250, [])) (mr := zm_m142) rfl rfl (by decide +kernel) ?_
            refine zy_n 1 (mr := zm_m142) (pc' := 252) (ls' := [(8, .int 0), (7, .int 0), (6, .int 0), (5, .int 0), (4, .int 0), (0, .ref 27), (1, .int a1), (2, .int a2), (3, .int 2)]) (st' := [.int 0]) rfl rfl ?_
            refine zy_r (mr := zm_m142) rfl rfl rfl ?_
            refine zy_r (mr := zm_m141) rfl rfl rfl ?_
            refine ⟨⟨_, rfl, ?_⟩, fun k hk1 hk2 => ((zs_kE e7 (by omega)).trans rfl), Nat.le_trans (Nat.le_of_eq (zs_lsetE e7 (zp_len F).1)) (by decide), Nat.le_trans (Nat.le_of_eq (zs_szsetE (w := 1600) e7 (zp_i F 24 rfl) rfl rfl (zp_len F).2)) (by decide)⟩
            first | (simp [zf_31, hc1, hc2, hc3, hc4]; done) | (simp [zf_31, hc1, hc2, hc3, hc4]; unfold zw; decide)
          · skip
            refine zy_b (q := (253, [])) (mr := zm_m142) rfl rfl (by decide +kernel) ?_
            refine zy_n 1 (mr := zm_m142) (pc' := 255) (ls' := [(8, .int 0), (7, .int 0), (6, .int 0), (5, .int 0), (4, .int 0), (0, .ref 27), (1, .int a1), (2, .int a2), (3, .int 3)]) (st' := [.int 0]) rfl rfl ?_
            refine zy_r (mr := zm_m142) rfl rfl rfl ?_
            refine zy_r (mr := zm_m141) rfl rfl rfl ?_
            refine ⟨⟨_, rfl, ?_⟩, fun k hk1 hk2 => ((zs_kE e7 (by omega)).trans rfl), Nat.le_trans (Nat.le_of_eq (zs_lsetE e7 (zp_len F).1)) (by decide), Nat.le_trans (Nat.le_of_eq (zs_szsetE (w := 1600) e7 (zp_i F 24 rfl) rfl rfl (zp_len F).2)) (by decide)⟩
            first | (simp [zf_31, hc1, hc2, hc3, hc4]; done) | (simp [zf_31, hc1, hc2, hc3, hc4]; unfold zw; decide)
        · skip
          refine zy_b (q := (32, [])) (mr := zm_m141) rfl rfl rfl ?_
          refine zy_n 1 (mr := zm_m141) (pc' := 35) (ls' := [(0, .ref 0), (1, .int a1), (2, .int a2), (3, .int a3)]) (st' := [.int (-1000000)]) rfl rfl ?_
          refine zy_r (mr := zm_m141) rfl rfl rfl ?_
          refine ⟨⟨_, rfl, ?_⟩, fun k hk1 hk2 => rfl, Nat.le_trans (Nat.le_of_eq (zp_len F).1) (by decide), Nat.le_trans (Nat.le_of_eq (zp_len F).2) (by decide)⟩
          first | (simp [zf_31, hc1, hc2, hc3, hc4]; done) | (simp [zf_31, hc1, hc2, hc3, hc4]; unfold zw; decide)
    · skip
      refine zy_b (q := (32, [])) (mr := zm_m141) rfl rfl rfl ?_
      refine zy_n 1 (mr := zm_m141) (pc' := 35) (ls' := [(0, .ref 0), (1, .int a1), (2, .int a2), (3, .int a3)]) (st' := [.int (-1000000)]) rfl rfl ?_
      refine zy_r (mr := zm_m141) rfl rfl rfl ?_
      refine ⟨⟨_, rfl, ?_⟩, fun k hk1 hk2 => rfl, Nat.le_trans (Nat.le_of_eq (zp_len F).1) (by decide), Nat.le_trans (Nat.le_of_eq (zp_len F).2) (by decide)⟩
      first | (simp [zf_31, hc1, hc2]; done) | (simp [zf_31, hc1, hc2]; unfold zw; decide)
  · skip
    refine zy_b (q := (32, [])) (mr := zm_m141) rfl rfl rfl ?_
    refine zy_n 1 (mr := zm_m141) (pc' := 35) (ls' := [(0, .ref 0), (1, .int a1), (2, .int a2), (3, .int a3)]) (st' := [.int (-1000000)]) rfl rfl ?_
    refine zy_r (mr := zm_m141) rfl rfl rfl ?_
    refine ⟨⟨_, rfl, ?_⟩, fun k hk1 hk2 => rfl, Nat.le_trans (Nat.le_of_eq (zp_len F).1) (by decide), Nat.le_trans (Nat.le_of_eq (zp_len F).2) (by decide)⟩
    first | (simp [zf_31, hc1]; done) | (simp [zf_31, hc1]; unfold zw; decide)
set_option maxHeartbeats 4000000 in
set_option maxRecDepth 20000 in
theorem zx_32 {og : Nat → Option zm_C} {h : zm_H} (F : zp_ck h = true) (a1 : Int32) : zm_Y og 30 143 0 [(0, .ref 0), (1, .int a1)] [] h (fun r h1 => (∃ v, r = some (.int v) ∧ zf_32 a1 v) ∧ (∀ k : Nat, 55 ≤ k → k < 117 → h1[k]? = h[k]?) ∧ h1.length ≤ 200 ∧ zm_szs h1 ≤ 90000) := by
  refine zy_n 3 (mr := zm_m143) (pc' := 3) (ls' := [(0, .ref 0), (1, .int a1)]) (st' := [.ref 0, .int 0, .int a1]) rfl rfl ?_
  refine zy_h (mr := zm_m143) rfl rfl (zh_get (v := .int 0) (zp_o F 0 rfl) rfl) ?_
  refine zy_c (mc := zm_m10) (mr := zm_m143) rfl rfl rfl rfl rfl (zm_Y.mono (zk_within a1 0 0) ?_)
  rintro r h1 ⟨rfl, ⟨rfl, hc1⟩ | ⟨rfl, hc1⟩⟩
  · skip
    refine zy_b (q := (15, [])) (mr := zm_m143) rfl rfl rfl ?_
    refine zy_n 1 (mr := zm_m143) (pc' := 16) (ls' := [(0, .ref 0), (1, .int a1)]) (st' := [.ref 0]) rfl rfl ?_
    refine zy_h (mr := zm_m143) rfl rfl (zh_get (v := .ref 7) (zp_o F 0 rfl) rfl) ?_
    refine zy_h (mr := zm_m143) rfl rfl (zh_get (v := .ref 9) (zp_o F 2 rfl) rfl) ?_
    refine zy_n 3 (mr := zm_m143) (pc' := 25) (ls' := [(2, .ref 9), (0, .ref 0), (1, .int a1)]) (st' := [.ref 0, .ref 0]) rfl rfl ?_
    refine zy_h (mr := zm_m143) rfl rfl (zh_get (v := .ref 2) (zp_o F 0 rfl) rfl) ?_
    refine zy_n 1 (mr := zm_m143) (pc' := 29) (ls' := [(2, .ref 9), (0, .ref 0), (1, .int a1)]) (st' := [.ref 9, .ref 2, .ref 0]) rfl rfl ?_
    refine zy_c (mc := zm_m144) (mr := zm_m143) rfl rfl (zh_v rfl (zp_o F 1 rfl) rfl) rfl rfl ?_
    refine zy_n 3 (mr := zm_m144) (pc' := 3) (ls' := [(0, .ref 2), (1, .ref 9)]) (st' := [.int 1, .ref 9, .ref 2]) rfl rfl ?_
    refine zy_c (mc := zm_m39) (mr := zm_m144) rfl rfl (zh_v rfl (zp_o F 1 rfl) rfl) rfl rfl ?_
    refine zy_n 2 (mr := zm_m39) (pc' := 2) (ls' := [(0, .ref 2), (1, .ref 9), (2, .int 1)]) (st' := [.ref 9, .ref 2]) rfl rfl ?_
    refine zy_hS (x := .inr (7, [.ref 3, .int 0, .ref 4, .ref 5, .ref 6, .int 0, .int 0, .ref 9, .int 0, .int (-1)])) (mr := zm_m39) rfl rfl (zh_put (zp_o F 1 rfl) rfl rfl) (fun he2 e2 => ?_)
    refine zy_n 1 (mr := zm_m39) (pc' := 6) (ls' := [(0, .ref 2), (1, .ref 9), (2, .int 1)]) (st' := [.ref 2]) rfl rfl ?_
    refine zy_h (mr := zm_m39) rfl rfl (zh_get (v := .ref 9) (zs_eqE e2 (zp_o F 1 rfl)) rfl) ?_
    refine zy_c (mc := zm_m40) (mr := zm_m39) rfl rfl (zh_v rfl (zs_neE e2 (zp_o F 3 rfl) (by decide)) rfl) rfl rfl ?_
    refine zy_n 2 (mr := zm_m40) (pc' := 2) (ls' := [(0, .ref 9)]) (st' := [.int 0, .ref 9]) rfl rfl ?_
    refine zy_hS (x := .inr (9, [.ref 10, .int 0, .ref 11, .ref 12, .ref 13, .ref 14, .ref 15, .int 0, .int 0, .null])) (mr := zm_m40) rfl rfl (zh_put (zs_neE e2 (zp_o F 3 rfl) (by decide)) rfl rfl) (fun he3 e3 => ?_)
    refine zy_n 2 (mr := zm_m40) (pc' := 7) (ls' := [(0, .ref 9)]) (st' := [.int 0, .ref 9]) rfl rfl ?_
    refine zy_hS (x := .inr (9, [.ref 10, .int 0, .ref 11, .ref 12, .ref 13, .ref 14, .ref 15, .int 0, .int 0, .null])) (mr := zm_m40) rfl rfl (zh_put (zs_eqE e3 (zs_neE e2 (zp_o F 3 rfl) (by decide))) rfl rfl) (fun he4 e4 => ?_)
    refine zy_n 2 (mr := zm_m40) (pc' := 12) (ls' := [(0, .ref 9)]) (st' := [.null, .ref 9]) rfl rfl ?_
    refine zy_hS (x := .inr (9, [.ref 10, .int 0, .ref 11, .ref 12, .ref 13, .ref 14, .ref 15, .int 0, .int 0, .null])) (mr := zm_m40) rfl rfl (zh_put (zs_eqE e4 (zs_eqE e3 (zs_neE e2 (zp_o F 3 rfl) (by decide)))) rfl rfl) (fun he5 e5 => ?_)
    refine zy_r (mr := zm_m40) rfl rfl rfl ?_
    refine zy_n 2 (mr := zm_m39) (pc' := 14) (ls' := [(0, .ref 2), (1, .ref 9), (2, .int 1)]) (st' := [.int 1, .ref 2]) rfl rfl ?_
    have k6 := (zs_neE e5 (zs_neE e4 (zs_neE e3 (zs_eqE e2 (zp_o F 1 rfl)) (by decide)) (by decide)) (by decide))
    refine zy_hS (x := .inr (7, [.ref 3, .int 0, .ref 4, .ref 5, .ref 6, .int 0, .int 0, .ref 9, .int 1, .int (-1)])) (mr := zm_m39) rfl rfl (zh_put k6 rfl (by decide)) (fun he7 e7 => ?_)
    refine zy_n 2 (mr := zm_m39) (pc' := 19) (ls' := [(0, .ref 2), (1, .ref 9), (2, .int 1)]) (st' := [.int (-1), .ref 2]) rfl rfl ?_
    have k8 := (zs_eqE e7 (zs_neE e5 (zs_neE e4 (zs_neE e3 (zs_eqE e2 (zp_o F 1 rfl)) (by decide)) (by decide)) (by decide)))
    refine zy_hS (x := .inr (7, [.ref 3, .int 0, .ref 4, .ref 5, .ref 6, .int 0, .int 0, .ref 9, .int 1, .int (-1)])) (mr := zm_m39) rfl rfl (zh_put k8 rfl rfl) (fun he9 e9 => ?_)
    refine zy_n 2 (mr := zm_m39) (pc' := 24) (ls' := [(0, .ref 2), (1, .ref 9), (2, .int 1)]) (st' := [.int 0, .ref 2]) rfl rfl ?_
    have k10 := (zs_eqE e9 (zs_eqE e7 (zs_neE e5 (zs_neE e4 (zs_neE e3 (zs_eqE e2 (zp_o F 1 rfl)) (by decide)) (by decide)) (by decide))))
    refine zy_hS (x := .inr (7, [.ref 3, .int 0, .ref 4, .ref 5, .ref 6, .int 0, .int 0, .ref 9, .int 1, .int (-1)])) (mr := zm_m39) rfl rfl (zh_put k10 rfl rfl) (fun he11 e11 => ?_)
    refine zy_n 2 (mr := zm_m39) (pc' := 29) (ls' := [(0, .ref 2), (1, .ref 9), (2, .int 1)]) (st' := [.int 0, .ref 2]) rfl rfl ?_
    have k12 := (zs_eqE e11 (zs_eqE e9 (zs_eqE e7 (zs_neE e5 (zs_neE e4 (zs_neE e3 (zs_eqE e2 (zp_o F 1 rfl)) (by decide)) (by decide)) (by decide)))))
    refine zy_hS (x := .inr (7, [.ref 3, .int 0, .ref 4, .ref 5, .ref 6, .int 0, .int 0, .ref 9, .int 1, .int (-1)])) (mr := zm_m39) rfl rfl (zh_put k12 rfl rfl) (fun he13 e13 => ?_)
    refine zy_n 6 (mr := zm_m39) (pc' := 42) (ls' := [(4, .int 0), (3, .int 0), (0, .ref 2), (1, .ref 9), (2, .int 1)]) (st' := [.int 300, .int 0]) rfl rfl ?_
    refine zy_b (q := (45, [])) (mr := zm_m39) rfl rfl rfl ?_
    refine zy_n 2 (mr := zm_m39) (pc' := 47) (ls' := [(4, .int 0), (3, .int 0), (0, .ref 2), (1, .ref 9), (2, .int 1)]) (st' := [.ref 2, .int 0]) rfl rfl ?_
    have k14 := (zs_eqE e13 (zs_eqE e11 (zs_eqE e9 (zs_eqE e7 (zs_neE e5 (zs_neE e4 (zs_neE e3 (zs_eqE e2 (zp_o F 1 rfl)) (by decide)) (by decide)) (by decide))))))
    refine zy_h (mr := zm_m39) rfl rfl (zh_get (v := .int 0) k14 rfl) ?_
    refine zy_b (q := (65, [])) (mr := zm_m39) rfl rfl rfl ?_
    refine zy_n 3 (mr := zm_m39) (pc' := 68) (ls' := [(4, .int 0), (3, .int 0), (0, .ref 2), (1, .ref 9), (2, .int 1)]) (st' := [.ref 2, .int 0, .ref 2]) rfl rfl ?_
    refine zy_h (mr := zm_m39) rfl rfl (zh_get (v := .int 0) k14 rfl) ?_
    refine zy_n 1 (mr := zm_m39) (pc' := 72) (ls' := [(4, .int 0), (3, .int 0), (0, .ref 2), (1, .ref 9), (2, .int 1)]) (st' := [.int 0, .int 0, .int 0, .ref 2]) rfl rfl ?_
    refine zy_c (mc := zm_m45) (mr := zm_m39) rfl rfl (zh_v rfl k14 rfl) rfl rfl ?_
    refine zy_n 1 (mr := zm_m45) (pc' := 1) (ls' := [(0, .ref 2), (1, .int 0), (2, .int 0), (3, .int 0)]) (st' := [.ref 2]) rfl rfl ?_
    as_aux_lemma =>
      refine zy_h (mr := zm_m45) rfl rfl (zh_get (v := .int 0) k14 rfl) ?_
      refine zy_n 1 (mr := zm_m45) (pc' := 5) (ls' := [(0, .ref 2), (1, .int 0), (2, .int 0), (3, .int 0)]) (st' := [.ref 2, .int 0]) rfl rfl ?_
      refine zy_h (mr := zm_m45) rfl rfl (zh_get (v := .ref 4) k14 rfl) ?_
      have k15 := (zs_neE e13 (zs_neE e11 (zs_neE e9 (zs_neE e7 (zs_neE e5 (zs_neE e4 (zs_neE e3 (zs_neE e2 (zp_i F 1 rfl) (by decide)) (by decide)) (by decide)) (by decide)) (by decide)) (by decide)) (by decide)) (by decide))
      refine zy_h (q := (.int 301 :: [.int 0], _)) (mr := zm_m45) rfl rfl (zh_alen k15) ?_
      refine zy_b (q := (12, [])) (mr := zm_m45) rfl rfl rfl ?_
      refine zy_n 1 (mr := zm_m45) (pc' := 13) (ls' := [(0, .ref 2), (1, .int 0), (2, .int 0), (3, .int 0)]) (st' := [.ref 2]) rfl rfl ?_
      refine zy_h (mr := zm_m45) rfl rfl (zh_get (v := .ref 4) k14 rfl) ?_
      refine zy_n 1 (mr := zm_m45) (pc' := 17) (ls' := [(0, .ref 2), (1, .int 0), (2, .int 0), (3, .int 0)]) (st' := [.ref 2, .ref 4]) rfl rfl ?_
      refine zy_h (mr := zm_m45) rfl rfl (zh_get (v := .int 0) k14 rfl) ?_
      refine zy_n 1 (mr := zm_m45) (pc' := 21) (ls' := [(0, .ref 2), (1, .int 0), (2, .int 0), (3, .int 0)]) (st' := [.int 0, .int 0, .ref 4]) rfl rfl ?_
      refine zy_hS (x := _) (mr := zm_m45) rfl rfl (zh_iast k15 (by decide)) (fun he16 e16 => ?_)
      refine zy_n 1 (mr := zm_m45) (pc' := 23) (ls' := [(0, .ref 2), (1, .int 0), (2, .int 0), (3, .int 0)]) (st' := [.ref 2]) rfl rfl ?_
      refine zy_h (mr := zm_m45) rfl rfl (zh_get (v := .ref 5) (zs_neE e16 k14 (by decide)) rfl) ?_
      refine zy_n 1 (mr := zm_m45) (pc' := 27) (ls' := [(0, .ref 2), (1, .int 0), (2, .int 0), (3, .int 0)]) (st' := [.ref 2, .ref 5]) rfl rfl ?_
      refine zy_h (mr := zm_m45) rfl rfl (zh_get (v := .int 0) (zs_neE e16 k14 (by decide)) rfl) ?_
      refine zy_n 1 (mr := zm_m45) (pc' := 31) (ls' := [(0, .ref 2), (1, .int 0), (2, .int 0), (3, .int 0)]) (st' := [.int 0, .int 0, .ref 5]) rfl rfl ?_
      have k17 := (zs_neE e16 (zs_neE e13 (zs_neE e11 (zs_neE e9 (zs_neE e7 (zs_neE e5 (zs_neE e4 (zs_neE e3 (zs_neE e2 (zp_i F 2 rfl) (by decide)) (by decide)) (by decide)) (by decide)) (by decide)) (by decide)) (by decide)) (by decide)) (by decide))
      refine zy_hS (x := _) (mr := zm_m45) rfl rfl (zh_iast k17 (by decide)) (fun he18 e18 => ?_)
      refine zy_n 1 (mr := zm_m45) (pc' := 33) (ls' := [(0, .ref 2), (1, .int 0), (2, .int 0), (3, .int 0)]) (st' := [.ref 2]) rfl rfl ?_
      refine zy_h (mr := zm_m45) rfl rfl (zh_get (v := .ref 6) (zs_neE e18 (zs_neE e16 k14 (by decide)) (by decide)) rfl) ?_
      refine zy_n 1 (mr := zm_m45) (pc' := 37) (ls' := [(0, .ref 2), (1, .int 0), (2, .int 0), (3, .int 0)]) (st' := [.ref 2, .ref 6]) rfl rfl ?_
      refine zy_h (mr := zm_m45) rfl rfl (zh_get (v := .int 0) (zs_neE e18 (zs_neE e16 k14 (by decide)) (by decide)) rfl) ?_
      refine zy_n 1 (mr := zm_m45) (pc' := 41) (ls' := [(0, .ref 2), (1, .int 0), (2, .int 0), (3, .int 0)]) (st' := [.int 0, .int 0, .ref 6]) rfl rfl ?_
      have k19 := (zs_neE e18 (zs_neE e16 (zs_neE e13 (zs_neE e11 (zs_neE e9 (zs_neE e7 (zs_neE e5 (zs_neE e4 (zs_neE e3 (zs_neE e2 (zp_i F 3 rfl) (by decide)) (by decide)) (by decide)) (by decide)) (by decide)) (by decide)) (by decide)) (by decide)) (by decide)) (by decide))
      refine zy_hS (x := _) (mr := zm_m45) rfl rfl (zh_iast k19 (by decide)) (fun he20 e20 => ?_)
      refine zy_n 2 (mr := zm_m45) (pc' := 44) (ls' := [(0, .ref 2), (1, .int 0), (2, .int 0), (3, .int 0)]) (st' := [.ref 2, .ref 2]) rfl rfl ?_
      refine zy_h (mr := zm_m45) rfl rfl (zh_get (v := .int 0) (zs_neE e20 (zs_neE e18 (zs_neE e16 k14 (by decide)) (by decide)) (by decide)) rfl) ?_
      refine zy_n 2 (mr := zm_m45) (pc' := 49) (ls' := [(0, .ref 2), (1, .int 0), (2, .int 0), (3, .int 0)]) (st' := [.int 1, .ref 2]) rfl rfl ?_
      refine zy_hS (x := .inr (7, [.ref 3, .int 0, .ref 4, .ref 5, .ref 6, .int 1, .int 0, .ref 9, .int 1, .int (-1)])) (mr := zm_m45) rfl rfl (zh_put (zs_neE e20 (zs_neE e18 (zs_neE e16 k14 (by decide)) (by decide)) (by decide)) rfl rfl) (fun he21 e21 => ?_)
      refine zy_r (mr := zm_m45) rfl rfl rfl ?_
      refine zy_r (mr := zm_m39) rfl rfl rfl ?_
      refine zy_n 1 (mr := zm_m144) (pc' := 7) (ls' := [(0, .ref 2), (1, .ref 9)]) (st' := [.ref 2]) rfl rfl ?_
      have k22 := (zs_eqE e21 (zs_neE e20 (zs_neE e18 (zs_neE e16 k14 (by decide)) (by decide)) (by decide)))
      refine zy_c (mc := zm_m145) (mr := zm_m144) rfl rfl (zh_v rfl k22 rfl) rfl rfl ?_
      refine zy_n 1 (mr := zm_m145) (pc' := 1) (ls' := [(0, .ref 2)]) (st' := [.ref 2]) rfl rfl ?_
      refine zy_h (mr := zm_m145) rfl rfl (zh_gets) ?_
      refine zy_c (mc := zm_m52) (mr := zm_m145) rfl rfl (zh_v rfl k22 rfl) rfl rfl ?_
      refine zy_n 2 (mr := zm_m52) (pc' := 2) (ls' := [(0, .ref 2), (1, .retAddr 27)]) (st' := [.int 1, .ref 2]) rfl rfl ?_
      refine zy_c (mc := zm_m49) (mr := zm_m52) rfl rfl (zh_v rfl k22 rfl) rfl rfl ?_
      refine zy_n 1 (mr := zm_m49) (pc' := 1) (ls' := [(0, .ref 2), (1, .int 1)]) (st' := [.ref 2]) rfl rfl ?_
      refine zy_h (mr := zm_m49) rfl rfl (zh_get (v := .int (-1)) k22 rfl) ?_
      refine zy_n 1 (mr := zm_m49) (pc' := 5) (ls' := [(0, .ref 2), (1, .int 1)]) (st' := [.int (-1), .int (-1)]) rfl rfl ?_
      refine zy_b (q := (8, [])) (mr := zm_m49) rfl rfl rfl ?_
      refine zy_n 1 (mr := zm_m49) (pc' := 9) (ls' := [(0, .ref 2), (1, .int 1)]) (st' := [.ref 2]) rfl rfl ?_
      refine zy_h (mr := zm_m49) rfl rfl (zh_get (v := .ref 4) k22 rfl) ?_
      refine zy_n 1 (mr := zm_m49) (pc' := 13) (ls' := [(0, .ref 2), (1, .int 1)]) (st' := [.ref 2, .ref 4]) rfl rfl ?_
      refine zy_h (mr := zm_m49) rfl rfl (zh_get (v := .int 0) k22 rfl) ?_
      have k23 := (zs_neE e21 (zs_neE e20 (zs_neE e18 (zs_eqE e16 k15) (by decide)) (by decide)) (by decide))
      refine zy_h (mr := zm_m49) rfl rfl (zh_iald (v := 0) k23 (by decide) rfl) ?_
      refine zy_n 1 (mr := zm_m49) (pc' := 18) (ls' := [(0, .ref 2), (1, .int 1)]) (st' := [.int 1, .int 0]) rfl rfl ?_
      as_aux_lemma =>
        refine zy_b (q := (25, [])) (mr := zm_m49) rfl rfl rfl ?_
        refine zy_n 1 (mr := zm_m49) (pc' := 26) (ls' := [(0, .ref 2), (1, .int 1)]) (st' := [.int 0]) rfl rfl ?_
        refine zy_r (mr := zm_m49) rfl rfl rfl ?_
        refine zy_b (q := (38, [])) (mr := zm_m52) rfl rfl rfl ?_
        refine zy_n 1 (mr := zm_m52) (pc' := 39) (ls' := [(0, .ref 2), (1, .retAddr 27)]) (st' := [.int 0]) rfl rfl ?_
        refine zy_r (mr := zm_m52) rfl rfl rfl ?_
        refine zy_b (q := (20, [])) (mr := zm_m145) rfl rfl rfl ?_
        refine zy_n 1 (mr := zm_m145) (pc' := 21) (ls' := [(0, .ref 2)]) (st' := [.ref 2]) rfl rfl ?_
        refine zy_h (mr := zm_m145) rfl rfl (zh_gets) ?_
        refine zy_c (mc := zm_m52) (mr := zm_m145) rfl rfl (zh_v rfl k22 rfl) rfl rfl ?_
        refine zy_n 2 (mr := zm_m52) (pc' := 2) (ls' := [(0, .ref 2), (1, .retAddr 28)]) (st' := [.int 1, .ref 2]) rfl rfl ?_
        refine zy_c (mc := zm_m49) (mr := zm_m52) rfl rfl (zh_v rfl k22 rfl) rfl rfl ?_
        refine zy_n 1 (mr := zm_m49) (pc' := 1) (ls' := [(0, .ref 2), (1, .int 1)]) (st' := [.ref 2]) rfl rfl ?_
        refine zy_h (mr := zm_m49) rfl rfl (zh_get (v := .int (-1)) k22 rfl) ?_
        refine zy_n 1 (mr := zm_m49) (pc' := 5) (ls' := [(0, .ref 2), (1, .int 1)]) (st' := [.int (-1), .int (-1)]) rfl rfl ?_
        refine zy_b (q := (8, [])) (mr := zm_m49) rfl rfl rfl ?_
        refine zy_n 1 (mr := zm_m49) (pc' := 9) (ls' := [(0, .ref 2), (1, .int 1)]) (st' := [.ref 2]) rfl rfl ?_
        refine zy_h (mr := zm_m49) rfl rfl (zh_get (v := .ref 4) k22 rfl) ?_
        refine zy_n 1 (mr := zm_m49) (pc' := 13) (ls' := [(0, .ref 2), (1, .int 1)]) (st' := [.ref 2, .ref 4]) rfl rfl ?_
        refine zy_h (mr := zm_m49) rfl rfl (zh_get (v := .int 0) k22 rfl) ?_
        refine zy_h (mr := zm_m49) rfl rfl (zh_iald (v := 0) k23 (by decide) rfl) ?_
        refine zy_n 1 (mr := zm_m49) (pc' := 18) (ls' := [(0, .ref 2), (1, .int 1)]) (st' := [.int 1, .int 0]) rfl rfl ?_
        refine zy_b (q := (25, [])) (mr := zm_m49) rfl rfl rfl ?_
        refine zy_n 1 (mr := zm_m49) (pc' := 26) (ls' := [(0, .ref 2), (1, .int 1)]) (st' := [.int 0]) rfl rfl ?_
        refine zy_r (mr := zm_m49) rfl rfl rfl ?_
        refine zy_b (q := (38, [])) (mr := zm_m52) rfl rfl rfl ?_
        refine zy_n 1 (mr := zm_m52) (pc' := 39) (ls' := [(0, .ref 2), (1, .retAddr 28)]) (st' := [.int 0]) rfl rfl ?_
        refine zy_r (mr := zm_m52) rfl rfl rfl ?_
        refine zy_b (q := (42, [])) (mr := zm_m145) rfl rfl rfl ?_
        refine zy_n 1 (mr := zm_m145) (pc' := 43) (ls' := [(0, .ref 2)]) (st' := [.ref 2]) rfl rfl ?_
        refine zy_h (mr := zm_m145) rfl rfl (zh_gets) ?_
        refine zy_c (mc := zm_m52) (mr := zm_m145) rfl rfl (zh_v rfl k22 rfl) rfl rfl ?_
        refine zy_n 2 (mr := zm_m52) (pc' := 2) (ls' := [(0, .ref 2), (1, .retAddr 29)]) (st' := [.int 1, .ref 2]) rfl rfl ?_
        refine zy_c (mc := zm_m49) (mr := zm_m52) rfl rfl (zh_v rfl k22 rfl) rfl rfl ?_
        refine zy_n 1 (mr := zm_m49) (pc' := 1) (ls' := [(0, .ref 2), (1, .int 1)]) (st' := [.ref 2]) rfl rfl ?_
        refine zy_h (mr := zm_m49) rfl rfl (zh_get (v := .int (-1)) k22 rfl) ?_
        refine zy_n 1 (mr := zm_m49) (pc' := 5) (ls' := [(0, .ref 2), (1, .int 1)]) (st' := [.int (-1), .int (-1)]) rfl rfl ?_
        refine zy_b (q := (8, [])) (mr := zm_m49) rfl rfl rfl ?_
        refine zy_n 1 (mr := zm_m49) (pc' := 9) (ls' := [(0, .ref 2), (1, .int 1)]) (st' := [.ref 2]) rfl rfl ?_
        refine zy_h (mr := zm_m49) rfl rfl (zh_get (v := .ref 4) k22 rfl) ?_
        refine zy_n 1 (mr := zm_m49) (pc' := 13) (ls' := [(0, .ref 2), (1, .int 1)]) (st' := [.ref 2, .ref 4]) rfl rfl ?_
        refine zy_h (mr := zm_m49) rfl rfl (zh_get (v := .int 0) k22 rfl) ?_
        refine zy_h (mr := zm_m49) rfl rfl (zh_iald (v := 0) k23 (by decide) rfl) ?_
        refine zy_n 1 (mr := zm_m49) (pc' := 18) (ls' := [(0, .ref 2), (1, .int 1)]) (st' := [.int 1, .int 0]) rfl rfl ?_
        refine zy_b (q := (25, [])) (mr := zm_m49) rfl rfl rfl ?_
        refine zy_n 1 (mr := zm_m49) (pc' := 26) (ls' := [(0, .ref 2), (1, .int 1)]) (st' := [.int 0]) rfl rfl ?_
        refine zy_r (mr := zm_m49) rfl rfl rfl ?_
        refine zy_b (q := (38, [])) (mr := zm_m52) rfl rfl rfl ?_
        refine zy_n 1 (mr := zm_m52) (pc' := 39) (ls' := [(0, .ref 2), (1, .retAddr 29)]) (st' := [.int 0]) rfl rfl ?_
        refine zy_r (mr := zm_m52) rfl rfl rfl ?_
        refine zy_b (q := (64, [])) (mr := zm_m145) rfl rfl rfl ?_
        refine zy_n 1 (mr := zm_m145) (pc' := 65) (ls' := [(0, .ref 2)]) (st' := [.ref 2]) rfl rfl ?_
        as_aux_lemma =>
          refine zy_h (mr := zm_m145) rfl rfl (zh_gets) ?_
          refine zy_c (mc := zm_m52) (mr := zm_m145) rfl rfl (zh_v rfl k22 rfl) rfl rfl ?_
          refine zy_n 2 (mr := zm_m52) (pc' := 2) (ls' := [(0, .ref 2), (1, .retAddr 30)]) (st' := [.int 1, .ref 2]) rfl rfl ?_
          refine zy_c (mc := zm_m49) (mr := zm_m52) rfl rfl (zh_v rfl k22 rfl) rfl rfl ?_
          refine zy_n 1 (mr := zm_m49) (pc' := 1) (ls' := [(0, .ref 2), (1, .int 1)]) (st' := [.ref 2]) rfl rfl ?_
          refine zy_h (mr := zm_m49) rfl rfl (zh_get (v := .int (-1)) k22 rfl) ?_
          refine zy_n 1 (mr := zm_m49) (pc' := 5) (ls' := [(0, .ref 2), (1, .int 1)]) (st' := [.int (-1), .int (-1)]) rfl rfl ?_
          refine zy_b (q := (8, [])) (mr := zm_m49) rfl rfl rfl ?_
          refine zy_n 1 (mr := zm_m49) (pc' := 9) (ls' := [(0, .ref 2), (1, .int 1)]) (st' := [.ref 2]) rfl rfl ?_
          refine zy_h (mr := zm_m49) rfl rfl (zh_get (v := .ref 4) k22 rfl) ?_
          refine zy_n 1 (mr := zm_m49) (pc' := 13) (ls' := [(0, .ref 2), (1, .int 1)]) (st' := [.ref 2, .ref 4]) rfl rfl ?_
          refine zy_h (mr := zm_m49) rfl rfl (zh_get (v := .int 0) k22 rfl) ?_
          refine zy_h (mr := zm_m49) rfl rfl (zh_iald (v := 0) k23 (by decide) rfl) ?_
          refine zy_n 1 (mr := zm_m49) (pc' := 18) (ls' := [(0, .ref 2), (1, .int 1)]) (st' := [.int 1, .int 0]) rfl rfl ?_
          refine zy_b (q := (25, [])) (mr := zm_m49) rfl rfl rfl ?_
          refine zy_n 1 (mr := zm_m49) (pc' := 26) (ls' := [(0, .ref 2), (1, .int 1)]) (st' := [.int 0]) rfl rfl ?_
          refine zy_r (mr := zm_m49) rfl rfl rfl ?_
          refine zy_b (q := (38, [])) (mr := zm_m52) rfl rfl rfl ?_
          refine zy_n 1 (mr := zm_m52) (pc' := 39) (ls' := [(0, .ref 2), (1, .retAddr 30)]) (st' := [.int 0]) rfl rfl ?_
          refine zy_r (mr := zm_m52) rfl rfl rfl ?_
          refine zy_b (q := (86, [])) (mr := zm_m145) rfl rfl rfl ?_
          refine zy_n 1 (mr := zm_m145) (pc' := 87) (ls' := [(0, .ref 2)]) (st' := [.ref 2]) rfl rfl ?_
          refine zy_c (mc := zm_m51) (mr := zm_m145) rfl rfl (zh_v rfl k22 rfl) rfl rfl ?_
          refine zy_n 1 (mr := zm_m51) (pc' := 1) (ls' := [(0, .ref 2)]) (st' := [.ref 2]) rfl rfl ?_
          refine zy_h (mr := zm_m51) rfl rfl (zh_get (v := .int (-1)) k22 rfl) ?_
          refine zy_n 1 (mr := zm_m51) (pc' := 5) (ls' := [(0, .ref 2)]) (st' := [.int (-1), .int (-1)]) rfl rfl ?_
          refine zy_b (q := (8, [])) (mr := zm_m51) rfl rfl rfl ?_
          refine zy_n 2 (mr := zm_m51) (pc' := 10) (ls' := [(0, .ref 2)]) (st' := [.ref 2, .ref 2]) rfl rfl ?_
          refine zy_h (mr := zm_m51) rfl rfl (zh_get (v := .ref 5) k22 rfl) ?_
          refine zy_n 1 (mr := zm_m51) (pc' := 14) (ls' := [(0, .ref 2)]) (st' := [.ref 2, .ref 5, .ref 2]) rfl rfl ?_
          refine zy_h (mr := zm_m51) rfl rfl (zh_get (v := .int 0) k22 rfl) ?_
          refine zy_h (mr := zm_m51) rfl rfl (zh_iald (v := 0) (zs_neE e21 (zs_neE e20 (zs_eqE e18 k17) (by decide)) (by decide)) (by decide) rfl) ?_
          refine zy_hS (x := .inr (7, [.ref 3, .int 0, .ref 4, .ref 5, .ref 6, .int 1, .int 0, .ref 9, .int 1, .int 0])) (mr := zm_m51) rfl rfl (zh_put k22 rfl rfl) (fun he24 e24 => ?_)
          refine zy_r (mr := zm_m51) rfl rfl rfl ?_
          refine zy_n 2 (mr := zm_m145) (pc' := 92) (ls' := [(0, .ref 2)]) (st' := [.int 0, .ref 2]) rfl rfl ?_
          refine zy_c (mc := zm_m56) (mr := zm_m145) rfl rfl (zh_v rfl (zs_eqE e24 k22) rfl) rfl rfl ?_
          refine zy_n 2 (mr := zm_m56) (pc' := 2) (ls' := [(0, .ref 2), (1, .int 0)]) (st' := [.int 0, .ref 2]) rfl rfl ?_
          refine zy_c (mc := zm_m57) (mr := zm_m56) rfl rfl (zh_v rfl (zs_eqE e24 k22) rfl) rfl rfl ?_
          refine zy_n 2 (mr := zm_m57) (pc' := 2) (ls' := [(0, .ref 2), (1, .int 0)]) (st' := [.int 0, .ref 2]) rfl rfl ?_
          refine zy_c (mc := zm_m58) (mr := zm_m57) rfl rfl (zh_v rfl (zs_eqE e24 k22) rfl) rfl rfl ?_
          refine zy_n 2 (mr := zm_m58) (pc' := 2) (ls' := [(0, .ref 2), (1, .int 0)]) (st' := [.int 2, .ref 2]) rfl rfl ?_
          refine zy_c (mc := zm_m49) (mr := zm_m58) rfl rfl (zh_v rfl (zs_eqE e24 k22) rfl) rfl rfl ?_
          refine zy_n 1 (mr := zm_m49) (pc' := 1) (ls' := [(0, .ref 2), (1, .int 2)]) (st' := [.ref 2]) rfl rfl ?_
          refine zy_h (mr := zm_m49) rfl rfl (zh_get (v := .int 0) (zs_eqE e24 k22) rfl) ?_
          refine zy_n 1 (mr := zm_m49) (pc' := 5) (ls' := [(0, .ref 2), (1, .int 2)]) (st' := [.int (-1), .int 0]) rfl rfl ?_
          refine zy_b (q := (25, [])) (mr := zm_m49) rfl rfl rfl ?_
          refine zy_n 1 (mr := zm_m49) (pc' := 26) (ls' := [(0, .ref 2), (1, .int 2)]) (st' := [.int 0]) rfl rfl ?_
          refine zy_r (mr := zm_m49) rfl rfl rfl ?_
          refine zy_b (q := (22, [])) (mr := zm_m58) rfl rfl rfl ?_
          refine zy_n 2 (mr := zm_m58) (pc' := 25) (ls' := [(0, .ref 2), (1, .int 0)]) (st' := [.int 40, .ref 2]) rfl rfl ?_
          refine zy_c (mc := zm_m49) (mr := zm_m58) rfl rfl (zh_v rfl (zs_eqE e24 k22) rfl) rfl rfl ?_
          refine zy_n 1 (mr := zm_m49) (pc' := 1) (ls' := [(0, .ref 2), (1, .int 40)]) (st' := [.ref 2]) rfl rfl ?_
          as_aux_lemma =>
            refine zy_h (mr := zm_m49) rfl rfl (zh_get (v := .int 0) (zs_eqE e24 k22) rfl) ?_
            refine zy_n 1 (mr := zm_m49) (pc' := 5) (ls' := [(0, .ref 2), (1, .int 40)]) (st' := [.int (-1), .int 0]) rfl rfl ?_
            refine zy_b (q := (25, [])) (mr := zm_m49) rfl rfl rfl ?_
            refine zy_n 1 (mr := zm_m49) (pc' := 26) (ls' := [(0, .ref 2), (1, .int 40)]) (st' := [.int 0]) rfl rfl ?_
            refine zy_r (mr := zm_m49) rfl rfl rfl ?_
            refine zy_b (q := (50, [])) (mr := zm_m58) rfl rfl rfl ?_
            refine zy_n 1 (mr := zm_m58) (pc' := 51) (ls' := [(0, .ref 2), (1, .int 0)]) (st' := [.ref 2]) rfl rfl ?_
            refine zy_h (mr := zm_m58) rfl rfl (zh_gets) ?_
            refine zy_c (mc := zm_m52) (mr := zm_m58) rfl rfl (zh_v rfl (zs_eqE e24 k22) rfl) rfl rfl ?_
            refine zy_n 2 (mr := zm_m52) (pc' := 2) (ls' := [(0, .ref 2), (1, .retAddr 5)]) (st' := [.int 1, .ref 2]) rfl rfl ?_
            refine zy_c (mc := zm_m49) (mr := zm_m52) rfl rfl (zh_v rfl (zs_eqE e24 k22) rfl) rfl rfl ?_
            refine zy_n 1 (mr := zm_m49) (pc' := 1) (ls' := [(0, .ref 2), (1, .int 1)]) (st' := [.ref 2]) rfl rfl ?_
            refine zy_h (mr := zm_m49) rfl rfl (zh_get (v := .int 0) (zs_eqE e24 k22) rfl) ?_
            refine zy_n 1 (mr := zm_m49) (pc' := 5) (ls' := [(0, .ref 2), (1, .int 1)]) (st' := [.int (-1), .int 0]) rfl rfl ?_
            refine zy_b (q := (25, [])) (mr := zm_m49) rfl rfl rfl ?_
            refine zy_n 1 (mr := zm_m49) (pc' := 26) (ls' := [(0, .ref 2), (1, .int 1)]) (st' := [.int 0]) rfl rfl ?_
            refine zy_r (mr := zm_m49) rfl rfl rfl ?_
            refine zy_b (q := (38, [])) (mr := zm_m52) rfl rfl rfl ?_
            refine zy_n 1 (mr := zm_m52) (pc' := 39) (ls' := [(0, .ref 2), (1, .retAddr 5)]) (st' := [.int 0]) rfl rfl ?_
            refine zy_r (mr := zm_m52) rfl rfl rfl ?_
            refine zy_b (q := (78, [])) (mr := zm_m58) rfl rfl rfl ?_
            refine zy_n 1 (mr := zm_m58) (pc' := 79) (ls' := [(0, .ref 2), (1, .int 0)]) (st' := [.ref 2]) rfl rfl ?_
            refine zy_h (mr := zm_m58) rfl rfl (zh_gets) ?_
            refine zy_c (mc := zm_m52) (mr := zm_m58) rfl rfl (zh_v rfl (zs_eqE e24 k22) rfl) rfl rfl ?_
            refine zy_n 2 (mr := zm_m52) (pc' := 2) (ls' := [(0, .ref 2), (1, .retAddr 6)]) (st' := [.int 1, .ref 2]) rfl rfl ?_
            refine zy_c (mc := zm_m49) (mr := zm_m52) rfl rfl (zh_v rfl (zs_eqE e24 k22) rfl) rfl rfl ?_
            refine zy_n 1 (mr := zm_m49) (pc' := 1) (ls' := [(0, .ref 2), (1, .int 1)]) (st' := [.ref 2]) rfl rfl ?_
            refine zy_h (mr := zm_m49) rfl rfl (zh_get (v := .int 0) (zs_eqE e24 k22) rfl) ?_
            refine zy_n 1 (mr := zm_m49) (pc' := 5) (ls' := [(0, .ref 2), (1, .int 1)]) (st' := [.int (-1), .int 0]) rfl rfl ?_
            refine zy_b (q := (25, [])) (mr := zm_m49) rfl rfl rfl ?_
            refine zy_n 1 (mr := zm_m49) (pc' := 26) (ls' := [(0, .ref 2), (1, .int 1)]) (st' := [.int 0]) rfl rfl ?_
            refine zy_r (mr := zm_m49) rfl rfl rfl ?_
            refine zy_b (q := (38, [])) (mr := zm_m52) rfl rfl rfl ?_
            refine zy_n 1 (mr := zm_m52) (pc' := 39) (ls' := [(0, .ref 2), (1, .retAddr 6)]) (st' := [.int 0]) rfl rfl ?_
            refine zy_r (mr := zm_m52) rfl rfl rfl ?_
            refine zy_b (q := (106, [])) (mr := zm_m58) rfl rfl rfl ?_
            refine zy_n 1 (mr := zm_m58) (pc' := 107) (ls' := [(0, .ref 2), (1, .int 0)]) (st' := [.ref 2]) rfl rfl ?_
            refine zy_c (mc := zm_m65) (mr := zm_m58) rfl rfl (zh_v rfl (zs_eqE e24 k22) rfl) rfl rfl ?_
            refine zy_n 2 (mr := zm_m65) (pc' := 2) (ls' := [(0, .ref 2)]) (st' := [.int 1, .ref 2]) rfl rfl ?_
            refine zy_c (mc := zm_m49) (mr := zm_m65) rfl rfl (zh_v rfl (zs_eqE e24 k22) rfl) rfl rfl ?_
            refine zy_n 1 (mr := zm_m49) (pc' := 1) (ls' := [(0, .ref 2), (1, .int 1)]) (st' := [.ref 2]) rfl rfl ?_
            refine zy_h (mr := zm_m49) rfl rfl (zh_get (v := .int 0) (zs_eqE e24 k22) rfl) ?_
            refine zy_n 1 (mr := zm_m49) (pc' := 5) (ls' := [(0, .ref 2), (1, .int 1)]) (st' := [.int (-1), .int 0]) rfl rfl ?_
            refine zy_b (q := (25, [])) (mr := zm_m49) rfl rfl rfl ?_
            refine zy_n 1 (mr := zm_m49) (pc' := 26) (ls' := [(0, .ref 2), (1, .int 1)]) (st' := [.int 0]) rfl rfl ?_
            refine zy_r (mr := zm_m49) rfl rfl rfl ?_
            refine zy_b (q := (37, [])) (mr := zm_m65) rfl rfl rfl ?_
            refine zy_n 3 (mr := zm_m65) (pc' := 40) (ls' := [(1, .null), (0, .ref 2)]) (st' := [.null]) rfl rfl ?_
            refine zy_b (mr := zm_m65) rfl rfl rfl ?_
            refine zy_n 1 (mr := zm_m65) (pc' := 68) (ls' := [(1, .null), (0, .ref 2)]) (st' := [.ref 2]) rfl rfl ?_
            refine zy_c (mc := zm_m51) (mr := zm_m65) rfl rfl (zh_v rfl (zs_eqE e24 k22) rfl) rfl rfl ?_
            refine zy_n 1 (mr := zm_m51) (pc' := 1) (ls' := [(0, .ref 2)]) (st' := [.ref 2]) rfl rfl ?_
            as_aux_lemma =>
              refine zy_h (mr := zm_m51) rfl rfl (zh_get (v := .int 0) (zs_eqE e24 k22) rfl) ?_
              refine zy_n 1 (mr := zm_m51) (pc' := 5) (ls' := [(0, .ref 2)]) (st' := [.int (-1), .int 0]) rfl rfl ?_
              refine zy_b (q := (21, [])) (mr := zm_m51) rfl rfl rfl ?_
              refine zy_r (mr := zm_m51) rfl rfl rfl ?_
              refine zy_n 1 (mr := zm_m65) (pc' := 72) (ls' := [(1, .null), (0, .ref 2)]) (st' := [.null]) rfl rfl ?_
              refine zy_r (mr := zm_m65) rfl rfl rfl ?_
              refine zy_n 2 (mr := zm_m58) (pc' := 112) (ls' := [(2, .null), (0, .ref 2), (1, .int 0)]) (st' := [.null]) rfl rfl ?_
              refine zy_b (mr := zm_m58) rfl rfl rfl ?_
              refine zy_r (mr := zm_m58) rfl rfl rfl ?_
              refine zy_n 4 (mr := zm_m57) (pc' := 11) (ls' := [(2, .int 0), (0, .ref 2), (1, .int 0)]) (st' := [.int 300, .int 0]) rfl rfl ?_
              refine zy_b (q := (14, [])) (mr := zm_m57) rfl rfl rfl ?_
              refine zy_n 2 (mr := zm_m57) (pc' := 17) (ls' := [(2, .int 0), (0, .ref 2), (1, .int 0)]) (st' := [.int 42, .ref 2]) rfl rfl ?_
              refine zy_c (mc := zm_m49) (mr := zm_m57) rfl rfl (zh_v rfl (zs_eqE e24 k22) rfl) rfl rfl ?_
              refine zy_n 1 (mr := zm_m49) (pc' := 1) (ls' := [(0, .ref 2), (1, .int 42)]) (st' := [.ref 2]) rfl rfl ?_
              refine zy_h (mr := zm_m49) rfl rfl (zh_get (v := .int 0) (zs_eqE e24 k22) rfl) ?_
              refine zy_n 1 (mr := zm_m49) (pc' := 5) (ls' := [(0, .ref 2), (1, .int 42)]) (st' := [.int (-1), .int 0]) rfl rfl ?_
              refine zy_b (q := (25, [])) (mr := zm_m49) rfl rfl rfl ?_
              refine zy_n 1 (mr := zm_m49) (pc' := 26) (ls' := [(0, .ref 2), (1, .int 42)]) (st' := [.int 0]) rfl rfl ?_
              refine zy_r (mr := zm_m49) rfl rfl rfl ?_
              refine zy_b (q := (23, [])) (mr := zm_m57) rfl rfl rfl ?_
              refine zy_n 2 (mr := zm_m57) (pc' := 26) (ls' := [(2, .int 0), (0, .ref 2), (1, .int 0)]) (st' := [.int 47, .ref 2]) rfl rfl ?_
              refine zy_c (mc := zm_m49) (mr := zm_m57) rfl rfl (zh_v rfl (zs_eqE e24 k22) rfl) rfl rfl ?_
              refine zy_n 1 (mr := zm_m49) (pc' := 1) (ls' := [(0, .ref 2), (1, .int 47)]) (st' := [.ref 2]) rfl rfl ?_
              refine zy_h (mr := zm_m49) rfl rfl (zh_get (v := .int 0) (zs_eqE e24 k22) rfl) ?_
              refine zy_n 1 (mr := zm_m49) (pc' := 5) (ls' := [(0, .ref 2), (1, .int 47)]) (st' := [.int (-1), .int 0]) rfl rfl ?_
              refine zy_b (q := (25, [])) (mr := zm_m49) rfl rfl rfl ?_
              refine zy_n 1 (mr := zm_m49) (pc' := 26) (ls' := [(0, .ref 2), (1, .int 47)]) (st' := [.int 0]) rfl rfl ?_
              refine zy_r (mr := zm_m49) rfl rfl rfl ?_
              refine zy_b (q := (80, [])) (mr := zm_m57) rfl rfl rfl ?_
              refine zy_r (mr := zm_m57) rfl rfl rfl ?_
              refine zy_n 4 (mr := zm_m56) (pc' := 11) (ls' := [(2, .int 0), (0, .ref 2), (1, .int 0)]) (st' := [.int 300, .int 0]) rfl rfl ?_
              refine zy_b (q := (14, [])) (mr := zm_m56) rfl rfl rfl ?_
              refine zy_n 2 (mr := zm_m56) (pc' := 17) (ls' := [(2, .int 0), (0, .ref 2), (1, .int 0)]) (st' := [.int 43, .ref 2]) rfl rfl ?_
              refine zy_c (mc := zm_m49) (mr := zm_m56) rfl rfl (zh_v rfl (zs_eqE e24 k22) rfl) rfl rfl ?_
              refine zy_n 1 (mr := zm_m49) (pc' := 1) (ls' := [(0, .ref 2), (1, .int 43)]) (st' := [.ref 2]) rfl rfl ?_
              refine zy_h (mr := zm_m49) rfl rfl (zh_get (v := .int 0) (zs_eqE e24 k22) rfl) ?_
              refine zy_n 1 (mr := zm_m49) (pc' := 5) (ls' := [(0, .ref 2), (1, .int 43)]) (st' := [.int (-1), .int 0]) rfl rfl ?_
              refine zy_b (q := (25, [])) (mr := zm_m49) rfl rfl rfl ?_
              refine zy_n 1 (mr := zm_m49) (pc' := 26) (ls' := [(0, .ref 2), (1, .int 43)]) (st' := [.int 0]) rfl rfl ?_
              refine zy_r (mr := zm_m49) rfl rfl rfl ?_
              refine zy_b (q := (23, [])) (mr := zm_m56) rfl rfl rfl ?_
              refine zy_n 2 (mr := zm_m56) (pc' := 26) (ls' := [(2, .int 0), (0, .ref 2), (1, .int 0)]) (st' := [.int 45, .ref 2]) rfl rfl ?_
              refine zy_c (mc := zm_m49) (mr := zm_m56) rfl rfl (zh_v rfl (zs_eqE e24 k22) rfl) rfl rfl ?_
              refine zy_n 1 (mr := zm_m49) (pc' := 1) (ls' := [(0, .ref 2), (1, .int 45)]) (st' := [.ref 2]) rfl rfl ?_
              refine zy_h (mr := zm_m49) rfl rfl (zh_get (v := .int 0) (zs_eqE e24 k22) rfl) ?_
              refine zy_n 1 (mr := zm_m49) (pc' := 5) (ls' := [(0, .ref 2), (1, .int 45)]) (st' := [.int (-1), .int 0]) rfl rfl ?_
              refine zy_b (q := (25, [])) (mr := zm_m49) rfl rfl rfl ?_
              refine zy_n 1 (mr := zm_m49) (pc' := 26) (ls' := [(0, .ref 2), (1, .int 45)]) (st' := [.int 0]) rfl rfl ?_
              refine zy_r (mr := zm_m49) rfl rfl rfl ?_
              refine zy_b (q := (80, [])) (mr := zm_m56) rfl rfl rfl ?_
              refine zy_r (mr := zm_m56) rfl rfl rfl ?_
              as_aux_lemma =>
                refine zy_r (mr := zm_m145) rfl rfl rfl ?_
                refine zy_n 1 (mr := zm_m144) (pc' := 11) (ls' := [(0, .ref 2), (1, .ref 9)]) (st' := [.ref 2]) rfl rfl ?_
                refine zy_h (mr := zm_m144) rfl rfl (zh_get (v := .ref 9) (zs_eqE e24 k22) rfl) ?_
                have k25 := (zs_neE e24 (zs_neE e21 (zs_neE e20 (zs_neE e18 (zs_neE e16 (zs_neE e13 (zs_neE e11 (zs_neE e9 (zs_neE e7 (zs_eqE e5 (zs_eqE e4 (zs_eqE e3 (zs_neE e2 (zp_o F 3 rfl) (by decide))))) (by decide)) (by decide)) (by decide)) (by decide)) (by decide)) (by decide)) (by decide)) (by decide)) (by decide))
                refine zy_c (mc := zm_m66) (mr := zm_m144) rfl rfl (zh_v rfl k25 rfl) rfl rfl ?_
                refine zy_n 1 (mr := zm_m66) (pc' := 1) (ls' := [(0, .ref 9)]) (st' := [.ref 9]) rfl rfl ?_
                refine zy_h (mr := zm_m66) rfl rfl (zh_get (v := .int 0) k25 rfl) ?_
                refine zy_b (q := (22, [])) (mr := zm_m66) rfl rfl rfl ?_
                refine zy_r (mr := zm_m66) rfl rfl rfl ?_
                refine zy_n 1 (mr := zm_m144) (pc' := 18) (ls' := [(0, .ref 2), (1, .ref 9)]) (st' := [.ref 2]) rfl rfl ?_
                refine zy_h (mr := zm_m144) rfl rfl (zh_gets) ?_
                refine zy_c (mc := zm_m52) (mr := zm_m144) rfl rfl (zh_v rfl (zs_eqE e24 k22) rfl) rfl rfl ?_
                refine zy_n 2 (mr := zm_m52) (pc' := 2) (ls' := [(0, .ref 2), (1, .retAddr 31)]) (st' := [.int 1, .ref 2]) rfl rfl ?_
                refine zy_c (mc := zm_m49) (mr := zm_m52) rfl rfl (zh_v rfl (zs_eqE e24 k22) rfl) rfl rfl ?_
                refine zy_n 1 (mr := zm_m49) (pc' := 1) (ls' := [(0, .ref 2), (1, .int 1)]) (st' := [.ref 2]) rfl rfl ?_
                refine zy_h (mr := zm_m49) rfl rfl (zh_get (v := .int 0) (zs_eqE e24 k22) rfl) ?_
                refine zy_n 1 (mr := zm_m49) (pc' := 5) (ls' := [(0, .ref 2), (1, .int 1)]) (st' := [.int (-1), .int 0]) rfl rfl ?_
                refine zy_b (q := (25, [])) (mr := zm_m49) rfl rfl rfl ?_
                refine zy_n 1 (mr := zm_m49) (pc' := 26) (ls' := [(0, .ref 2), (1, .int 1)]) (st' := [.int 0]) rfl rfl ?_
                refine zy_r (mr := zm_m49) rfl rfl rfl ?_
                refine zy_b (q := (38, [])) (mr := zm_m52) rfl rfl rfl ?_
                refine zy_n 1 (mr := zm_m52) (pc' := 39) (ls' := [(0, .ref 2), (1, .retAddr 31)]) (st' := [.int 0]) rfl rfl ?_
                refine zy_r (mr := zm_m52) rfl rfl rfl ?_
                refine zy_b (q := (32, [])) (mr := zm_m144) rfl rfl rfl ?_
                refine zy_n 1 (mr := zm_m144) (pc' := 33) (ls' := [(0, .ref 2), (1, .ref 9)]) (st' := [.ref 2]) rfl rfl ?_
                refine zy_h (mr := zm_m144) rfl rfl (zh_get (v := .ref 9) (zs_eqE e24 k22) rfl) ?_
                refine zy_c (mc := zm_m70) (mr := zm_m144) rfl rfl (zh_v rfl k25 rfl) rfl rfl ?_
                refine zy_n 1 (mr := zm_m70) (pc' := 1) (ls' := [(0, .ref 9)]) (st' := [.ref 9]) rfl rfl ?_
                refine zy_h (mr := zm_m70) rfl rfl (zh_get (v := .int 0) k25 rfl) ?_
                refine zy_b (q := (22, [])) (mr := zm_m70) rfl rfl rfl ?_
                refine zy_r (mr := zm_m70) rfl rfl rfl ?_
                refine zy_n 1 (mr := zm_m144) (pc' := 40) (ls' := [(0, .ref 2), (1, .ref 9)]) (st' := [.ref 2]) rfl rfl ?_
                refine zy_h (mr := zm_m144) rfl rfl (zh_gets) ?_
                refine zy_c (mc := zm_m52) (mr := zm_m144) rfl rfl (zh_v rfl (zs_eqE e24 k22) rfl) rfl rfl ?_
                refine zy_n 2 (mr := zm_m52) (pc' := 2) (ls' := [(0, .ref 2), (1, .retAddr 32)]) (st' := [.int 1, .ref 2]) rfl rfl ?_
                refine zy_c (mc := zm_m49) (mr := zm_m52) rfl rfl (zh_v rfl (zs_eqE e24 k22) rfl) rfl rfl ?_
                refine zy_n 1 (mr := zm_m49) (pc' := 1) (ls' := [(0, .ref 2), (1, .int 1)]) (st' := [.ref 2]) rfl rfl ?_
                refine zy_h (mr := zm_m49) rfl rfl (zh_get (v := .int 0) (zs_eqE e24 k22) rfl) ?_
                refine zy_n 1 (mr := zm_m49) (pc' := 5) (ls' := [(0, .ref 2), (1, .int 1)]) (st' := [.int (-1), .int 0]) rfl rfl ?_
                refine zy_b (q := (25, [])) (mr := zm_m49) rfl rfl rfl ?_
                refine zy_n 1 (mr := zm_m49) (pc' := 26) (ls' := [(0, .ref 2), (1, .int 1)]) (st' := [.int 0]) rfl rfl ?_
                refine zy_r (mr := zm_m49) rfl rfl rfl ?_
                refine zy_b (q := (38, [])) (mr := zm_m52) rfl rfl rfl ?_
                refine zy_n 1 (mr := zm_m52) (pc' := 39) (ls' := [(0, .ref 2), (1, .retAddr 32)]) (st' := [.int 0]) rfl rfl ?_
                refine zy_r (mr := zm_m52) rfl rfl rfl ?_
                refine zy_b (q := (60, [])) (mr := zm_m144) rfl rfl rfl ?_
                refine zy_n 1 (mr := zm_m144) (pc' := 61) (ls' := [(0, .ref 2), (1, .ref 9)]) (st' := [.ref 2]) rfl rfl ?_
                refine zy_c (mc := zm_m71) (mr := zm_m144) rfl rfl (zh_v rfl (zs_eqE e24 k22) rfl) rfl rfl ?_
                refine zy_n 2 (mr := zm_m71) (pc' := 2) (ls' := [(0, .ref 2)]) (st' := [.int 0, .ref 2]) rfl rfl ?_
                refine zy_c (mc := zm_m49) (mr := zm_m71) rfl rfl (zh_v rfl (zs_eqE e24 k22) rfl) rfl rfl ?_
                refine zy_n 1 (mr := zm_m49) (pc' := 1) (ls' := [(0, .ref 2), (1, .int 0)]) (st' := [.ref 2]) rfl rfl ?_
                as_aux_lemma =>
                  refine zy_h (mr := zm_m49) rfl rfl (zh_get (v := .int 0) (zs_eqE e24 k22) rfl) ?_
                  refine zy_n 1 (mr := zm_m49) (pc' := 5) (ls' := [(0, .ref 2), (1, .int 0)]) (st' := [.int (-1), .int 0]) rfl rfl ?_
                  refine zy_b (q := (25, [])) (mr := zm_m49) rfl rfl rfl ?_
                  refine zy_n 1 (mr := zm_m49) (pc' := 26) (ls' := [(0, .ref 2), (1, .int 0)]) (st' := [.int 0]) rfl rfl ?_
                  refine zy_r (mr := zm_m49) rfl rfl rfl ?_
                  refine zy_b (q := (8, [])) (mr := zm_m71) rfl rfl rfl ?_
                  refine zy_n 1 (mr := zm_m71) (pc' := 9) (ls' := [(0, .ref 2)]) (st' := [.ref 2]) rfl rfl ?_
                  refine zy_c (mc := zm_m51) (mr := zm_m71) rfl rfl (zh_v rfl (zs_eqE e24 k22) rfl) rfl rfl ?_
                  refine zy_n 1 (mr := zm_m51) (pc' := 1) (ls' := [(0, .ref 2)]) (st' := [.ref 2]) rfl rfl ?_
                  refine zy_h (mr := zm_m51) rfl rfl (zh_get (v := .int 0) (zs_eqE e24 k22) rfl) ?_
                  refine zy_n 1 (mr := zm_m51) (pc' := 5) (ls' := [(0, .ref 2)]) (st' := [.int (-1), .int 0]) rfl rfl ?_
                  refine zy_b (q := (21, [])) (mr := zm_m51) rfl rfl rfl ?_
                  refine zy_r (mr := zm_m51) rfl rfl rfl ?_
                  refine zy_n 2 (mr := zm_m71) (pc' := 14) (ls' := [(0, .ref 2)]) (st' := [.int 0, .ref 2]) rfl rfl ?_
                  refine zy_hS (x := .inr (7, [.ref 3, .int 0, .ref 4, .ref 5, .ref 6, .int 1, .int 0, .ref 9, .int 1, .int 0])) (mr := zm_m71) rfl rfl (zh_put (zs_eqE e24 k22) rfl rfl) (fun he26 e26 => ?_)
                  refine zy_n 1 (mr := zm_m71) (pc' := 18) (ls' := [(0, .ref 2)]) (st' := [.ref 2]) rfl rfl ?_
                  refine zy_h (mr := zm_m71) rfl rfl (zh_get (v := .int 0) (zs_eqE e26 (zs_eqE e24 k22)) rfl) ?_
                  refine zy_r (mr := zm_m71) rfl rfl rfl ?_
                  refine zy_r (mr := zm_m144) rfl rfl rfl ?_
                  have k27 := (zs_neE e26 (zs_neE e24 (zs_neE e21 (zs_neE e20 (zs_neE e18 (zs_neE e16 (zs_neE e13 (zs_neE e11 (zs_neE e9 (zs_neE e7 (zs_neE e5 (zs_neE e4 (zs_neE e3 (zs_neE e2 (zp_o F 0 rfl) (by decide)) (by decide)) (by decide)) (by decide)) (by decide)) (by decide)) (by decide)) (by decide)) (by decide)) (by decide)) (by decide)) (by decide)) (by decide)) (by decide))
                  refine zy_hS (x := .inr (10, [.ref 1, .int 0, .int 0, .int 0, .int 2, .int 0, .ref 2, .ref 7, .ref 25, .ref 27, .ref 36, .ref 41, .ref 45, .ref 54, .null, .null])) (mr := zm_m143) rfl rfl (zh_put k27 rfl rfl) (fun he28 e28 => ?_)
                  refine zy_n 1 (mr := zm_m143) (pc' := 36) (ls' := [(2, .ref 9), (0, .ref 0), (1, .int a1)]) (st' := [.ref 0]) rfl rfl ?_
                  have k29 := (zs_eqE e28 (zs_neE e26 (zs_neE e24 (zs_neE e21 (zs_neE e20 (zs_neE e18 (zs_neE e16 (zs_neE e13 (zs_neE e11 (zs_neE e9 (zs_neE e7 (zs_neE e5 (zs_neE e4 (zs_neE e3 (zs_neE e2 (zp_o F 0 rfl) (by decide)) (by decide)) (by decide)) (by decide)) (by decide)) (by decide)) (by decide)) (by decide)) (by decide)) (by decide)) (by decide)) (by decide)) (by decide)) (by decide)))
                  refine zy_h (mr := zm_m143) rfl rfl (zh_get (v := .int 0) k29 rfl) ?_
                  refine zy_n 1 (mr := zm_m143) (pc' := 40) (ls' := [(2, .ref 9), (0, .ref 0), (1, .int a1)]) (st' := [.int (-1), .int 0]) rfl rfl ?_
                  refine zy_b (q := (43, [])) (mr := zm_m143) rfl rfl rfl ?_
                  refine zy_n 1 (mr := zm_m143) (pc' := 45) (ls' := [(2, .ref 9), (0, .ref 0), (1, .int a1)]) (st' := [.int (-4)]) rfl rfl ?_
                  refine zy_r (mr := zm_m143) rfl rfl rfl ?_
                  have k30 := (zs_lsetE e28 (zs_lsetE e26 (zs_lsetE e24 (zs_lsetE e21 (zs_lsetE e20 (zs_lsetE e18 (zs_lsetE e16 (zs_lsetE e13 (zs_lsetE e11 (zs_lsetE e9 (zs_lsetE e7 (zs_lsetE e5 (zs_lsetE e4 (zs_lsetE e3 (zs_lsetE e2 (zp_len F).1)))))))))))))))
                  refine ⟨⟨_, rfl, ?_⟩, fun k hk1 hk2 => ((zs_kE e28 (by omega)).trans ((zs_kE e26 (by omega)).trans ((zs_kE e24 (by omega)).trans ((zs_kE e21 (by omega)).trans ((zs_kE e20 (by omega)).trans ((zs_kE e18 (by omega)).trans ((zs_kE e16 (by omega)).trans ((zs_kE e13 (by omega)).trans ((zs_kE e11 (by omega)).trans ((zs_kE e9 (by omega)).trans ((zs_kE e7 (by omega)).trans ((zs_kE e5 (by omega)).trans ((zs_kE e4 (by omega)).trans ((zs_kE e3 (by omega)).trans ((zs_kE e2 (by omega)).trans rfl))))))))))))))), Nat.le_trans (Nat.le_of_eq k30) (by decide), Nat.le_trans (Nat.le_of_eq (zs_szsetE (w := 16) e28 (zs_neE e26 (zs_neE e24 (zs_neE e21 (zs_neE e20 (zs_neE e18 (zs_neE e16 (zs_neE e13 (zs_neE e11 (zs_neE e9 (zs_neE e7 (zs_neE e5 (zs_neE e4 (zs_neE e3 (zs_neE e2 (zp_o F 0 rfl) (by decide)) (by decide)) (by decide)) (by decide)) (by decide)) (by decide)) (by decide)) (by decide)) (by decide)) (by decide)) (by decide)) (by decide)) (by decide)) (by decide)) rfl rfl (zs_szsetE (w := 10) e26 (zs_eqE e24 k22) rfl rfl (zs_szsetE (w := 10) e24 k22 rfl rfl (zs_szsetE (w := 10) e21 (zs_neE e20 (zs_neE e18 (zs_neE e16 k14 (by decide)) (by decide)) (by decide)) rfl rfl (zs_szsetE (w := 301) e20 k19 rfl rfl (zs_szsetE (w := 301) e18 k17 rfl rfl (zs_szsetE (w := 301) e16 k15 rfl rfl (zs_szsetE (w := 10) e13 (zs_eqE e11 (zs_eqE e9 (zs_eqE e7 (zs_neE e5 (zs_neE e4 (zs_neE e3 (zs_eqE e2 (zp_o F 1 rfl)) (by decide)) (by decide)) (by decide))))) rfl rfl (zs_szsetE (w := 10) e11 (zs_eqE e9 (zs_eqE e7 (zs_neE e5 (zs_neE e4 (zs_neE e3 (zs_eqE e2 (zp_o F 1 rfl)) (by decide)) (by decide)) (by decide)))) rfl rfl (zs_szsetE (w := 10) e9 (zs_eqE e7 (zs_neE e5 (zs_neE e4 (zs_neE e3 (zs_eqE e2 (zp_o F 1 rfl)) (by decide)) (by decide)) (by decide))) rfl rfl (zs_szsetE (w := 10) e7 (zs_neE e5 (zs_neE e4 (zs_neE e3 (zs_eqE e2 (zp_o F 1 rfl)) (by decide)) (by decide)) (by decide)) rfl rfl (zs_szsetE (w := 10) e5 (zs_eqE e4 (zs_eqE e3 (zs_neE e2 (zp_o F 3 rfl) (by decide)))) rfl rfl (zs_szsetE (w := 10) e4 (zs_eqE e3 (zs_neE e2 (zp_o F 3 rfl) (by decide))) rfl rfl (zs_szsetE (w := 10) e3 (zs_neE e2 (zp_o F 3 rfl) (by decide)) rfl rfl (zs_szsetE (w := 10) e2 (zp_o F 1 rfl) rfl rfl (zp_len F).2)))))))))))))))) (by decide)⟩
                  simp [zf_32, hc1]
  · skip
    refine zy_b (q := (12, [])) (mr := zm_m143) rfl rfl rfl ?_
    refine zy_n 1 (mr := zm_m143) (pc' := 14) (ls' := [(0, .ref 0), (1, .int a1)]) (st' := [.int (-2)]) rfl rfl ?_
    refine zy_r (mr := zm_m143) rfl rfl rfl ?_
    refine ⟨⟨_, rfl, ?_⟩, fun k hk1 hk2 => rfl, Nat.le_trans (Nat.le_of_eq (zp_len F).1) (by decide), Nat.le_trans (Nat.le_of_eq (zp_len F).2) (by decide)⟩
    simp [zf_32, hc1]
set_option maxHeartbeats 4000000 in
set_option maxRecDepth 20000 in
theorem zx_33 {og : Nat → Option zm_C} {h : zm_H} (F : zp_ck h = true) (a1 : Int32) (a2 : Int32) : zm_Y og 30 153 0 [(0, .ref 0), (1, .int a1), (2, .int a2)] [] h (fun r h1 => (∃ v, r = some (.long v) ∧ zf_33 a1 a2 v) ∧ (∀ k : Nat, 55 ≤ k → k < 117 → h1[k]? = h[k]?) ∧ h1.length ≤ 200 ∧ zm_szs h1 ≤ 90000) := by
  refine zy_n 3 (mr := zm_m153) (pc' := 3) (ls' := [(0, .ref 0), (1, .int a1), (2, .int a2)]) (st' := [.ref 0, .int 0, .int a1]) rfl rfl ?_
  refine zy_h (mr := zm_m153) rfl rfl (zh_get (v := .ref 41) (zp_o F 0 rfl) rfl) ?_
  refine zy_h (mr := zm_m153) rfl rfl (zh_get (v := .int 0) (zp_o F 8 rfl) rfl) ?_
  refine zy_n 2 (mr := zm_m153) (pc' := 11) (ls' := [(0, .ref 0), (1, .int a1), (2, .int a2)]) (st' := [.int (-1), .int 0, .int a1]) rfl rfl ?_
  refine zy_c (mc := zm_m10) (mr := zm_m153) rfl rfl rfl rfl rfl (zm_Y.mono (zk_within a1 0 (-1)) ?_)
  rintro r h1 ⟨rfl, ⟨rfl, hc1⟩ | ⟨rfl, hc1⟩⟩
  · exact absurd hc1 (zl_emp (by decide))
  refine zy_b (q := (17, [])) (mr := zm_m153) rfl rfl rfl ?_
  refine zy_n 1 (mr := zm_m153) (pc' := 18) (ls' := [(0, .ref 0), (1, .int a1), (2, .int a2)]) (st' := [.long 0]) rfl rfl ?_
  refine zy_r (mr := zm_m153) rfl rfl rfl ?_
  refine ⟨⟨_, rfl, ?_⟩, fun k hk1 hk2 => rfl, Nat.le_trans (Nat.le_of_eq (zp_len F).1) (by decide), Nat.le_trans (Nat.le_of_eq (zp_len F).2) (by decide)⟩
  simp [zf_33]
