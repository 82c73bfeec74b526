set_option maxHeartbeats 4000000 in
set_option maxRecDepth 20000 in
theorem zn_43 {og : Nat → Option zm_C} {h h0 : zm_H} (F : zp_ck h = true) (K : ∀ k : Nat, 55 ≤ k → k < 117 → h0[k]? = h[k]?) (KL : h0.length ≤ 200) (KS : zm_szs h0 ≤ 90000) (a1 : Int32) : zm_Y og 30 184 0 [(0, .ref 55), (1, .int a1)] [] h0 (fun r h1 => (∃ v, r = some (.int v) ∧ zf_43 a1 v) ∧ h1.length ≤ 300 ∧ zm_szs h1 ≤ 200000) := by
  refine zy_n 2 (mr := zm_m184) (pc' := 2) (ls' := [(0, .ref 55), (1, .int a1)]) (st' := [.int 0, .ref 55]) rfl rfl ?_
  refine zy_hS (x := .inr (11, [.int 0, .ref 56, .ref 57, .ref 58, .ref 59, .int 0, .int 0, .int 0, .int 0, .int 0, .int 0, .int 20, .int 30, .int 5, .int 2, .ref 60, .ref 61, .ref 62, .ref 63, .ref 64, .ref 65, .ref 66, .ref 67, .ref 68, .ref 69, .ref 70, .ref 71, .ref 72, .ref 73, .ref 74, .ref 75, .ref 76, .ref 77, .ref 78, .ref 79, .ref 80, .ref 81, .ref 82, .ref 83, .ref 84, .ref 85, .ref 86, .ref 87, .ref 88, .ref 89, .ref 90, .ref 91, .ref 92, .ref 93, .ref 94, .int 0, .int (-1), .ref 95, .ref 96, .ref 97, .ref 98, .int 0, .int 0, .int 0, .int 0, .int 0, .int 0, .int 0, .int 0, .int 0, .int 0, .int 0, .int 0, .int 0, .long 0, .int 0, .int 0, .int 0, .long 0, .long 0, .long 0, .long 0, .int 0, .int 0, .int 0, .int 0, .ref 99, .int 0, .int 0, .int 0, .ref 100, .ref 101, .ref 102, .ref 103, .ref 104, .ref 105, .ref 106, .ref 107, .ref 108, .ref 109, .ref 110, .ref 111, .ref 112, .ref 113, .ref 114, .int 0, .int 0, .int 0, .long 0, .long 0, .int 0, .ref 115, .ref 116, .int 0])) (mr := zm_m184) rfl rfl (zh_put ((K 55 (by decide) (by decide)).trans (zp_o F 10 rfl)) rfl rfl) (fun he1 e1 => ?_)
  refine zy_n 1 (mr := zm_m184) (pc' := 6) (ls' := [(0, .ref 55), (1, .int a1)]) (st' := [.int a1]) rfl rfl ?_
  refine zy_c (mc := zm_m182) (mr := zm_m184) rfl rfl rfl rfl rfl ?_
  refine zy_n 4 (mr := zm_m182) (pc' := 6) (ls' := [(0, .int a1)]) (st' := [.long 3, .long 0, .long a1.toInt64]) rfl rfl ?_
  refine zy_c (mc := zm_m183) (mr := zm_m182) rfl rfl rfl rfl rfl (zm_Y.mono (zk_in a1 0 3 rfl (by decide) (by decide)) ?_)
  rintro r h1 ⟨rfl, ⟨rfl, hc2⟩ | ⟨rfl, hc2⟩⟩
  · skip
    refine zy_r (mr := zm_m182) rfl rfl rfl ?_
    refine zy_b (q := (12, [])) (mr := zm_m184) rfl rfl rfl ?_
    refine zy_n 1 (mr := zm_m184) (pc' := 13) (ls' := [(0, .ref 55), (1, .int a1)]) (st' := [.ref 55]) rfl rfl ?_
    refine zy_h (mr := zm_m184) rfl rfl (zh_get (v := .ref 56) (zs_eqE e1 ((K 55 (by decide) (by decide)).trans (zp_o F 10 rfl))) rfl) ?_
    refine zy_n 1 (mr := zm_m184) (pc' := 17) (ls' := [(0, .ref 55), (1, .int a1)]) (st' := [.int a1, .ref 56]) rfl rfl ?_
    refine zy_h (mr := zm_m184) rfl rfl (zh_iald (v := (-1)) (zs_neE e1 ((K 56 (by decide) (by decide)).trans (zp_i F 34 rfl)) (by decide)) (zl_in hc2 (by decide) (by decide)) (zp_iall F 34 rfl (v := (-1)) (by decide) (by decide) (zl_lt hc2 (by decide) (by decide)))) ?_
    refine zy_b (q := (21, [])) (mr := zm_m184) rfl rfl rfl ?_
    refine zy_n 1 (mr := zm_m184) (pc' := 22) (ls' := [(0, .ref 55), (1, .int a1)]) (st' := [.int 0]) rfl rfl ?_
    refine zy_r (mr := zm_m184) rfl rfl rfl ?_
    refine ⟨⟨_, rfl, ?_⟩, Nat.le_trans (zs_lleE e1 KL) (by decide), Nat.le_trans (zs_szleE (w := 109) e1 ((K 55 (by decide) (by decide)).trans (zp_o F 10 rfl)) rfl rfl KS) (by decide)⟩
    first | (simp [zf_43, hc2]; done) | (simp [zf_43, hc2]; unfold zw; decide)
  · skip
    refine zy_r (mr := zm_m182) rfl rfl rfl ?_
    refine zy_b (q := (21, [])) (mr := zm_m184) rfl rfl rfl ?_
    refine zy_n 1 (mr := zm_m184) (pc' := 22) (ls' := [(0, .ref 55), (1, .int a1)]) (st' := [.int 0]) rfl rfl ?_
    refine zy_r (mr := zm_m184) rfl rfl rfl ?_
    refine ⟨⟨_, rfl, ?_⟩, Nat.le_trans (zs_lleE e1 KL) (by decide), Nat.le_trans (zs_szleE (w := 109) e1 ((K 55 (by decide) (by decide)).trans (zp_o F 10 rfl)) rfl rfl KS) (by decide)⟩
    first | (simp [zf_43, hc2]; done) | (simp [zf_43, hc2]; unfold zw; decide)
set_option maxHeartbeats 4000000 in
set_option maxRecDepth 20000 in
theorem zn_44 {og : Nat → Option zm_C} {h h0 : zm_H} (F : zp_ck h = true) (K : ∀ k : Nat, 55 ≤ k → k < 117 → h0[k]? = h[k]?) (KL : h0.length ≤ 200) (KS : zm_szs h0 ≤ 90000) (a1 : Int32) (a2 : Int32) (a3 : Int64) : zm_Y og 30 185 0 [(0, .ref 55), (1, .int a1), (2, .int a2), (3, .long a3)] [] h0 (fun r h1 => (∃ v, r = some (.int v) ∧ zf_44 a1 a2 a3 v) ∧ h1.length ≤ 300 ∧ zm_szs h1 ≤ 200000) := by
  refine zy_n 2 (mr := zm_m185) (pc' := 2) (ls' := [(0, .ref 55), (1, .int a1), (2, .int a2), (3, .long a3)]) (st' := [.int 0, .ref 55]) rfl rfl ?_
  refine zy_hS (x := .inr (11, [.int 0, .ref 56, .ref 57, .ref 58, .ref 59, .int 0, .int 0, .int 0, .int 0, .int 0, .int 0, .int 20, .int 30, .int 5, .int 2, .ref 60, .ref 61, .ref 62, .ref 63, .ref 64, .ref 65, .ref 66, .ref 67, .ref 68, .ref 69, .ref 70, .ref 71, .ref 72, .ref 73, .ref 74, .ref 75, .ref 76, .ref 77, .ref 78, .ref 79, .ref 80, .ref 81, .ref 82, .ref 83, .ref 84, .ref 85, .ref 86, .ref 87, .ref 88, .ref 89, .ref 90, .ref 91, .ref 92, .ref 93, .ref 94, .int 0, .int (-1), .ref 95, .ref 96, .ref 97, .ref 98, .int 0, .int 0, .int 0, .int 0, .int 0, .int 0, .int 0, .int 0, .int 0, .int 0, .int 0, .int 0, .int 0, .long 0, .int 0, .int 0, .int 0, .long 0, .long 0, .long 0, .long 0, .int 0, .int 0, .int 0, .int 0, .ref 99, .int 0, .int 0, .int 0, .ref 100, .ref 101, .ref 102, .ref 103, .ref 104, .ref 105, .ref 106, .ref 107, .ref 108, .ref 109, .ref 110, .ref 111, .ref 112, .ref 113, .ref 114, .int 0, .int 0, .int 0, .long 0, .long 0, .int 0, .ref 115, .ref 116, .int 0])) (mr := zm_m185) rfl rfl (zh_put ((K 55 (by decide) (by decide)).trans (zp_o F 10 rfl)) rfl rfl) (fun he1 e1 => ?_)
  refine zy_n 1 (mr := zm_m185) (pc' := 6) (ls' := [(0, .ref 55), (1, .int a1), (2, .int a2), (3, .long a3)]) (st' := [.int a1]) rfl rfl ?_
  refine zy_c (mc := zm_m182) (mr := zm_m185) rfl rfl rfl rfl rfl ?_
  refine zy_n 4 (mr := zm_m182) (pc' := 6) (ls' := [(0, .int a1)]) (st' := [.long 3, .long 0, .long a1.toInt64]) rfl rfl ?_
  refine zy_c (mc := zm_m183) (mr := zm_m182) rfl rfl rfl rfl rfl (zm_Y.mono (zk_in a1 0 3 rfl (by decide) (by decide)) ?_)
  rintro r h1 ⟨rfl, ⟨rfl, hc2⟩ | ⟨rfl, hc2⟩⟩
  · skip
    refine zy_r (mr := zm_m182) rfl rfl rfl ?_
    refine zy_b (q := (15, [])) (mr := zm_m185) rfl rfl rfl ?_
    refine zy_n 1 (mr := zm_m185) (pc' := 16) (ls' := [(0, .ref 55), (1, .int a1), (2, .int a2), (3, .long a3)]) (st' := [.ref 55]) rfl rfl ?_
    refine zy_h (mr := zm_m185) rfl rfl (zh_get (v := .ref 56) (zs_eqE e1 ((K 55 (by decide) (by decide)).trans (zp_o F 10 rfl))) rfl) ?_
    refine zy_n 1 (mr := zm_m185) (pc' := 20) (ls' := [(0, .ref 55), (1, .int a1), (2, .int a2), (3, .long a3)]) (st' := [.int a1, .ref 56]) rfl rfl ?_
    refine zy_h (mr := zm_m185) rfl rfl (zh_iald (v := (-1)) (zs_neE e1 ((K 56 (by decide) (by decide)).trans (zp_i F 34 rfl)) (by decide)) (zl_in hc2 (by decide) (by decide)) (zp_iall F 34 rfl (v := (-1)) (by decide) (by decide) (zl_lt hc2 (by decide) (by decide)))) ?_
    refine zy_b (q := (24, [])) (mr := zm_m185) rfl rfl rfl ?_
    refine zy_n 1 (mr := zm_m185) (pc' := 26) (ls' := [(0, .ref 55), (1, .int a1), (2, .int a2), (3, .long a3)]) (st' := [.int (-5)]) rfl rfl ?_
    refine zy_r (mr := zm_m185) rfl rfl rfl ?_
    refine ⟨⟨_, rfl, ?_⟩, Nat.le_trans (zs_lleE e1 KL) (by decide), Nat.le_trans (zs_szleE (w := 109) e1 ((K 55 (by decide) (by decide)).trans (zp_o F 10 rfl)) rfl rfl KS) (by decide)⟩
    first | (simp [zf_44, hc2]; done) | (simp [zf_44, hc2]; unfold zw; decide)
  · skip
    refine zy_r (mr := zm_m182) rfl rfl rfl ?_
    refine zy_b (q := (12, [])) (mr := zm_m185) rfl rfl rfl ?_
    refine zy_n 1 (mr := zm_m185) (pc' := 14) (ls' := [(0, .ref 55), (1, .int a1), (2, .int a2), (3, .long a3)]) (st' := [.int (-2)]) rfl rfl ?_
    refine zy_r (mr := zm_m185) rfl rfl rfl ?_
    refine ⟨⟨_, rfl, ?_⟩, Nat.le_trans (zs_lleE e1 KL) (by decide), Nat.le_trans (zs_szleE (w := 109) e1 ((K 55 (by decide) (by decide)).trans (zp_o F 10 rfl)) rfl rfl KS) (by decide)⟩
    first | (simp [zf_44, hc2]; done) | (simp [zf_44, hc2]; unfold zw; decide)
set_option maxHeartbeats 4000000 in
set_option maxRecDepth 20000 in
theorem zn_45 {og : Nat → Option zm_C} {h h0 : zm_H} (F : zp_ck h = true) (K : ∀ k : Nat, 55 ≤ k → k < 117 → h0[k]? = h[k]?) (KL : h0.length ≤ 200) (KS : zm_szs h0 ≤ 90000) (a1 : Int32) (a2 : Int32) (a3 : Int32) (a4 : Int32) (a5 : Int32) : zm_Y og 30 187 0 [(0, .ref 55), (1, .int a1), (2, .int a2), (3, .int a3), (4, .int a4), (5, .int a5)] [] h0 (fun r h1 => (∃ v, r = some (.int v) ∧ zf_45 a1 a2 a3 a4 a5 v) ∧ h1.length ≤ 300 ∧ zm_szs h1 ≤ 200000) := by
  refine zy_n 2 (mr := zm_m187) (pc' := 2) (ls' := [(0, .ref 55), (1, .int a1), (2, .int a2), (3, .int a3), (4, .int a4), (5, .int a5)]) (st' := [.int 0, .ref 55]) rfl rfl ?_
  refine zy_hS (x := .inr (11, [.int 0, .ref 56, .ref 57, .ref 58, .ref 59, .int 0, .int 0, .int 0, .int 0, .int 0, .int 0, .int 20, .int 30, .int 5, .int 2, .ref 60, .ref 61, .ref 62, .ref 63, .ref 64, .ref 65, .ref 66, .ref 67, .ref 68, .ref 69, .ref 70, .ref 71, .ref 72, .ref 73, .ref 74, .ref 75, .ref 76, .ref 77, .ref 78, .ref 79, .ref 80, .ref 81, .ref 82, .ref 83, .ref 84, .ref 85, .ref 86, .ref 87, .ref 88, .ref 89, .ref 90, .ref 91, .ref 92, .ref 93, .ref 94, .int 0, .int (-1), .ref 95, .ref 96, .ref 97, .ref 98, .int 0, .int 0, .int 0, .int 0, .int 0, .int 0, .int 0, .int 0, .int 0, .int 0, .int 0, .int 0, .int 0, .long 0, .int 0, .int 0, .int 0, .long 0, .long 0, .long 0, .long 0, .int 0, .int 0, .int 0, .int 0, .ref 99, .int 0, .int 0, .int 0, .ref 100, .ref 101, .ref 102, .ref 103, .ref 104, .ref 105, .ref 106, .ref 107, .ref 108, .ref 109, .ref 110, .ref 111, .ref 112, .ref 113, .ref 114, .int 0, .int 0, .int 0, .long 0, .long 0, .int 0, .ref 115, .ref 116, .int 0])) (mr := zm_m187) rfl rfl (zh_put ((K 55 (by decide) (by decide)).trans (zp_o F 10 rfl)) rfl rfl) (fun he1 e1 => ?_)
  refine zy_n 1 (mr := zm_m187) (pc' := 6) (ls' := [(0, .ref 55), (1, .int a1), (2, .int a2), (3, .int a3), (4, .int a4), (5, .int a5)]) (st' := [.int a1]) rfl rfl ?_
  refine zy_c (mc := zm_m182) (mr := zm_m187) rfl rfl rfl rfl rfl ?_
  refine zy_n 4 (mr := zm_m182) (pc' := 6) (ls' := [(0, .int a1)]) (st' := [.long 3, .long 0, .long a1.toInt64]) rfl rfl ?_
  refine zy_c (mc := zm_m183) (mr := zm_m182) rfl rfl rfl rfl rfl (zm_Y.mono (zk_in a1 0 3 rfl (by decide) (by decide)) ?_)
  rintro r h1 ⟨rfl, ⟨rfl, hc2⟩ | ⟨rfl, hc2⟩⟩
  · skip
    refine zy_r (mr := zm_m182) rfl rfl rfl ?_
    refine zy_b (q := (12, [])) (mr := zm_m187) rfl rfl rfl ?_
    refine zy_n 1 (mr := zm_m187) (pc' := 13) (ls' := [(0, .ref 55), (1, .int a1), (2, .int a2), (3, .int a3), (4, .int a4), (5, .int a5)]) (st' := [.int a3]) rfl rfl ?_
    refine zy_c (mc := zm_m182) (mr := zm_m187) rfl rfl rfl rfl rfl ?_
    refine zy_n 4 (mr := zm_m182) (pc' := 6) (ls' := [(0, .int a3)]) (st' := [.long 3, .long 0, .long a3.toInt64]) rfl rfl ?_
    refine zy_c (mc := zm_m183) (mr := zm_m182) rfl rfl rfl rfl rfl (zm_Y.mono (zk_in a3 0 3 rfl (by decide) (by decide)) ?_)
    rintro r h1 ⟨rfl, ⟨rfl, hc3⟩ | ⟨rfl, hc3⟩⟩
    · skip
      refine zy_r (mr := zm_m182) rfl rfl rfl ?_
      refine zy_b (q := (22, [])) (mr := zm_m187) rfl rfl rfl ?_
      refine zy_n 1 (mr := zm_m187) (pc' := 23) (ls' := [(0, .ref 55), (1, .int a1), (2, .int a2), (3, .int a3), (4, .int a4), (5, .int a5)]) (st' := [.ref 55]) rfl rfl ?_
      refine zy_h (mr := zm_m187) rfl rfl (zh_get (v := .ref 56) (zs_eqE e1 ((K 55 (by decide) (by decide)).trans (zp_o F 10 rfl))) rfl) ?_
      refine zy_n 1 (mr := zm_m187) (pc' := 27) (ls' := [(0, .ref 55), (1, .int a1), (2, .int a2), (3, .int a3), (4, .int a4), (5, .int a5)]) (st' := [.int a1, .ref 56]) rfl rfl ?_
      refine zy_h (mr := zm_m187) rfl rfl (zh_iald (v := (-1)) (zs_neE e1 ((K 56 (by decide) (by decide)).trans (zp_i F 34 rfl)) (by decide)) (zl_in hc2 (by decide) (by decide)) (zp_iall F 34 rfl (v := (-1)) (by decide) (by decide) (zl_lt hc2 (by decide) (by decide)))) ?_
      refine zy_b (q := (40, [])) (mr := zm_m187) rfl rfl rfl ?_
      refine zy_n 1 (mr := zm_m187) (pc' := 42) (ls' := [(0, .ref 55), (1, .int a1), (2, .int a2), (3, .int a3), (4, .int a4), (5, .int a5)]) (st' := [.int (-5)]) rfl rfl ?_
      refine zy_r (mr := zm_m187) rfl rfl rfl ?_
      refine ⟨⟨_, rfl, ?_⟩, Nat.le_trans (zs_lleE e1 KL) (by decide), Nat.le_trans (zs_szleE (w := 109) e1 ((K 55 (by decide) (by decide)).trans (zp_o F 10 rfl)) rfl rfl KS) (by decide)⟩
      first | (simp [zf_45, hc2, hc3]; done) | (simp [zf_45, hc2, hc3]; unfold zw; decide)
    · skip
      refine zy_r (mr := zm_m182) rfl rfl rfl ?_
      refine zy_b (q := (19, [])) (mr := zm_m187) rfl rfl rfl ?_
      refine zy_n 1 (mr := zm_m187) (pc' := 21) (ls' := [(0, .ref 55), (1, .int a1), (2, .int a2), (3, .int a3), (4, .int a4), (5, .int a5)]) (st' := [.int (-2)]) rfl rfl ?_
      refine zy_r (mr := zm_m187) rfl rfl rfl ?_
      refine ⟨⟨_, rfl, ?_⟩, Nat.le_trans (zs_lleE e1 KL) (by decide), Nat.le_trans (zs_szleE (w := 109) e1 ((K 55 (by decide) (by decide)).trans (zp_o F 10 rfl)) rfl rfl KS) (by decide)⟩
      first | (simp [zf_45, hc2, hc3]; done) | (simp [zf_45, hc2, hc3]; unfold zw; decide)
  · skip
    refine zy_r (mr := zm_m182) rfl rfl rfl ?_
    refine zy_b (q := (19, [])) (mr := zm_m187) rfl rfl rfl ?_
    refine zy_n 1 (mr := zm_m187) (pc' := 21) (ls' := [(0, .ref 55), (1, .int a1), (2, .int a2), (3, .int a3), (4, .int a4), (5, .int a5)]) (st' := [.int (-2)]) rfl rfl ?_
    refine zy_r (mr := zm_m187) rfl rfl rfl ?_
    refine ⟨⟨_, rfl, ?_⟩, Nat.le_trans (zs_lleE e1 KL) (by decide), Nat.le_trans (zs_szleE (w := 109) e1 ((K 55 (by decide) (by decide)).trans (zp_o F 10 rfl)) rfl rfl KS) (by decide)⟩
    first | (simp [zf_45, hc2]; done) | (simp [zf_45, hc2]; unfold zw; decide)
