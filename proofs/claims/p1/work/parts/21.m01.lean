set_option maxHeartbeats 4000000 in
set_option maxRecDepth 20000 in
theorem zn_14 {og : Nat → Option zm_C} {h h0 : zm_H} (F : zp_ck h = true) (K : ∀ k : Nat, 55 ≤ k → k < 117 → h0[k]? = h[k]?) (KL : h0.length ≤ 200) (KS : zm_szs h0 ≤ 90000) (a1 : Int32) (a2 : Int32) (a3 : Int32) : zm_Y og 30 238 0 [(0, .ref 55), (1, .int a1), (2, .int a2), (3, .int a3)] [] h0 (fun r h1 => (∃ v, r = some (.long v) ∧ zf_14 a1 a2 a3 v) ∧ h1.length ≤ 300 ∧ zm_szs h1 ≤ 200000) := by
  refine zy_n 2 (mr := zm_m238) (pc' := 2) (ls' := [(0, .ref 55), (1, .int a1), (2, .int a2), (3, .int a3)]) (st' := [.int 0, .ref 55]) rfl rfl ?_
  refine zy_hS (x := .inr (11, [.int 0, .ref 56, .ref 57, .ref 58, .ref 59, .int 0, .int 0, .int 0, .int 0, .int 0, .int 0, .int 20, .int 30, .int 5, .int 2, .ref 60, .ref 61, .ref 62, .ref 63, .ref 64, .ref 65, .ref 66, .ref 67, .ref 68, .ref 69, .ref 70, .ref 71, .ref 72, .ref 73, .ref 74, .ref 75, .ref 76, .ref 77, .ref 78, .ref 79, .ref 80, .ref 81, .ref 82, .ref 83, .ref 84, .ref 85, .ref 86, .ref 87, .ref 88, .ref 89, .ref 90, .ref 91, .ref 92, .ref 93, .ref 94, .int 0, .int (-1), .ref 95, .ref 96, .ref 97, .ref 98, .int 0, .int 0, .int 0, .int 0, .int 0, .int 0, .int 0, .int 0, .int 0, .int 0, .int 0, .int 0, .int 0, .long 0, .int 0, .int 0, .int 0, .long 0, .long 0, .long 0, .long 0, .int 0, .int 0, .int 0, .int 0, .ref 99, .int 0, .int 0, .int 0, .ref 100, .ref 101, .ref 102, .ref 103, .ref 104, .ref 105, .ref 106, .ref 107, .ref 108, .ref 109, .ref 110, .ref 111, .ref 112, .ref 113, .ref 114, .int 0, .int 0, .int 0, .long 0, .long 0, .int 0, .ref 115, .ref 116, .int 0])) (mr := zm_m238) rfl rfl (zh_put ((K 55 (by decide) (by decide)).trans (zp_o F 10 rfl)) rfl rfl) (fun he1 e1 => ?_)
  refine zy_n 2 (mr := zm_m238) (pc' := 7) (ls' := [(0, .ref 55), (1, .int a1), (2, .int a2), (3, .int a3)]) (st' := [.int a1, .ref 55]) rfl rfl ?_
  refine zy_c (mc := zm_m193) (mr := zm_m238) rfl rfl (zh_v rfl (zs_eqE e1 ((K 55 (by decide) (by decide)).trans (zp_o F 10 rfl))) rfl) rfl rfl ?_
  refine zy_n 4 (mr := zm_m193) (pc' := 4) (ls' := [(0, .ref 55), (1, .int a1)]) (st' := [.ref 55, .long 0, .long a1.toInt64]) rfl rfl ?_
  refine zy_h (mr := zm_m193) rfl rfl (zh_get (v := .int 0) (zs_eqE e1 ((K 55 (by decide) (by decide)).trans (zp_o F 10 rfl))) rfl) ?_
  refine zy_n 3 (mr := zm_m193) (pc' := 10) (ls' := [(0, .ref 55), (1, .int a1)]) (st' := [.long (-1), .long 0, .long a1.toInt64]) rfl rfl ?_
  refine zy_c (mc := zm_m183) (mr := zm_m193) rfl rfl rfl rfl rfl (zm_Y.mono (zk_in a1 0 (-1) rfl (by decide) (by decide)) ?_)
  rintro r h1 ⟨rfl, ⟨rfl, hc2⟩ | ⟨rfl, hc2⟩⟩
  · exact absurd hc2 (zl_emp (by decide))
  refine zy_r (mr := zm_m193) rfl rfl rfl ?_
  refine zy_b (q := (48, [])) (mr := zm_m238) rfl rfl rfl ?_
  refine zy_n 1 (mr := zm_m238) (pc' := 51) (ls' := [(0, .ref 55), (1, .int a1), (2, .int a2), (3, .int a3)]) (st' := [.long (-2)]) rfl rfl ?_
  refine zy_r (mr := zm_m238) rfl rfl rfl ?_
  refine ⟨⟨_, rfl, ?_⟩, Nat.le_trans (zs_lleE e1 KL) (by decide), Nat.le_trans (zs_szleE (w := 109) e1 ((K 55 (by decide) (by decide)).trans (zp_o F 10 rfl)) rfl rfl KS) (by decide)⟩
  first | (simp [zf_14]; done) | (simp [zf_14]; unfold zw; decide)
set_option maxHeartbeats 4000000 in
set_option maxRecDepth 20000 in
theorem zn_15 {og : Nat → Option zm_C} {h h0 : zm_H} (F : zp_ck h = true) (K : ∀ k : Nat, 55 ≤ k → k < 117 → h0[k]? = h[k]?) (KL : h0.length ≤ 200) (KS : zm_szs h0 ≤ 90000) (a1 : Int32) : zm_Y og 30 240 0 [(0, .ref 55), (1, .int a1)] [] h0 (fun r h1 => (∃ v, r = some (.long v) ∧ zf_15 a1 v) ∧ h1.length ≤ 300 ∧ zm_szs h1 ≤ 200000) := by
  refine zy_n 2 (mr := zm_m240) (pc' := 2) (ls' := [(0, .ref 55), (1, .int a1)]) (st' := [.int 0, .ref 55]) rfl rfl ?_
  refine zy_hS (x := .inr (11, [.int 0, .ref 56, .ref 57, .ref 58, .ref 59, .int 0, .int 0, .int 0, .int 0, .int 0, .int 0, .int 20, .int 30, .int 5, .int 2, .ref 60, .ref 61, .ref 62, .ref 63, .ref 64, .ref 65, .ref 66, .ref 67, .ref 68, .ref 69, .ref 70, .ref 71, .ref 72, .ref 73, .ref 74, .ref 75, .ref 76, .ref 77, .ref 78, .ref 79, .ref 80, .ref 81, .ref 82, .ref 83, .ref 84, .ref 85, .ref 86, .ref 87, .ref 88, .ref 89, .ref 90, .ref 91, .ref 92, .ref 93, .ref 94, .int 0, .int (-1), .ref 95, .ref 96, .ref 97, .ref 98, .int 0, .int 0, .int 0, .int 0, .int 0, .int 0, .int 0, .int 0, .int 0, .int 0, .int 0, .int 0, .int 0, .long 0, .int 0, .int 0, .int 0, .long 0, .long 0, .long 0, .long 0, .int 0, .int 0, .int 0, .int 0, .ref 99, .int 0, .int 0, .int 0, .ref 100, .ref 101, .ref 102, .ref 103, .ref 104, .ref 105, .ref 106, .ref 107, .ref 108, .ref 109, .ref 110, .ref 111, .ref 112, .ref 113, .ref 114, .int 0, .int 0, .int 0, .long 0, .long 0, .int 0, .ref 115, .ref 116, .int 0])) (mr := zm_m240) rfl rfl (zh_put ((K 55 (by decide) (by decide)).trans (zp_o F 10 rfl)) rfl rfl) (fun he1 e1 => ?_)
  refine zy_n 2 (mr := zm_m240) (pc' := 7) (ls' := [(0, .ref 55), (1, .int a1)]) (st' := [.int a1, .ref 55]) rfl rfl ?_
  refine zy_c (mc := zm_m193) (mr := zm_m240) rfl rfl (zh_v rfl (zs_eqE e1 ((K 55 (by decide) (by decide)).trans (zp_o F 10 rfl))) rfl) rfl rfl ?_
  refine zy_n 4 (mr := zm_m193) (pc' := 4) (ls' := [(0, .ref 55), (1, .int a1)]) (st' := [.ref 55, .long 0, .long a1.toInt64]) rfl rfl ?_
  refine zy_h (mr := zm_m193) rfl rfl (zh_get (v := .int 0) (zs_eqE e1 ((K 55 (by decide) (by decide)).trans (zp_o F 10 rfl))) rfl) ?_
  refine zy_n 3 (mr := zm_m193) (pc' := 10) (ls' := [(0, .ref 55), (1, .int a1)]) (st' := [.long (-1), .long 0, .long a1.toInt64]) rfl rfl ?_
  refine zy_c (mc := zm_m183) (mr := zm_m193) rfl rfl rfl rfl rfl (zm_Y.mono (zk_in a1 0 (-1) rfl (by decide) (by decide)) ?_)
  rintro r h1 ⟨rfl, ⟨rfl, hc2⟩ | ⟨rfl, hc2⟩⟩
  · exact absurd hc2 (zl_emp (by decide))
  refine zy_r (mr := zm_m193) rfl rfl rfl ?_
  refine zy_b (q := (13, [])) (mr := zm_m240) rfl rfl rfl ?_
  refine zy_n 1 (mr := zm_m240) (pc' := 16) (ls' := [(0, .ref 55), (1, .int a1)]) (st' := [.long (-2)]) rfl rfl ?_
  refine zy_r (mr := zm_m240) rfl rfl rfl ?_
  refine ⟨⟨_, rfl, ?_⟩, Nat.le_trans (zs_lleE e1 KL) (by decide), Nat.le_trans (zs_szleE (w := 109) e1 ((K 55 (by decide) (by decide)).trans (zp_o F 10 rfl)) rfl rfl KS) (by decide)⟩
  first | (simp [zf_15]; done) | (simp [zf_15]; unfold zw; decide)
set_option maxHeartbeats 4000000 in
set_option maxRecDepth 20000 in
theorem zn_16 {og : Nat → Option zm_C} {h h0 : zm_H} (F : zp_ck h = true) (K : ∀ k : Nat, 55 ≤ k → k < 117 → h0[k]? = h[k]?) (KL : h0.length ≤ 200) (KS : zm_szs h0 ≤ 90000) (a1 : Int32) (a2 : Int32) : zm_Y og 30 243 0 [(0, .ref 55), (1, .int a1), (2, .int a2)] [] h0 (fun r h1 => (∃ v, r = some (.long v) ∧ zf_16 a1 a2 v) ∧ h1.length ≤ 300 ∧ zm_szs h1 ≤ 200000) := by
  refine zy_n 2 (mr := zm_m243) (pc' := 2) (ls' := [(0, .ref 55), (1, .int a1), (2, .int a2)]) (st' := [.int 0, .ref 55]) rfl rfl ?_
  refine zy_hS (x := .inr (11, [.int 0, .ref 56, .ref 57, .ref 58, .ref 59, .int 0, .int 0, .int 0, .int 0, .int 0, .int 0, .int 20, .int 30, .int 5, .int 2, .ref 60, .ref 61, .ref 62, .ref 63, .ref 64, .ref 65, .ref 66, .ref 67, .ref 68, .ref 69, .ref 70, .ref 71, .ref 72, .ref 73, .ref 74, .ref 75, .ref 76, .ref 77, .ref 78, .ref 79, .ref 80, .ref 81, .ref 82, .ref 83, .ref 84, .ref 85, .ref 86, .ref 87, .ref 88, .ref 89, .ref 90, .ref 91, .ref 92, .ref 93, .ref 94, .int 0, .int (-1), .ref 95, .ref 96, .ref 97, .ref 98, .int 0, .int 0, .int 0, .int 0, .int 0, .int 0, .int 0, .int 0, .int 0, .int 0, .int 0, .int 0, .int 0, .long 0, .int 0, .int 0, .int 0, .long 0, .long 0, .long 0, .long 0, .int 0, .int 0, .int 0, .int 0, .ref 99, .int 0, .int 0, .int 0, .ref 100, .ref 101, .ref 102, .ref 103, .ref 104, .ref 105, .ref 106, .ref 107, .ref 108, .ref 109, .ref 110, .ref 111, .ref 112, .ref 113, .ref 114, .int 0, .int 0, .int 0, .long 0, .long 0, .int 0, .ref 115, .ref 116, .int 0])) (mr := zm_m243) rfl rfl (zh_put ((K 55 (by decide) (by decide)).trans (zp_o F 10 rfl)) rfl rfl) (fun he1 e1 => ?_)
  refine zy_n 2 (mr := zm_m243) (pc' := 7) (ls' := [(0, .ref 55), (1, .int a1), (2, .int a2)]) (st' := [.int a1, .ref 55]) rfl rfl ?_
  refine zy_c (mc := zm_m192) (mr := zm_m243) rfl rfl (zh_v rfl (zs_eqE e1 ((K 55 (by decide) (by decide)).trans (zp_o F 10 rfl))) rfl) rfl rfl ?_
  refine zy_n 2 (mr := zm_m192) (pc' := 2) (ls' := [(0, .ref 55), (1, .int a1)]) (st' := [.int a1, .ref 55]) rfl rfl ?_
  refine zy_c (mc := zm_m193) (mr := zm_m192) rfl rfl (zh_v rfl (zs_eqE e1 ((K 55 (by decide) (by decide)).trans (zp_o F 10 rfl))) rfl) rfl rfl ?_
  refine zy_n 4 (mr := zm_m193) (pc' := 4) (ls' := [(0, .ref 55), (1, .int a1)]) (st' := [.ref 55, .long 0, .long a1.toInt64]) rfl rfl ?_
  refine zy_h (mr := zm_m193) rfl rfl (zh_get (v := .int 0) (zs_eqE e1 ((K 55 (by decide) (by decide)).trans (zp_o F 10 rfl))) rfl) ?_
  refine zy_n 3 (mr := zm_m193) (pc' := 10) (ls' := [(0, .ref 55), (1, .int a1)]) (st' := [.long (-1), .long 0, .long a1.toInt64]) rfl rfl ?_
  refine zy_c (mc := zm_m183) (mr := zm_m193) rfl rfl rfl rfl rfl (zm_Y.mono (zk_in a1 0 (-1) rfl (by decide) (by decide)) ?_)
  rintro r h1 ⟨rfl, ⟨rfl, hc2⟩ | ⟨rfl, hc2⟩⟩
  · exact absurd hc2 (zl_emp (by decide))
  refine zy_r (mr := zm_m193) rfl rfl rfl ?_
  refine zy_b (q := (21, [])) (mr := zm_m192) rfl rfl rfl ?_
  refine zy_n 1 (mr := zm_m192) (pc' := 22) (ls' := [(0, .ref 55), (1, .int a1)]) (st' := [.int 0]) rfl rfl ?_
  refine zy_r (mr := zm_m192) rfl rfl rfl ?_
  refine zy_b (q := (25, [])) (mr := zm_m243) rfl rfl rfl ?_
  refine zy_n 1 (mr := zm_m243) (pc' := 28) (ls' := [(0, .ref 55), (1, .int a1), (2, .int a2)]) (st' := [.long (-1000000)]) rfl rfl ?_
  refine zy_r (mr := zm_m243) rfl rfl rfl ?_
  refine ⟨⟨_, rfl, ?_⟩, Nat.le_trans (zs_lleE e1 KL) (by decide), Nat.le_trans (zs_szleE (w := 109) e1 ((K 55 (by decide) (by decide)).trans (zp_o F 10 rfl)) rfl rfl KS) (by decide)⟩
  first | (simp [zf_16]; done) | (simp [zf_16]; unfold zw; decide)
set_option maxHeartbeats 4000000 in
set_option maxRecDepth 20000 in
theorem zn_17 {og : Nat → Option zm_C} {h h0 : zm_H} (F : zp_ck h = true) (K : ∀ k : Nat, 55 ≤ k → k < 117 → h0[k]? = h[k]?) (KL : h0.length ≤ 200) (KS : zm_szs h0 ≤ 90000) (a1 : Int32) : zm_Y og 30 251 0 [(0, .ref 55), (1, .int a1)] [] h0 (fun r h1 => (∃ v, r = some (.int v) ∧ zf_17 a1 v) ∧ h1.length ≤ 300 ∧ zm_szs h1 ≤ 200000) := by
  refine zy_n 2 (mr := zm_m251) (pc' := 2) (ls' := [(0, .ref 55), (1, .int a1)]) (st' := [.int 0, .ref 55]) rfl rfl ?_
  refine zy_hS (x := .inr (11, [.int 0, .ref 56, .ref 57, .ref 58, .ref 59, .int 0, .int 0, .int 0, .int 0, .int 0, .int 0, .int 20, .int 30, .int 5, .int 2, .ref 60, .ref 61, .ref 62, .ref 63, .ref 64, .ref 65, .ref 66, .ref 67, .ref 68, .ref 69, .ref 70, .ref 71, .ref 72, .ref 73, .ref 74, .ref 75, .ref 76, .ref 77, .ref 78, .ref 79, .ref 80, .ref 81, .ref 82, .ref 83, .ref 84, .ref 85, .ref 86, .ref 87, .ref 88, .ref 89, .ref 90, .ref 91, .ref 92, .ref 93, .ref 94, .int 0, .int (-1), .ref 95, .ref 96, .ref 97, .ref 98, .int 0, .int 0, .int 0, .int 0, .int 0, .int 0, .int 0, .int 0, .int 0, .int 0, .int 0, .int 0, .int 0, .long 0, .int 0, .int 0, .int 0, .long 0, .long 0, .long 0, .long 0, .int 0, .int 0, .int 0, .int 0, .ref 99, .int 0, .int 0, .int 0, .ref 100, .ref 101, .ref 102, .ref 103, .ref 104, .ref 105, .ref 106, .ref 107, .ref 108, .ref 109, .ref 110, .ref 111, .ref 112, .ref 113, .ref 114, .int 0, .int 0, .int 0, .long 0, .long 0, .int 0, .ref 115, .ref 116, .int 0])) (mr := zm_m251) rfl rfl (zh_put ((K 55 (by decide) (by decide)).trans (zp_o F 10 rfl)) rfl rfl) (fun he1 e1 => ?_)
  refine zy_n 4 (mr := zm_m251) (pc' := 9) (ls' := [(0, .ref 55), (1, .int a1)]) (st' := [.ref 55, .long 0, .long a1.toInt64]) rfl rfl ?_
  refine zy_h (mr := zm_m251) rfl rfl (zh_get (v := .int 0) (zs_eqE e1 ((K 55 (by decide) (by decide)).trans (zp_o F 10 rfl))) rfl) ?_
  refine zy_n 3 (mr := zm_m251) (pc' := 15) (ls' := [(0, .ref 55), (1, .int a1)]) (st' := [.long (-1), .long 0, .long a1.toInt64]) rfl rfl ?_
  refine zy_c (mc := zm_m183) (mr := zm_m251) rfl rfl rfl rfl rfl (zm_Y.mono (zk_in a1 0 (-1) rfl (by decide) (by decide)) ?_)
  rintro r h1 ⟨rfl, ⟨rfl, hc2⟩ | ⟨rfl, hc2⟩⟩
  · exact absurd hc2 (zl_emp (by decide))
  refine zy_b (q := (30, [])) (mr := zm_m251) rfl rfl rfl ?_
  refine zy_n 1 (mr := zm_m251) (pc' := 31) (ls' := [(0, .ref 55), (1, .int a1)]) (st' := [.int (-1)]) rfl rfl ?_
  refine zy_r (mr := zm_m251) rfl rfl rfl ?_
  refine ⟨⟨_, rfl, ?_⟩, Nat.le_trans (zs_lleE e1 KL) (by decide), Nat.le_trans (zs_szleE (w := 109) e1 ((K 55 (by decide) (by decide)).trans (zp_o F 10 rfl)) rfl rfl KS) (by decide)⟩
  first | (simp [zf_17]; done) | (simp [zf_17]; unfold zw; decide)
set_option maxHeartbeats 4000000 in
set_option maxRecDepth 20000 in
theorem zn_18 {og : Nat → Option zm_C} {h h0 : zm_H} (F : zp_ck h = true) (K : ∀ k : Nat, 55 ≤ k → k < 117 → h0[k]? = h[k]?) (KL : h0.length ≤ 200) (KS : zm_szs h0 ≤ 90000)  : zm_Y og 30 252 0 [(0, .ref 55)] [] h0 (fun r h1 => (∃ v, r = some (.int v) ∧ zf_18 v) ∧ h1.length ≤ 300 ∧ zm_szs h1 ≤ 200000) := by
  refine zy_n 2 (mr := zm_m252) (pc' := 2) (ls' := [(0, .ref 55)]) (st' := [.int 0, .ref 55]) rfl rfl ?_
  refine zy_hS (x := .inr (11, [.int 0, .ref 56, .ref 57, .ref 58, .ref 59, .int 0, .int 0, .int 0, .int 0, .int 0, .int 0, .int 20, .int 30, .int 5, .int 2, .ref 60, .ref 61, .ref 62, .ref 63, .ref 64, .ref 65, .ref 66, .ref 67, .ref 68, .ref 69, .ref 70, .ref 71, .ref 72, .ref 73, .ref 74, .ref 75, .ref 76, .ref 77, .ref 78, .ref 79, .ref 80, .ref 81, .ref 82, .ref 83, .ref 84, .ref 85, .ref 86, .ref 87, .ref 88, .ref 89, .ref 90, .ref 91, .ref 92, .ref 93, .ref 94, .int 0, .int (-1), .ref 95, .ref 96, .ref 97, .ref 98, .int 0, .int 0, .int 0, .int 0, .int 0, .int 0, .int 0, .int 0, .int 0, .int 0, .int 0, .int 0, .int 0, .long 0, .int 0, .int 0, .int 0, .long 0, .long 0, .long 0, .long 0, .int 0, .int 0, .int 0, .int 0, .ref 99, .int 0, .int 0, .int 0, .ref 100, .ref 101, .ref 102, .ref 103, .ref 104, .ref 105, .ref 106, .ref 107, .ref 108, .ref 109, .ref 110, .ref 111, .ref 112, .ref 113, .ref 114, .int 0, .int 0, .int 0, .long 0, .long 0, .int 0, .ref 115, .ref 116, .int 0])) (mr := zm_m252) rfl rfl (zh_put ((K 55 (by decide) (by decide)).trans (zp_o F 10 rfl)) rfl rfl) (fun he1 e1 => ?_)
  refine zy_n 1 (mr := zm_m252) (pc' := 6) (ls' := [(0, .ref 55)]) (st' := [.ref 55]) rfl rfl ?_
  refine zy_h (mr := zm_m252) rfl rfl (zh_get (v := .int 0) (zs_eqE e1 ((K 55 (by decide) (by decide)).trans (zp_o F 10 rfl))) rfl) ?_
  refine zy_b (q := (12, [])) (mr := zm_m252) rfl rfl rfl ?_
  refine zy_n 1 (mr := zm_m252) (pc' := 13) (ls' := [(0, .ref 55)]) (st' := [.int (-1)]) rfl rfl ?_
  refine zy_r (mr := zm_m252) rfl rfl rfl ?_
  refine ⟨⟨_, rfl, ?_⟩, Nat.le_trans (zs_lleE e1 KL) (by decide), Nat.le_trans (zs_szleE (w := 109) e1 ((K 55 (by decide) (by decide)).trans (zp_o F 10 rfl)) rfl rfl KS) (by decide)⟩
  first | (simp [zf_18]; done) | (simp [zf_18]; unfold zw; decide)
set_option maxHeartbeats 4000000 in
set_option maxRecDepth 20000 in
theorem zn_19 {og : Nat → Option zm_C} {h h0 : zm_H} (F : zp_ck h = true) (K : ∀ k : Nat, 55 ≤ k → k < 117 → h0[k]? = h[k]?) (KL : h0.length ≤ 200) (KS : zm_szs h0 ≤ 90000) (a1 : Int32) (a2 : Int32) (a3 : Int32) (a4 : Int32) (a5 : Int32) (a6 : Int32) : zm_Y og 30 253 0 [(0, .ref 55), (1, .int a1), (2, .int a2), (3, .int a3), (4, .int a4), (5, .int a5), (6, .int a6)] [] h0 (fun r h1 => (∃ v, r = some (.int v) ∧ zf_19 a1 a2 a3 a4 a5 a6 v) ∧ h1.length ≤ 300 ∧ zm_szs h1 ≤ 200000) := by
  refine zy_n 2 (mr := zm_m253) (pc' := 2) (ls' := [(0, .ref 55), (1, .int a1), (2, .int a2), (3, .int a3), (4, .int a4), (5, .int a5), (6, .int a6)]) (st' := [.int 0, .ref 55]) rfl rfl ?_
  refine zy_hS (x := .inr (11, [.int 0, .ref 56, .ref 57, .ref 58, .ref 59, .int 0, .int 0, .int 0, .int 0, .int 0, .int 0, .int 20, .int 30, .int 5, .int 2, .ref 60, .ref 61, .ref 62, .ref 63, .ref 64, .ref 65, .ref 66, .ref 67, .ref 68, .ref 69, .ref 70, .ref 71, .ref 72, .ref 73, .ref 74, .ref 75, .ref 76, .ref 77, .ref 78, .ref 79, .ref 80, .ref 81, .ref 82, .ref 83, .ref 84, .ref 85, .ref 86, .ref 87, .ref 88, .ref 89, .ref 90, .ref 91, .ref 92, .ref 93, .ref 94, .int 0, .int (-1), .ref 95, .ref 96, .ref 97, .ref 98, .int 0, .int 0, .int 0, .int 0, .int 0, .int 0, .int 0, .int 0, .int 0, .int 0, .int 0, .int 0, .int 0, .long 0, .int 0, .int 0, .int 0, .long 0, .long 0, .long 0, .long 0, .int 0, .int 0, .int 0, .int 0, .ref 99, .int 0, .int 0, .int 0, .ref 100, .ref 101, .ref 102, .ref 103, .ref 104, .ref 105, .ref 106, .ref 107, .ref 108, .ref 109, .ref 110, .ref 111, .ref 112, .ref 113, .ref 114, .int 0, .int 0, .int 0, .long 0, .long 0, .int 0, .ref 115, .ref 116, .int 0])) (mr := zm_m253) rfl rfl (zh_put ((K 55 (by decide) (by decide)).trans (zp_o F 10 rfl)) rfl rfl) (fun he1 e1 => ?_)
  refine zy_n 4 (mr := zm_m253) (pc' := 11) (ls' := [(0, .ref 55), (1, .int a1), (2, .int a2), (3, .int a3), (4, .int a4), (5, .int a5), (6, .int a6)]) (st' := [.long 3, .long 0, .long a1.toInt64]) rfl rfl ?_
  refine zy_c (mc := zm_m183) (mr := zm_m253) rfl rfl rfl rfl rfl (zm_Y.mono (zk_in a1 0 3 rfl (by decide) (by decide)) ?_)
  rintro r h1 ⟨rfl, ⟨rfl, hc2⟩ | ⟨rfl, hc2⟩⟩
  · skip
    refine zy_b (q := (17, [])) (mr := zm_m253) rfl rfl rfl ?_
    refine zy_n 4 (mr := zm_m253) (pc' := 23) (ls' := [(0, .ref 55), (1, .int a1), (2, .int a2), (3, .int a3), (4, .int a4), (5, .int a5), (6, .int a6)]) (st' := [.long 30, .long 1, .long a2.toInt64]) rfl rfl ?_
    refine zy_c (mc := zm_m183) (mr := zm_m253) rfl rfl rfl rfl rfl (zm_Y.mono (zk_in a2 1 30 rfl (by decide) (by decide)) ?_)
    rintro r h1 ⟨rfl, ⟨rfl, hc3⟩ | ⟨rfl, hc3⟩⟩
    · skip
      refine zy_b (q := (29, [])) (mr := zm_m253) rfl rfl rfl ?_
      refine zy_n 4 (mr := zm_m253) (pc' := 35) (ls' := [(0, .ref 55), (1, .int a1), (2, .int a2), (3, .int a3), (4, .int a4), (5, .int a5), (6, .int a6)]) (st' := [.long 5, .long 0, .long a3.toInt64]) rfl rfl ?_
      refine zy_c (mc := zm_m183) (mr := zm_m253) rfl rfl rfl rfl rfl (zm_Y.mono (zk_in a3 0 5 rfl (by decide) (by decide)) ?_)
      rintro r h1 ⟨rfl, ⟨rfl, hc4⟩ | ⟨rfl, hc4⟩⟩
      · skip
        refine zy_b (q := (44, [])) (mr := zm_m253) rfl rfl rfl ?_
        refine zy_n 1 (mr := zm_m253) (pc' := 45) (ls' := [(0, .ref 55), (1, .int a1), (2, .int a2), (3, .int a3), (4, .int a4), (5, .int a5), (6, .int a6)]) (st' := [.ref 55]) rfl rfl ?_
        refine zy_h (mr := zm_m253) rfl rfl (zh_get (v := .int 0) (zs_eqE e1 ((K 55 (by decide) (by decide)).trans (zp_o F 10 rfl))) rfl) ?_
        refine zy_n 1 (mr := zm_m253) (pc' := 50) (ls' := [(0, .ref 55), (1, .int a1), (2, .int a2), (3, .int a3), (4, .int a4), (5, .int a5), (6, .int a6)]) (st' := [.int 60, .int 0]) rfl rfl ?_
        refine zy_b (q := (56, [])) (mr := zm_m253) rfl rfl rfl ?_
        refine zy_n 8 (mr := zm_m253) (pc' := 67) (ls' := [(0, .ref 55), (1, .int a1), (2, .int a2), (3, .int a3), (4, .int a4), (5, .int a5), (6, .int a6)]) (st' := [.int (-1), .int a6, .int a5, .int a4, .int a3, .int a2, .int a1, .ref 55]) rfl rfl ?_
        refine zy_c (mc := zm_m254) (mr := zm_m253) rfl rfl (zh_v rfl (zs_eqE e1 ((K 55 (by decide) (by decide)).trans (zp_o F 10 rfl))) rfl) rfl rfl ?_
        refine zy_n 1 (mr := zm_m254) (pc' := 1) (ls' := [(0, .ref 55), (1, .int a1), (2, .int a2), (3, .int a3), (4, .int a4), (5, .int a5), (6, .int a6), (7, .int (-1))]) (st' := [.ref 55]) rfl rfl ?_
        refine zy_h (mr := zm_m254) rfl rfl (zh_get (v := .ref 79) (zs_eqE e1 ((K 55 (by decide) (by decide)).trans (zp_o F 10 rfl))) rfl) ?_
        refine zy_n 1 (mr := zm_m254) (pc' := 5) (ls' := [(0, .ref 55), (1, .int a1), (2, .int a2), (3, .int a3), (4, .int a4), (5, .int a5), (6, .int a6), (7, .int (-1))]) (st' := [.ref 55, .ref 79]) rfl rfl ?_
        refine zy_h (mr := zm_m254) rfl rfl (zh_get (v := .int 0) (zs_eqE e1 ((K 55 (by decide) (by decide)).trans (zp_o F 10 rfl))) rfl) ?_
        refine zy_n 1 (mr := zm_m254) (pc' := 9) (ls' := [(0, .ref 55), (1, .int a1), (2, .int a2), (3, .int a3), (4, .int a4), (5, .int a5), (6, .int a6), (7, .int (-1))]) (st' := [.int a1, .int 0, .ref 79]) rfl rfl ?_
        refine zy_hS (x := _) (mr := zm_m254) rfl rfl (zh_iast (zs_neE e1 ((K 79 (by decide) (by decide)).trans (zp_i F 54 rfl)) (by decide)) (by decide)) (fun he5 e5 => ?_)
        refine zy_n 1 (mr := zm_m254) (pc' := 11) (ls' := [(0, .ref 55), (1, .int a1), (2, .int a2), (3, .int a3), (4, .int a4), (5, .int a5), (6, .int a6), (7, .int (-1))]) (st' := [.ref 55]) rfl rfl ?_
        have k6 := (zs_neE e5 (zs_eqE e1 ((K 55 (by decide) (by decide)).trans (zp_o F 10 rfl))) (by decide))
        refine zy_h (mr := zm_m254) rfl rfl (zh_get (v := .ref 80) k6 rfl) ?_
        refine zy_n 1 (mr := zm_m254) (pc' := 15) (ls' := [(0, .ref 55), (1, .int a1), (2, .int a2), (3, .int a3), (4, .int a4), (5, .int a5), (6, .int a6), (7, .int (-1))]) (st' := [.ref 55, .ref 80]) rfl rfl ?_
        refine zy_h (mr := zm_m254) rfl rfl (zh_get (v := .int 0) k6 rfl) ?_
        refine zy_n 1 (mr := zm_m254) (pc' := 19) (ls' := [(0, .ref 55), (1, .int a1), (2, .int a2), (3, .int a3), (4, .int a4), (5, .int a5), (6, .int a6), (7, .int (-1))]) (st' := [.int a2, .int 0, .ref 80]) rfl rfl ?_
        have k7 := (zs_neE e5 (zs_neE e1 ((K 80 (by decide) (by decide)).trans (zp_i F 55 rfl)) (by decide)) (by decide))
        refine zy_hS (x := _) (mr := zm_m254) rfl rfl (zh_iast k7 (by decide)) (fun he8 e8 => ?_)
        refine zy_n 1 (mr := zm_m254) (pc' := 21) (ls' := [(0, .ref 55), (1, .int a1), (2, .int a2), (3, .int a3), (4, .int a4), (5, .int a5), (6, .int a6), (7, .int (-1))]) (st' := [.ref 55]) rfl rfl ?_
        refine zy_h (mr := zm_m254) rfl rfl (zh_get (v := .ref 81) (zs_neE e8 k6 (by decide)) rfl) ?_
        refine zy_n 1 (mr := zm_m254) (pc' := 25) (ls' := [(0, .ref 55), (1, .int a1), (2, .int a2), (3, .int a3), (4, .int a4), (5, .int a5), (6, .int a6), (7, .int (-1))]) (st' := [.ref 55, .ref 81]) rfl rfl ?_
        refine zy_h (mr := zm_m254) rfl rfl (zh_get (v := .int 0) (zs_neE e8 k6 (by decide)) rfl) ?_
        refine zy_n 1 (mr := zm_m254) (pc' := 29) (ls' := [(0, .ref 55), (1, .int a1), (2, .int a2), (3, .int a3), (4, .int a4), (5, .int a5), (6, .int a6), (7, .int (-1))]) (st' := [.int a3, .int 0, .ref 81]) rfl rfl ?_
        have k9 := (zs_neE e8 (zs_neE e5 (zs_neE e1 ((K 81 (by decide) (by decide)).trans (zp_i F 56 rfl)) (by decide)) (by decide)) (by decide))
        refine zy_hS (x := _) (mr := zm_m254) rfl rfl (zh_iast k9 (by decide)) (fun he10 e10 => ?_)
        refine zy_n 1 (mr := zm_m254) (pc' := 31) (ls' := [(0, .ref 55), (1, .int a1), (2, .int a2), (3, .int a3), (4, .int a4), (5, .int a5), (6, .int a6), (7, .int (-1))]) (st' := [.ref 55]) rfl rfl ?_
        refine zy_h (mr := zm_m254) rfl rfl (zh_get (v := .ref 83) (zs_neE e10 (zs_neE e8 k6 (by decide)) (by decide)) rfl) ?_
        refine zy_n 1 (mr := zm_m254) (pc' := 35) (ls' := [(0, .ref 55), (1, .int a1), (2, .int a2), (3, .int a3), (4, .int a4), (5, .int a5), (6, .int a6), (7, .int (-1))]) (st' := [.ref 55, .ref 83]) rfl rfl ?_
        refine zy_h (mr := zm_m254) rfl rfl (zh_get (v := .int 0) (zs_neE e10 (zs_neE e8 k6 (by decide)) (by decide)) rfl) ?_
        refine zy_n 1 (mr := zm_m254) (pc' := 40) (ls' := [(0, .ref 55), (1, .int a1), (2, .int a2), (3, .int a3), (4, .int a4), (5, .int a5), (6, .int a6), (7, .int (-1))]) (st' := [.int a4, .int 0, .ref 83]) rfl rfl ?_
        have k11 := (zs_neE e10 (zs_neE e8 (zs_neE e5 (zs_neE e1 ((K 83 (by decide) (by decide)).trans (zp_i F 58 rfl)) (by decide)) (by decide)) (by decide)) (by decide))
        refine zy_hS (x := _) (mr := zm_m254) rfl rfl (zh_zast k11 (by decide)) (fun he12 e12 => ?_)
        refine zy_n 1 (mr := zm_m254) (pc' := 42) (ls' := [(0, .ref 55), (1, .int a1), (2, .int a2), (3, .int a3), (4, .int a4), (5, .int a5), (6, .int a6), (7, .int (-1))]) (st' := [.ref 55]) rfl rfl ?_
        as_aux_lemma =>
          refine zy_h (mr := zm_m254) rfl rfl (zh_get (v := .ref 84) (zs_neE e12 (zs_neE e10 (zs_neE e8 k6 (by decide)) (by decide)) (by decide)) rfl) ?_
          refine zy_n 1 (mr := zm_m254) (pc' := 46) (ls' := [(0, .ref 55), (1, .int a1), (2, .int a2), (3, .int a3), (4, .int a4), (5, .int a5), (6, .int a6), (7, .int (-1))]) (st' := [.ref 55, .ref 84]) rfl rfl ?_
          refine zy_h (mr := zm_m254) rfl rfl (zh_get (v := .int 0) (zs_neE e12 (zs_neE e10 (zs_neE e8 k6 (by decide)) (by decide)) (by decide)) rfl) ?_
          refine zy_n 1 (mr := zm_m254) (pc' := 51) (ls' := [(0, .ref 55), (1, .int a1), (2, .int a2), (3, .int a3), (4, .int a4), (5, .int a5), (6, .int a6), (7, .int (-1))]) (st' := [.int a5, .int 0, .ref 84]) rfl rfl ?_
          have k13 := (zs_neE e12 (zs_neE e10 (zs_neE e8 (zs_neE e5 (zs_neE e1 ((K 84 (by decide) (by decide)).trans (zp_i F 59 rfl)) (by decide)) (by decide)) (by decide)) (by decide)) (by decide))
          refine zy_hS (x := _) (mr := zm_m254) rfl rfl (zh_zast k13 (by decide)) (fun he14 e14 => ?_)
          refine zy_n 1 (mr := zm_m254) (pc' := 53) (ls' := [(0, .ref 55), (1, .int a1), (2, .int a2), (3, .int a3), (4, .int a4), (5, .int a5), (6, .int a6), (7, .int (-1))]) (st' := [.ref 55]) rfl rfl ?_
          have k15 := (zs_neE e14 (zs_neE e12 (zs_neE e10 (zs_neE e8 k6 (by decide)) (by decide)) (by decide)) (by decide))
          refine zy_h (mr := zm_m254) rfl rfl (zh_get (v := .ref 85) k15 rfl) ?_
          refine zy_n 1 (mr := zm_m254) (pc' := 57) (ls' := [(0, .ref 55), (1, .int a1), (2, .int a2), (3, .int a3), (4, .int a4), (5, .int a5), (6, .int a6), (7, .int (-1))]) (st' := [.ref 55, .ref 85]) rfl rfl ?_
          refine zy_h (mr := zm_m254) rfl rfl (zh_get (v := .int 0) k15 rfl) ?_
          refine zy_n 1 (mr := zm_m254) (pc' := 62) (ls' := [(0, .ref 55), (1, .int a1), (2, .int a2), (3, .int a3), (4, .int a4), (5, .int a5), (6, .int a6), (7, .int (-1))]) (st' := [.int a6, .int 0, .ref 85]) rfl rfl ?_
          have k16 := (zs_neE e14 (zs_neE e12 (zs_neE e10 (zs_neE e8 (zs_neE e5 (zs_neE e1 ((K 85 (by decide) (by decide)).trans (zp_i F 60 rfl)) (by decide)) (by decide)) (by decide)) (by decide)) (by decide)) (by decide))
          refine zy_hS (x := _) (mr := zm_m254) rfl rfl (zh_zast k16 (by decide)) (fun he17 e17 => ?_)
          refine zy_n 1 (mr := zm_m254) (pc' := 64) (ls' := [(0, .ref 55), (1, .int a1), (2, .int a2), (3, .int a3), (4, .int a4), (5, .int a5), (6, .int a6), (7, .int (-1))]) (st' := [.ref 55]) rfl rfl ?_
          refine zy_h (mr := zm_m254) rfl rfl (zh_get (v := .ref 82) (zs_neE e17 k15 (by decide)) rfl) ?_
          refine zy_n 1 (mr := zm_m254) (pc' := 68) (ls' := [(0, .ref 55), (1, .int a1), (2, .int a2), (3, .int a3), (4, .int a4), (5, .int a5), (6, .int a6), (7, .int (-1))]) (st' := [.ref 55, .ref 82]) rfl rfl ?_
          refine zy_h (mr := zm_m254) rfl rfl (zh_get (v := .int 0) (zs_neE e17 k15 (by decide)) rfl) ?_
          refine zy_n 1 (mr := zm_m254) (pc' := 73) (ls' := [(0, .ref 55), (1, .int a1), (2, .int a2), (3, .int a3), (4, .int a4), (5, .int a5), (6, .int a6), (7, .int (-1))]) (st' := [.int (-1), .int 0, .ref 82]) rfl rfl ?_
          have k18 := (zs_neE e17 (zs_neE e14 (zs_neE e12 (zs_neE e10 (zs_neE e8 (zs_neE e5 (zs_neE e1 ((K 82 (by decide) (by decide)).trans (zp_i F 57 rfl)) (by decide)) (by decide)) (by decide)) (by decide)) (by decide)) (by decide)) (by decide))
          refine zy_hS (x := _) (mr := zm_m254) rfl rfl (zh_iast k18 (by decide)) (fun he19 e19 => ?_)
          refine zy_n 1 (mr := zm_m254) (pc' := 75) (ls' := [(0, .ref 55), (1, .int a1), (2, .int a2), (3, .int a3), (4, .int a4), (5, .int a5), (6, .int a6), (7, .int (-1))]) (st' := [.ref 55]) rfl rfl ?_
          refine zy_h (mr := zm_m254) rfl rfl (zh_get (v := .ref 86) (zs_neE e19 (zs_neE e17 k15 (by decide)) (by decide)) rfl) ?_
          refine zy_n 1 (mr := zm_m254) (pc' := 79) (ls' := [(0, .ref 55), (1, .int a1), (2, .int a2), (3, .int a3), (4, .int a4), (5, .int a5), (6, .int a6), (7, .int (-1))]) (st' := [.ref 55, .ref 86]) rfl rfl ?_
          refine zy_h (mr := zm_m254) rfl rfl (zh_get (v := .int 0) (zs_neE e19 (zs_neE e17 k15 (by decide)) (by decide)) rfl) ?_
          refine zy_n 1 (mr := zm_m254) (pc' := 83) (ls' := [(0, .ref 55), (1, .int a1), (2, .int a2), (3, .int a3), (4, .int a4), (5, .int a5), (6, .int a6), (7, .int (-1))]) (st' := [.int 1, .int 0, .ref 86]) rfl rfl ?_
          have k20 := (zs_neE e19 (zs_neE e17 (zs_neE e14 (zs_neE e12 (zs_neE e10 (zs_neE e8 (zs_neE e5 (zs_neE e1 ((K 86 (by decide) (by decide)).trans (zp_i F 61 rfl)) (by decide)) (by decide)) (by decide)) (by decide)) (by decide)) (by decide)) (by decide)) (by decide))
          refine zy_hS (x := _) (mr := zm_m254) rfl rfl (zh_zast k20 (by decide)) (fun he21 e21 => ?_)
          refine zy_n 2 (mr := zm_m254) (pc' := 86) (ls' := [(0, .ref 55), (1, .int a1), (2, .int a2), (3, .int a3), (4, .int a4), (5, .int a5), (6, .int a6), (7, .int (-1))]) (st' := [.ref 55, .ref 55]) rfl rfl ?_
          refine zy_h (mr := zm_m254) rfl rfl (zh_get (v := .int 0) (zs_neE e21 (zs_neE e19 (zs_neE e17 k15 (by decide)) (by decide)) (by decide)) rfl) ?_
          refine zy_n 2 (mr := zm_m254) (pc' := 91) (ls' := [(0, .ref 55), (1, .int a1), (2, .int a2), (3, .int a3), (4, .int a4), (5, .int a5), (6, .int a6), (7, .int (-1))]) (st' := [.int 1, .ref 55]) rfl rfl ?_
          refine zy_hS (x := .inr (11, [.int 0, .ref 56, .ref 57, .ref 58, .ref 59, .int 0, .int 0, .int 1, .int 0, .int 0, .int 0, .int 20, .int 30, .int 5, .int 2, .ref 60, .ref 61, .ref 62, .ref 63, .ref 64, .ref 65, .ref 66, .ref 67, .ref 68, .ref 69, .ref 70, .ref 71, .ref 72, .ref 73, .ref 74, .ref 75, .ref 76, .ref 77, .ref 78, .ref 79, .ref 80, .ref 81, .ref 82, .ref 83, .ref 84, .ref 85, .ref 86, .ref 87, .ref 88, .ref 89, .ref 90, .ref 91, .ref 92, .ref 93, .ref 94, .int 0, .int (-1), .ref 95, .ref 96, .ref 97, .ref 98, .int 0, .int 0, .int 0, .int 0, .int 0, .int 0, .int 0, .int 0, .int 0, .int 0, .int 0, .int 0, .int 0, .long 0, .int 0, .int 0, .int 0, .long 0, .long 0, .long 0, .long 0, .int 0, .int 0, .int 0, .int 0, .ref 99, .int 0, .int 0, .int 0, .ref 100, .ref 101, .ref 102, .ref 103, .ref 104, .ref 105, .ref 106, .ref 107, .ref 108, .ref 109, .ref 110, .ref 111, .ref 112, .ref 113, .ref 114, .int 0, .int 0, .int 0, .long 0, .long 0, .int 0, .ref 115, .ref 116, .int 0])) (mr := zm_m254) rfl rfl (zh_put (zs_neE e21 (zs_neE e19 (zs_neE e17 k15 (by decide)) (by decide)) (by decide)) rfl rfl) (fun he22 e22 => ?_)
          refine zy_n 2 (mr := zm_m254) (pc' := 96) (ls' := [(0, .ref 55), (1, .int a1), (2, .int a2), (3, .int a3), (4, .int a4), (5, .int a5), (6, .int a6), (7, .int (-1))]) (st' := [.int 0, .ref 55]) rfl rfl ?_
          have k23 := (zs_eqE e22 (zs_neE e21 (zs_neE e19 (zs_neE e17 k15 (by decide)) (by decide)) (by decide)))
          refine zy_hS (x := .inr (11, [.int 0, .ref 56, .ref 57, .ref 58, .ref 59, .int 0, .int 0, .int 1, .int 0, .int 0, .int 0, .int 20, .int 30, .int 5, .int 2, .ref 60, .ref 61, .ref 62, .ref 63, .ref 64, .ref 65, .ref 66, .ref 67, .ref 68, .ref 69, .ref 70, .ref 71, .ref 72, .ref 73, .ref 74, .ref 75, .ref 76, .ref 77, .ref 78, .ref 79, .ref 80, .ref 81, .ref 82, .ref 83, .ref 84, .ref 85, .ref 86, .ref 87, .ref 88, .ref 89, .ref 90, .ref 91, .ref 92, .ref 93, .ref 94, .int 0, .int (-1), .ref 95, .ref 96, .ref 97, .ref 98, .int 0, .int 0, .int 0, .int 0, .int 0, .int 0, .int 0, .int 0, .int 0, .int 0, .int 0, .int 0, .int 0, .long 0, .int 0, .int 0, .int 0, .long 0, .long 0, .long 0, .long 0, .int 0, .int 0, .int 0, .int 0, .ref 99, .int 0, .int 0, .int 0, .ref 100, .ref 101, .ref 102, .ref 103, .ref 104, .ref 105, .ref 106, .ref 107, .ref 108, .ref 109, .ref 110, .ref 111, .ref 112, .ref 113, .ref 114, .int 0, .int 0, .int 0, .long 0, .long 0, .int 0, .ref 115, .ref 116, .int 0])) (mr := zm_m254) rfl rfl (zh_put k23 rfl (by decide)) (fun he24 e24 => ?_)
          refine zy_n 1 (mr := zm_m254) (pc' := 100) (ls' := [(0, .ref 55), (1, .int a1), (2, .int a2), (3, .int a3), (4, .int a4), (5, .int a5), (6, .int a6), (7, .int (-1))]) (st' := [.ref 55]) rfl rfl ?_
          have k25 := (zs_eqE e24 (zs_eqE e22 (zs_neE e21 (zs_neE e19 (zs_neE e17 k15 (by decide)) (by decide)) (by decide))))
          refine zy_h (mr := zm_m254) rfl rfl (zh_get (v := .int 1) k25 rfl) ?_
          refine zy_n 2 (mr := zm_m254) (pc' := 105) (ls' := [(0, .ref 55), (1, .int a1), (2, .int a2), (3, .int a3), (4, .int a4), (5, .int a5), (6, .int a6), (7, .int (-1))]) (st' := [.int 0]) rfl rfl ?_
          refine zy_r (mr := zm_m254) rfl rfl rfl ?_
          refine zy_r (mr := zm_m253) rfl rfl rfl ?_
          refine ⟨⟨_, rfl, ?_⟩, Nat.le_trans (zs_lleE e24 (zs_lleE e22 (zs_lleE e21 (zs_lleE e19 (zs_lleE e17 (zs_lleE e14 (zs_lleE e12 (zs_lleE e10 (zs_lleE e8 (zs_lleE e5 (zs_lleE e1 KL))))))))))) (by decide), Nat.le_trans (zs_szleE (w := 109) e24 (zs_eqE e22 (zs_neE e21 (zs_neE e19 (zs_neE e17 k15 (by decide)) (by decide)) (by decide))) rfl rfl (zs_szleE (w := 109) e22 (zs_neE e21 (zs_neE e19 (zs_neE e17 k15 (by decide)) (by decide)) (by decide)) rfl rfl (zs_szleE (w := 60) e21 k20 rfl rfl (zs_szleE (w := 60) e19 k18 rfl rfl (zs_szleE (w := 60) e17 k16 rfl rfl (zs_szleE (w := 60) e14 k13 rfl rfl (zs_szleE (w := 60) e12 k11 rfl rfl (zs_szleE (w := 60) e10 k9 rfl rfl (zs_szleE (w := 60) e8 k7 rfl rfl (zs_szleE (w := 60) e5 (zs_neE e1 ((K 79 (by decide) (by decide)).trans (zp_i F 54 rfl)) (by decide)) rfl rfl (zs_szleE (w := 109) e1 ((K 55 (by decide) (by decide)).trans (zp_o F 10 rfl)) rfl rfl KS))))))))))) (by decide)⟩
          first | (simp [zf_19, hc2, hc3, hc4]; done) | (simp [zf_19, hc2, hc3, hc4]; unfold zw; decide)
      · skip
        refine zy_b (q := (41, [])) (mr := zm_m253) rfl rfl rfl ?_
        refine zy_n 1 (mr := zm_m253) (pc' := 43) (ls' := [(0, .ref 55), (1, .int a1), (2, .int a2), (3, .int a3), (4, .int a4), (5, .int a5), (6, .int a6)]) (st' := [.int (-2)]) rfl rfl ?_
        refine zy_r (mr := zm_m253) rfl rfl rfl ?_
        refine ⟨⟨_, rfl, ?_⟩, Nat.le_trans (zs_lleE e1 KL) (by decide), Nat.le_trans (zs_szleE (w := 109) e1 ((K 55 (by decide) (by decide)).trans (zp_o F 10 rfl)) rfl rfl KS) (by decide)⟩
        first | (simp [zf_19, hc2, hc3, hc4]; done) | (simp [zf_19, hc2, hc3, hc4]; unfold zw; decide)
    · skip
      refine zy_b (q := (41, [])) (mr := zm_m253) rfl rfl rfl ?_
      refine zy_n 1 (mr := zm_m253) (pc' := 43) (ls' := [(0, .ref 55), (1, .int a1), (2, .int a2), (3, .int a3), (4, .int a4), (5, .int a5), (6, .int a6)]) (st' := [.int (-2)]) rfl rfl ?_
      as_aux_lemma =>
        refine zy_r (mr := zm_m253) rfl rfl rfl ?_
        refine ⟨⟨_, rfl, ?_⟩, Nat.le_trans (zs_lleE e1 KL) (by decide), Nat.le_trans (zs_szleE (w := 109) e1 ((K 55 (by decide) (by decide)).trans (zp_o F 10 rfl)) rfl rfl KS) (by decide)⟩
        first | (simp [zf_19, hc2, hc3]; done) | (simp [zf_19, hc2, hc3]; unfold zw; decide)
  · skip
    refine zy_b (q := (41, [])) (mr := zm_m253) rfl rfl rfl ?_
    refine zy_n 1 (mr := zm_m253) (pc' := 43) (ls' := [(0, .ref 55), (1, .int a1), (2, .int a2), (3, .int a3), (4, .int a4), (5, .int a5), (6, .int a6)]) (st' := [.int (-2)]) rfl rfl ?_
    refine zy_r (mr := zm_m253) rfl rfl rfl ?_
    refine ⟨⟨_, rfl, ?_⟩, Nat.le_trans (zs_lleE e1 KL) (by decide), Nat.le_trans (zs_szleE (w := 109) e1 ((K 55 (by decide) (by decide)).trans (zp_o F 10 rfl)) rfl rfl KS) (by decide)⟩
    first | (simp [zf_19, hc2]; done) | (simp [zf_19, hc2]; unfold zw; decide)
set_option maxHeartbeats 4000000 in
set_option maxRecDepth 20000 in
theorem zn_20 {og : Nat → Option zm_C} {h h0 : zm_H} (F : zp_ck h = true) (K : ∀ k : Nat, 55 ≤ k → k < 117 → h0[k]? = h[k]?) (KL : h0.length ≤ 200) (KS : zm_szs h0 ≤ 90000) (a1 : Int32) (a2 : Int32) : zm_Y og 30 255 0 [(0, .ref 55), (1, .int a1), (2, .int a2)] [] h0 (fun r h1 => (∃ v, r = some (.int v) ∧ zf_20 a1 a2 v) ∧ h1.length ≤ 300 ∧ zm_szs h1 ≤ 200000) := by
  refine zy_n 2 (mr := zm_m255) (pc' := 2) (ls' := [(0, .ref 55), (1, .int a1), (2, .int a2)]) (st' := [.int 0, .ref 55]) rfl rfl ?_
  refine zy_hS (x := .inr (11, [.int 0, .ref 56, .ref 57, .ref 58, .ref 59, .int 0, .int 0, .int 0, .int 0, .int 0, .int 0, .int 20, .int 30, .int 5, .int 2, .ref 60, .ref 61, .ref 62, .ref 63, .ref 64, .ref 65, .ref 66, .ref 67, .ref 68, .ref 69, .ref 70, .ref 71, .ref 72, .ref 73, .ref 74, .ref 75, .ref 76, .ref 77, .ref 78, .ref 79, .ref 80, .ref 81, .ref 82, .ref 83, .ref 84, .ref 85, .ref 86, .ref 87, .ref 88, .ref 89, .ref 90, .ref 91, .ref 92, .ref 93, .ref 94, .int 0, .int (-1), .ref 95, .ref 96, .ref 97, .ref 98, .int 0, .int 0, .int 0, .int 0, .int 0, .int 0, .int 0, .int 0, .int 0, .int 0, .int 0, .int 0, .int 0, .long 0, .int 0, .int 0, .int 0, .long 0, .long 0, .long 0, .long 0, .int 0, .int 0, .int 0, .int 0, .ref 99, .int 0, .int 0, .int 0, .ref 100, .ref 101, .ref 102, .ref 103, .ref 104, .ref 105, .ref 106, .ref 107, .ref 108, .ref 109, .ref 110, .ref 111, .ref 112, .ref 113, .ref 114, .int 0, .int 0, .int 0, .long 0, .long 0, .int 0, .ref 115, .ref 116, .int 0])) (mr := zm_m255) rfl rfl (zh_put ((K 55 (by decide) (by decide)).trans (zp_o F 10 rfl)) rfl rfl) (fun he1 e1 => ?_)
  refine zy_n 3 (mr := zm_m255) (pc' := 8) (ls' := [(0, .ref 55), (1, .int a1), (2, .int a2)]) (st' := [.int a2, .int a1, .ref 55]) rfl rfl ?_
  refine zy_c (mc := zm_m195) (mr := zm_m255) rfl rfl (zh_v rfl (zs_eqE e1 ((K 55 (by decide) (by decide)).trans (zp_o F 10 rfl))) rfl) rfl rfl ?_
  refine zy_n 2 (mr := zm_m195) (pc' := 2) (ls' := [(0, .ref 55), (1, .int a1), (2, .int a2)]) (st' := [.int a1, .ref 55]) rfl rfl ?_
  refine zy_c (mc := zm_m193) (mr := zm_m195) rfl rfl (zh_v rfl (zs_eqE e1 ((K 55 (by decide) (by decide)).trans (zp_o F 10 rfl))) rfl) rfl rfl ?_
  refine zy_n 4 (mr := zm_m193) (pc' := 4) (ls' := [(0, .ref 55), (1, .int a1)]) (st' := [.ref 55, .long 0, .long a1.toInt64]) rfl rfl ?_
  refine zy_h (mr := zm_m193) rfl rfl (zh_get (v := .int 0) (zs_eqE e1 ((K 55 (by decide) (by decide)).trans (zp_o F 10 rfl))) rfl) ?_
  refine zy_n 3 (mr := zm_m193) (pc' := 10) (ls' := [(0, .ref 55), (1, .int a1)]) (st' := [.long (-1), .long 0, .long a1.toInt64]) rfl rfl ?_
  refine zy_c (mc := zm_m183) (mr := zm_m193) rfl rfl rfl rfl rfl (zm_Y.mono (zk_in a1 0 (-1) rfl (by decide) (by decide)) ?_)
  rintro r h1 ⟨rfl, ⟨rfl, hc2⟩ | ⟨rfl, hc2⟩⟩
  · exact absurd hc2 (zl_emp (by decide))
  refine zy_r (mr := zm_m193) rfl rfl rfl ?_
  refine zy_b (q := (30, [])) (mr := zm_m195) rfl rfl rfl ?_
  refine zy_n 1 (mr := zm_m195) (pc' := 31) (ls' := [(0, .ref 55), (1, .int a1), (2, .int a2)]) (st' := [.int 0]) rfl rfl ?_
  refine zy_r (mr := zm_m195) rfl rfl rfl ?_
  refine zy_b (q := (23, [])) (mr := zm_m255) rfl rfl rfl ?_
  refine zy_n 1 (mr := zm_m255) (pc' := 25) (ls' := [(0, .ref 55), (1, .int a1), (2, .int a2)]) (st' := [.int (-2)]) rfl rfl ?_
  refine zy_r (mr := zm_m255) rfl rfl rfl ?_
  refine ⟨⟨_, rfl, ?_⟩, Nat.le_trans (zs_lleE e1 KL) (by decide), Nat.le_trans (zs_szleE (w := 109) e1 ((K 55 (by decide) (by decide)).trans (zp_o F 10 rfl)) rfl rfl KS) (by decide)⟩
  first | (simp [zf_20]; done) | (simp [zf_20]; unfold zw; decide)
set_option maxHeartbeats 4000000 in
set_option maxRecDepth 20000 in
theorem zn_21 {og : Nat → Option zm_C} {h h0 : zm_H} (F : zp_ck h = true) (K : ∀ k : Nat, 55 ≤ k → k < 117 → h0[k]? = h[k]?) (KL : h0.length ≤ 200) (KS : zm_szs h0 ≤ 90000) (a1 : Int32) (a2 : Int32) : zm_Y og 30 258 0 [(0, .ref 55), (1, .int a1), (2, .int a2)] [] h0 (fun r h1 => (∃ v, r = some (.int v) ∧ zf_21 a1 a2 v) ∧ h1.length ≤ 300 ∧ zm_szs h1 ≤ 200000) := by
  refine zy_n 2 (mr := zm_m258) (pc' := 2) (ls' := [(0, .ref 55), (1, .int a1), (2, .int a2)]) (st' := [.int 0, .ref 55]) rfl rfl ?_
  refine zy_hS (x := .inr (11, [.int 0, .ref 56, .ref 57, .ref 58, .ref 59, .int 0, .int 0, .int 0, .int 0, .int 0, .int 0, .int 20, .int 30, .int 5, .int 2, .ref 60, .ref 61, .ref 62, .ref 63, .ref 64, .ref 65, .ref 66, .ref 67, .ref 68, .ref 69, .ref 70, .ref 71, .ref 72, .ref 73, .ref 74, .ref 75, .ref 76, .ref 77, .ref 78, .ref 79, .ref 80, .ref 81, .ref 82, .ref 83, .ref 84, .ref 85, .ref 86, .ref 87, .ref 88, .ref 89, .ref 90, .ref 91, .ref 92, .ref 93, .ref 94, .int 0, .int (-1), .ref 95, .ref 96, .ref 97, .ref 98, .int 0, .int 0, .int 0, .int 0, .int 0, .int 0, .int 0, .int 0, .int 0, .int 0, .int 0, .int 0, .int 0, .long 0, .int 0, .int 0, .int 0, .long 0, .long 0, .long 0, .long 0, .int 0, .int 0, .int 0, .int 0, .ref 99, .int 0, .int 0, .int 0, .ref 100, .ref 101, .ref 102, .ref 103, .ref 104, .ref 105, .ref 106, .ref 107, .ref 108, .ref 109, .ref 110, .ref 111, .ref 112, .ref 113, .ref 114, .int 0, .int 0, .int 0, .long 0, .long 0, .int 0, .ref 115, .ref 116, .int 0])) (mr := zm_m258) rfl rfl (zh_put ((K 55 (by decide) (by decide)).trans (zp_o F 10 rfl)) rfl rfl) (fun he1 e1 => ?_)
  refine zy_n 2 (mr := zm_m258) (pc' := 7) (ls' := [(0, .ref 55), (1, .int a1), (2, .int a2)]) (st' := [.int a1, .ref 55]) rfl rfl ?_
  refine zy_c (mc := zm_m192) (mr := zm_m258) rfl rfl (zh_v rfl (zs_eqE e1 ((K 55 (by decide) (by decide)).trans (zp_o F 10 rfl))) rfl) rfl rfl ?_
  refine zy_n 2 (mr := zm_m192) (pc' := 2) (ls' := [(0, .ref 55), (1, .int a1)]) (st' := [.int a1, .ref 55]) rfl rfl ?_
  refine zy_c (mc := zm_m193) (mr := zm_m192) rfl rfl (zh_v rfl (zs_eqE e1 ((K 55 (by decide) (by decide)).trans (zp_o F 10 rfl))) rfl) rfl rfl ?_
  refine zy_n 4 (mr := zm_m193) (pc' := 4) (ls' := [(0, .ref 55), (1, .int a1)]) (st' := [.ref 55, .long 0, .long a1.toInt64]) rfl rfl ?_
  refine zy_h (mr := zm_m193) rfl rfl (zh_get (v := .int 0) (zs_eqE e1 ((K 55 (by decide) (by decide)).trans (zp_o F 10 rfl))) rfl) ?_
  refine zy_n 3 (mr := zm_m193) (pc' := 10) (ls' := [(0, .ref 55), (1, .int a1)]) (st' := [.long (-1), .long 0, .long a1.toInt64]) rfl rfl ?_
  refine zy_c (mc := zm_m183) (mr := zm_m193) rfl rfl rfl rfl rfl (zm_Y.mono (zk_in a1 0 (-1) rfl (by decide) (by decide)) ?_)
  rintro r h1 ⟨rfl, ⟨rfl, hc2⟩ | ⟨rfl, hc2⟩⟩
  · exact absurd hc2 (zl_emp (by decide))
  refine zy_r (mr := zm_m193) rfl rfl rfl ?_
  refine zy_b (q := (21, [])) (mr := zm_m192) rfl rfl rfl ?_
  refine zy_n 1 (mr := zm_m192) (pc' := 22) (ls' := [(0, .ref 55), (1, .int a1)]) (st' := [.int 0]) rfl rfl ?_
  refine zy_r (mr := zm_m192) rfl rfl rfl ?_
  refine zy_b (q := (22, [])) (mr := zm_m258) rfl rfl rfl ?_
  refine zy_n 1 (mr := zm_m258) (pc' := 24) (ls' := [(0, .ref 55), (1, .int a1), (2, .int a2)]) (st' := [.int (-2)]) rfl rfl ?_
  refine zy_r (mr := zm_m258) rfl rfl rfl ?_
  refine ⟨⟨_, rfl, ?_⟩, Nat.le_trans (zs_lleE e1 KL) (by decide), Nat.le_trans (zs_szleE (w := 109) e1 ((K 55 (by decide) (by decide)).trans (zp_o F 10 rfl)) rfl rfl KS) (by decide)⟩
  first | (simp [zf_21]; done) | (simp [zf_21]; unfold zw; decide)
set_option maxHeartbeats 4000000 in
set_option maxRecDepth 20000 in
theorem zn_22 {og : Nat → Option zm_C} {h h0 : zm_H} (F : zp_ck h = true) (K : ∀ k : Nat, 55 ≤ k → k < 117 → h0[k]? = h[k]?) (KL : h0.length ≤ 200) (KS : zm_szs h0 ≤ 90000) (a1 : Int32) : zm_Y og 30 259 0 [(0, .ref 55), (1, .int a1)] [] h0 (fun r h1 => (∃ v, r = some (.int v) ∧ zf_22 a1 v) ∧ h1.length ≤ 300 ∧ zm_szs h1 ≤ 200000) := by
  refine zy_n 2 (mr := zm_m259) (pc' := 2) (ls' := [(0, .ref 55), (1, .int a1)]) (st' := [.int 0, .ref 55]) rfl rfl ?_
  refine zy_hS (x := .inr (11, [.int 0, .ref 56, .ref 57, .ref 58, .ref 59, .int 0, .int 0, .int 0, .int 0, .int 0, .int 0, .int 20, .int 30, .int 5, .int 2, .ref 60, .ref 61, .ref 62, .ref 63, .ref 64, .ref 65, .ref 66, .ref 67, .ref 68, .ref 69, .ref 70, .ref 71, .ref 72, .ref 73, .ref 74, .ref 75, .ref 76, .ref 77, .ref 78, .ref 79, .ref 80, .ref 81, .ref 82, .ref 83, .ref 84, .ref 85, .ref 86, .ref 87, .ref 88, .ref 89, .ref 90, .ref 91, .ref 92, .ref 93, .ref 94, .int 0, .int (-1), .ref 95, .ref 96, .ref 97, .ref 98, .int 0, .int 0, .int 0, .int 0, .int 0, .int 0, .int 0, .int 0, .int 0, .int 0, .int 0, .int 0, .int 0, .long 0, .int 0, .int 0, .int 0, .long 0, .long 0, .long 0, .long 0, .int 0, .int 0, .int 0, .int 0, .ref 99, .int 0, .int 0, .int 0, .ref 100, .ref 101, .ref 102, .ref 103, .ref 104, .ref 105, .ref 106, .ref 107, .ref 108, .ref 109, .ref 110, .ref 111, .ref 112, .ref 113, .ref 114, .int 0, .int 0, .int 0, .long 0, .long 0, .int 0, .ref 115, .ref 116, .int 0])) (mr := zm_m259) rfl rfl (zh_put ((K 55 (by decide) (by decide)).trans (zp_o F 10 rfl)) rfl rfl) (fun he1 e1 => ?_)
  refine zy_n 4 (mr := zm_m259) (pc' := 9) (ls' := [(0, .ref 55), (1, .int a1)]) (st' := [.ref 55, .long 0, .long a1.toInt64]) rfl rfl ?_
  refine zy_h (mr := zm_m259) rfl rfl (zh_get (v := .int 0) (zs_eqE e1 ((K 55 (by decide) (by decide)).trans (zp_o F 10 rfl))) rfl) ?_
  refine zy_n 3 (mr := zm_m259) (pc' := 15) (ls' := [(0, .ref 55), (1, .int a1)]) (st' := [.long (-1), .long 0, .long a1.toInt64]) rfl rfl ?_
  refine zy_c (mc := zm_m183) (mr := zm_m259) rfl rfl rfl rfl rfl (zm_Y.mono (zk_in a1 0 (-1) rfl (by decide) (by decide)) ?_)
  rintro r h1 ⟨rfl, ⟨rfl, hc2⟩ | ⟨rfl, hc2⟩⟩
  · exact absurd hc2 (zl_emp (by decide))
  refine zy_b (q := (30, [])) (mr := zm_m259) rfl rfl rfl ?_
  refine zy_n 1 (mr := zm_m259) (pc' := 32) (ls' := [(0, .ref 55), (1, .int a1)]) (st' := [.int (-2)]) rfl rfl ?_
  refine zy_r (mr := zm_m259) rfl rfl rfl ?_
  refine ⟨⟨_, rfl, ?_⟩, Nat.le_trans (zs_lleE e1 KL) (by decide), Nat.le_trans (zs_szleE (w := 109) e1 ((K 55 (by decide) (by decide)).trans (zp_o F 10 rfl)) rfl rfl KS) (by decide)⟩
  first | (simp [zf_22]; done) | (simp [zf_22]; unfold zw; decide)
set_option maxHeartbeats 4000000 in
set_option maxRecDepth 20000 in
theorem zn_23 {og : Nat → Option zm_C} {h h0 : zm_H} (F : zp_ck h = true) (K : ∀ k : Nat, 55 ≤ k → k < 117 → h0[k]? = h[k]?) (KL : h0.length ≤ 200) (KS : zm_szs h0 ≤ 90000) (a1 : Int32) (a2 : Int32) : zm_Y og 30 260 0 [(0, .ref 55), (1, .int a1), (2, .int a2)] [] h0 (fun r h1 => (∃ v, r = some (.int v) ∧ zf_23 a1 a2 v) ∧ h1.length ≤ 300 ∧ zm_szs h1 ≤ 200000) := by
  refine zy_n 2 (mr := zm_m260) (pc' := 2) (ls' := [(0, .ref 55), (1, .int a1), (2, .int a2)]) (st' := [.int 0, .ref 55]) rfl rfl ?_
  refine zy_hS (x := .inr (11, [.int 0, .ref 56, .ref 57, .ref 58, .ref 59, .int 0, .int 0, .int 0, .int 0, .int 0, .int 0, .int 20, .int 30, .int 5, .int 2, .ref 60, .ref 61, .ref 62, .ref 63, .ref 64, .ref 65, .ref 66, .ref 67, .ref 68, .ref 69, .ref 70, .ref 71, .ref 72, .ref 73, .ref 74, .ref 75, .ref 76, .ref 77, .ref 78, .ref 79, .ref 80, .ref 81, .ref 82, .ref 83, .ref 84, .ref 85, .ref 86, .ref 87, .ref 88, .ref 89, .ref 90, .ref 91, .ref 92, .ref 93, .ref 94, .int 0, .int (-1), .ref 95, .ref 96, .ref 97, .ref 98, .int 0, .int 0, .int 0, .int 0, .int 0, .int 0, .int 0, .int 0, .int 0, .int 0, .int 0, .int 0, .int 0, .long 0, .int 0, .int 0, .int 0, .long 0, .long 0, .long 0, .long 0, .int 0, .int 0, .int 0, .int 0, .ref 99, .int 0, .int 0, .int 0, .ref 100, .ref 101, .ref 102, .ref 103, .ref 104, .ref 105, .ref 106, .ref 107, .ref 108, .ref 109, .ref 110, .ref 111, .ref 112, .ref 113, .ref 114, .int 0, .int 0, .int 0, .long 0, .long 0, .int 0, .ref 115, .ref 116, .int 0])) (mr := zm_m260) rfl rfl (zh_put ((K 55 (by decide) (by decide)).trans (zp_o F 10 rfl)) rfl rfl) (fun he1 e1 => ?_)
  refine zy_n 4 (mr := zm_m260) (pc' := 9) (ls' := [(0, .ref 55), (1, .int a1), (2, .int a2)]) (st' := [.ref 55, .long 0, .long a1.toInt64]) rfl rfl ?_
  refine zy_h (mr := zm_m260) rfl rfl (zh_get (v := .int 0) (zs_eqE e1 ((K 55 (by decide) (by decide)).trans (zp_o F 10 rfl))) rfl) ?_
  refine zy_n 3 (mr := zm_m260) (pc' := 15) (ls' := [(0, .ref 55), (1, .int a1), (2, .int a2)]) (st' := [.long (-1), .long 0, .long a1.toInt64]) rfl rfl ?_
  refine zy_c (mc := zm_m183) (mr := zm_m260) rfl rfl rfl rfl rfl (zm_Y.mono (zk_in a1 0 (-1) rfl (by decide) (by decide)) ?_)
  rintro r h1 ⟨rfl, ⟨rfl, hc2⟩ | ⟨rfl, hc2⟩⟩
  · exact absurd hc2 (zl_emp (by decide))
  refine zy_b (q := (21, [])) (mr := zm_m260) rfl rfl rfl ?_
  refine zy_n 1 (mr := zm_m260) (pc' := 23) (ls' := [(0, .ref 55), (1, .int a1), (2, .int a2)]) (st' := [.int (-2)]) rfl rfl ?_
  refine zy_r (mr := zm_m260) rfl rfl rfl ?_
  refine ⟨⟨_, rfl, ?_⟩, Nat.le_trans (zs_lleE e1 KL) (by decide), Nat.le_trans (zs_szleE (w := 109) e1 ((K 55 (by decide) (by decide)).trans (zp_o F 10 rfl)) rfl rfl KS) (by decide)⟩
  first | (simp [zf_23]; done) | (simp [zf_23]; unfold zw; decide)
set_option maxHeartbeats 4000000 in
set_option maxRecDepth 20000 in
theorem zn_24 {og : Nat → Option zm_C} {h h0 : zm_H} (F : zp_ck h = true) (K : ∀ k : Nat, 55 ≤ k → k < 117 → h0[k]? = h[k]?) (KL : h0.length ≤ 200) (KS : zm_szs h0 ≤ 90000) (a1 : Int32) (a2 : Int32) : zm_Y og 30 261 0 [(0, .ref 55), (1, .int a1), (2, .int a2)] [] h0 (fun r h1 => (∃ v, r = some (.int v) ∧ zf_24 a1 a2 v) ∧ h1.length ≤ 300 ∧ zm_szs h1 ≤ 200000) := by
  refine zy_n 2 (mr := zm_m261) (pc' := 2) (ls' := [(0, .ref 55), (1, .int a1), (2, .int a2)]) (st' := [.int 0, .ref 55]) rfl rfl ?_
  refine zy_hS (x := .inr (11, [.int 0, .ref 56, .ref 57, .ref 58, .ref 59, .int 0, .int 0, .int 0, .int 0, .int 0, .int 0, .int 20, .int 30, .int 5, .int 2, .ref 60, .ref 61, .ref 62, .ref 63, .ref 64, .ref 65, .ref 66, .ref 67, .ref 68, .ref 69, .ref 70, .ref 71, .ref 72, .ref 73, .ref 74, .ref 75, .ref 76, .ref 77, .ref 78, .ref 79, .ref 80, .ref 81, .ref 82, .ref 83, .ref 84, .ref 85, .ref 86, .ref 87, .ref 88, .ref 89, .ref 90, .ref 91, .ref 92, .ref 93, .ref 94, .int 0, .int (-1), .ref 95, .ref 96, .ref 97, .ref 98, .int 0, .int 0, .int 0, .int 0, .int 0, .int 0, .int 0, .int 0, .int 0, .int 0, .int 0, .int 0, .int 0, .long 0, .int 0, .int 0, .int 0, .long 0, .long 0, .long 0, .long 0, .int 0, .int 0, .int 0, .int 0, .ref 99, .int 0, .int 0, .int 0, .ref 100, .ref 101, .ref 102, .ref 103, .ref 104, .ref 105, .ref 106, .ref 107, .ref 108, .ref 109, .ref 110, .ref 111, .ref 112, .ref 113, .ref 114, .int 0, .int 0, .int 0, .long 0, .long 0, .int 0, .ref 115, .ref 116, .int 0])) (mr := zm_m261) rfl rfl (zh_put ((K 55 (by decide) (by decide)).trans (zp_o F 10 rfl)) rfl rfl) (fun he1 e1 => ?_)
  refine zy_n 4 (mr := zm_m261) (pc' := 11) (ls' := [(0, .ref 55), (1, .int a1), (2, .int a2)]) (st' := [.long 3, .long 0, .long a1.toInt64]) rfl rfl ?_
  refine zy_c (mc := zm_m183) (mr := zm_m261) rfl rfl rfl rfl rfl (zm_Y.mono (zk_in a1 0 3 rfl (by decide) (by decide)) ?_)
  rintro r h1 ⟨rfl, ⟨rfl, hc2⟩ | ⟨rfl, hc2⟩⟩
  · skip
    refine zy_b (q := (17, [])) (mr := zm_m261) rfl rfl rfl ?_
    refine zy_n 4 (mr := zm_m261) (pc' := 23) (ls' := [(0, .ref 55), (1, .int a1), (2, .int a2)]) (st' := [.long 3, .long 0, .long a2.toInt64]) rfl rfl ?_
    refine zy_c (mc := zm_m183) (mr := zm_m261) rfl rfl rfl rfl rfl (zm_Y.mono (zk_in a2 0 3 rfl (by decide) (by decide)) ?_)
    rintro r h1 ⟨rfl, ⟨rfl, hc3⟩ | ⟨rfl, hc3⟩⟩
    · skip
      refine zy_b (q := (32, [])) (mr := zm_m261) rfl rfl rfl ?_
      refine zy_n 1 (mr := zm_m261) (pc' := 33) (ls' := [(0, .ref 55), (1, .int a1), (2, .int a2)]) (st' := [.ref 55]) rfl rfl ?_
      refine zy_h (mr := zm_m261) rfl rfl (zh_get (v := .ref 93) (zs_eqE e1 ((K 55 (by decide) (by decide)).trans (zp_o F 10 rfl))) rfl) ?_
      refine zy_n 5 (mr := zm_m261) (pc' := 41) (ls' := [(0, .ref 55), (1, .int a1), (2, .int a2)]) (st' := [.int ((4 * a1) + a2), .ref 93]) rfl rfl ?_
      refine zy_h (mr := zm_m261) rfl rfl (zh_iald (v := (-1)) (zs_neE e1 ((K 93 (by decide) (by decide)).trans (zp_i F 68 rfl)) (by decide)) (zl_2b hc2 hc3).1 (zp_iall F 68 rfl (v := (-1)) (by decide) (by decide) (zl_2b hc2 hc3).2)) ?_
      refine zy_n 1 (mr := zm_m261) (pc' := 43) (ls' := [(0, .ref 55), (1, .int a1), (2, .int a2)]) (st' := [.ref 55, .int (-1)]) rfl rfl ?_
      refine zy_h (mr := zm_m261) rfl rfl (zh_get (v := .int 0) (zs_eqE e1 ((K 55 (by decide) (by decide)).trans (zp_o F 10 rfl))) rfl) ?_
      refine zy_b (q := (52, [])) (mr := zm_m261) rfl rfl rfl ?_
      refine zy_n 6 (mr := zm_m261) (pc' := 60) (ls' := [(4, .int 0), (3, .int 0), (0, .ref 55), (1, .int a1), (2, .int a2)]) (st' := [.ref 55, .int 0]) rfl rfl ?_
      refine zy_h (mr := zm_m261) rfl rfl (zh_get (v := .int 0) (zs_eqE e1 ((K 55 (by decide) (by decide)).trans (zp_o F 10 rfl))) rfl) ?_
      refine zy_b (q := (101, [])) (mr := zm_m261) rfl rfl rfl ?_
      refine zy_n 1 (mr := zm_m261) (pc' := 102) (ls' := [(4, .int 0), (3, .int 0), (0, .ref 55), (1, .int a1), (2, .int a2)]) (st' := [.ref 55]) rfl rfl ?_
      refine zy_h (mr := zm_m261) rfl rfl (zh_get (v := .int 0) (zs_eqE e1 ((K 55 (by decide) (by decide)).trans (zp_o F 10 rfl))) rfl) ?_
      refine zy_n 3 (mr := zm_m261) (pc' := 110) (ls' := [(4, .int 0), (3, .int 0), (0, .ref 55), (1, .int a1), (2, .int a2)]) (st' := [.int 1200, .int 0]) rfl rfl ?_
      refine zy_b (q := (116, [])) (mr := zm_m261) rfl rfl rfl ?_
      refine zy_n 1 (mr := zm_m261) (pc' := 117) (ls' := [(4, .int 0), (3, .int 0), (0, .ref 55), (1, .int a1), (2, .int a2)]) (st' := [.ref 55]) rfl rfl ?_
      refine zy_h (mr := zm_m261) rfl rfl (zh_get (v := .ref 93) (zs_eqE e1 ((K 55 (by decide) (by decide)).trans (zp_o F 10 rfl))) rfl) ?_
      refine zy_n 6 (mr := zm_m261) (pc' := 126) (ls' := [(4, .int 0), (3, .int 0), (0, .ref 55), (1, .int a1), (2, .int a2)]) (st' := [.ref 55, .int ((4 * a1) + a2), .ref 93]) rfl rfl ?_
      refine zy_h (mr := zm_m261) rfl rfl (zh_get (v := .int 0) (zs_eqE e1 ((K 55 (by decide) (by decide)).trans (zp_o F 10 rfl))) rfl) ?_
      refine zy_hS (x := _) (mr := zm_m261) rfl rfl (zh_iast (zs_neE e1 ((K 93 (by decide) (by decide)).trans (zp_i F 68 rfl)) (by decide)) (zl_2b hc2 hc3).1) (fun he4 e4 => ?_)
      refine zy_n 2 (mr := zm_m261) (pc' := 132) (ls' := [(4, .int 0), (3, .int 0), (0, .ref 55), (1, .int a1), (2, .int a2)]) (st' := [.ref 55, .ref 55]) rfl rfl ?_
      have k5 := (zs_neE e4 (zs_eqE e1 ((K 55 (by decide) (by decide)).trans (zp_o F 10 rfl))) (by decide))
      refine zy_h (mr := zm_m261) rfl rfl (zh_get (v := .int 0) k5 rfl) ?_
      refine zy_c (mc := zm_m233) (mr := zm_m261) rfl rfl (zh_v rfl k5 rfl) rfl rfl ?_
      refine zy_n 6 (mr := zm_m233) (pc' := 6) (ls' := [(3, .int 0), (2, .int (-1)), (0, .ref 55), (1, .int 0)]) (st' := [.ref 55, .int 0]) rfl rfl ?_
      refine zy_h (mr := zm_m233) rfl rfl (zh_get (v := .int 0) k5 rfl) ?_
      refine zy_b (q := (50, [])) (mr := zm_m233) rfl rfl rfl ?_
      refine zy_n 1 (mr := zm_m233) (pc' := 51) (ls' := [(3, .int 0), (2, .int (-1)), (0, .ref 55), (1, .int 0)]) (st' := [.int (-1)]) rfl rfl ?_
      refine zy_r (mr := zm_m233) rfl rfl rfl ?_
      refine zy_n 5 (mr := zm_m261) (pc' := 146) (ls' := [(5, .int 0), (4, .int (-1)), (3, .int 0), (0, .ref 55), (1, .int a1), (2, .int a2)]) (st' := [.ref 55, .int 0]) rfl rfl ?_
      refine zy_h (mr := zm_m261) rfl rfl (zh_get (v := .int 0) k5 rfl) ?_
      refine zy_b (q := (210, [])) (mr := zm_m261) rfl rfl rfl ?_
      refine zy_n 1 (mr := zm_m261) (pc' := 211) (ls' := [(5, .int 0), (4, .int (-1)), (3, .int 0), (0, .ref 55), (1, .int a1), (2, .int a2)]) (st' := [.int 0]) rfl rfl ?_
      refine zy_r (mr := zm_m261) rfl rfl rfl ?_
      refine ⟨⟨_, rfl, ?_⟩, Nat.le_trans (zs_lleE e4 (zs_lleE e1 KL)) (by decide), Nat.le_trans (zs_szleE (w := 16) e4 (zs_neE e1 ((K 93 (by decide) (by decide)).trans (zp_i F 68 rfl)) (by decide)) rfl rfl (zs_szleE (w := 109) e1 ((K 55 (by decide) (by decide)).trans (zp_o F 10 rfl)) rfl rfl KS)) (by decide)⟩
      first | (simp [zf_24, hc2, hc3]; done) | (simp [zf_24, hc2, hc3]; unfold zw; decide)
    · skip
      refine zy_b (q := (29, [])) (mr := zm_m261) rfl rfl rfl ?_
      refine zy_n 1 (mr := zm_m261) (pc' := 31) (ls' := [(0, .ref 55), (1, .int a1), (2, .int a2)]) (st' := [.int (-2)]) rfl rfl ?_
      as_aux_lemma =>
        refine zy_r (mr := zm_m261) rfl rfl rfl ?_
        refine ⟨⟨_, rfl, ?_⟩, Nat.le_trans (zs_lleE e1 KL) (by decide), Nat.le_trans (zs_szleE (w := 109) e1 ((K 55 (by decide) (by decide)).trans (zp_o F 10 rfl)) rfl rfl KS) (by decide)⟩
        first | (simp [zf_24, hc2, hc3]; done) | (simp [zf_24, hc2, hc3]; unfold zw; decide)
  · skip
    refine zy_b (q := (29, [])) (mr := zm_m261) rfl rfl rfl ?_
    refine zy_n 1 (mr := zm_m261) (pc' := 31) (ls' := [(0, .ref 55), (1, .int a1), (2, .int a2)]) (st' := [.int (-2)]) rfl rfl ?_
    refine zy_r (mr := zm_m261) rfl rfl rfl ?_
    refine ⟨⟨_, rfl, ?_⟩, Nat.le_trans (zs_lleE e1 KL) (by decide), Nat.le_trans (zs_szleE (w := 109) e1 ((K 55 (by decide) (by decide)).trans (zp_o F 10 rfl)) rfl rfl KS) (by decide)⟩
    first | (simp [zf_24, hc2]; done) | (simp [zf_24, hc2]; unfold zw; decide)
set_option maxHeartbeats 4000000 in
set_option maxRecDepth 20000 in
theorem zn_25 {og : Nat → Option zm_C} {h h0 : zm_H} (F : zp_ck h = true) (K : ∀ k : Nat, 55 ≤ k → k < 117 → h0[k]? = h[k]?) (KL : h0.length ≤ 200) (KS : zm_szs h0 ≤ 90000) (a1 : Int32) (a2 : Int32) : zm_Y og 30 263 0 [(0, .ref 55), (1, .int a1), (2, .int a2)] [] h0 (fun r h1 => (∃ v, r = some (.int v) ∧ zf_25 a1 a2 v) ∧ h1.length ≤ 300 ∧ zm_szs h1 ≤ 200000) := by
  refine zy_n 2 (mr := zm_m263) (pc' := 2) (ls' := [(0, .ref 55), (1, .int a1), (2, .int a2)]) (st' := [.int 0, .ref 55]) rfl rfl ?_
  refine zy_hS (x := .inr (11, [.int 0, .ref 56, .ref 57, .ref 58, .ref 59, .int 0, .int 0, .int 0, .int 0, .int 0, .int 0, .int 20, .int 30, .int 5, .int 2, .ref 60, .ref 61, .ref 62, .ref 63, .ref 64, .ref 65, .ref 66, .ref 67, .ref 68, .ref 69, .ref 70, .ref 71, .ref 72, .ref 73, .ref 74, .ref 75, .ref 76, .ref 77, .ref 78, .ref 79, .ref 80, .ref 81, .ref 82, .ref 83, .ref 84, .ref 85, .ref 86, .ref 87, .ref 88, .ref 89, .ref 90, .ref 91, .ref 92, .ref 93, .ref 94, .int 0, .int (-1), .ref 95, .ref 96, .ref 97, .ref 98, .int 0, .int 0, .int 0, .int 0, .int 0, .int 0, .int 0, .int 0, .int 0, .int 0, .int 0, .int 0, .int 0, .long 0, .int 0, .int 0, .int 0, .long 0, .long 0, .long 0, .long 0, .int 0, .int 0, .int 0, .int 0, .ref 99, .int 0, .int 0, .int 0, .ref 100, .ref 101, .ref 102, .ref 103, .ref 104, .ref 105, .ref 106, .ref 107, .ref 108, .ref 109, .ref 110, .ref 111, .ref 112, .ref 113, .ref 114, .int 0, .int 0, .int 0, .long 0, .long 0, .int 0, .ref 115, .ref 116, .int 0])) (mr := zm_m263) rfl rfl (zh_put ((K 55 (by decide) (by decide)).trans (zp_o F 10 rfl)) rfl rfl) (fun he1 e1 => ?_)
  refine zy_n 4 (mr := zm_m263) (pc' := 11) (ls' := [(0, .ref 55), (1, .int a1), (2, .int a2)]) (st' := [.long 3, .long 0, .long a1.toInt64]) rfl rfl ?_
  refine zy_c (mc := zm_m183) (mr := zm_m263) rfl rfl rfl rfl rfl (zm_Y.mono (zk_in a1 0 3 rfl (by decide) (by decide)) ?_)
  rintro r h1 ⟨rfl, ⟨rfl, hc2⟩ | ⟨rfl, hc2⟩⟩
  · skip
    refine zy_b (q := (17, [])) (mr := zm_m263) rfl rfl rfl ?_
    refine zy_n 2 (mr := zm_m263) (pc' := 19) (ls' := [(0, .ref 55), (1, .int a1), (2, .int a2)]) (st' := [.int a2, .ref 55]) rfl rfl ?_
    refine zy_c (mc := zm_m192) (mr := zm_m263) rfl rfl (zh_v rfl (zs_eqE e1 ((K 55 (by decide) (by decide)).trans (zp_o F 10 rfl))) rfl) rfl rfl ?_
    refine zy_n 2 (mr := zm_m192) (pc' := 2) (ls' := [(0, .ref 55), (1, .int a2)]) (st' := [.int a2, .ref 55]) rfl rfl ?_
    refine zy_c (mc := zm_m193) (mr := zm_m192) rfl rfl (zh_v rfl (zs_eqE e1 ((K 55 (by decide) (by decide)).trans (zp_o F 10 rfl))) rfl) rfl rfl ?_
    refine zy_n 4 (mr := zm_m193) (pc' := 4) (ls' := [(0, .ref 55), (1, .int a2)]) (st' := [.ref 55, .long 0, .long a2.toInt64]) rfl rfl ?_
    refine zy_h (mr := zm_m193) rfl rfl (zh_get (v := .int 0) (zs_eqE e1 ((K 55 (by decide) (by decide)).trans (zp_o F 10 rfl))) rfl) ?_
    refine zy_n 3 (mr := zm_m193) (pc' := 10) (ls' := [(0, .ref 55), (1, .int a2)]) (st' := [.long (-1), .long 0, .long a2.toInt64]) rfl rfl ?_
    refine zy_c (mc := zm_m183) (mr := zm_m193) rfl rfl rfl rfl rfl (zm_Y.mono (zk_in a2 0 (-1) rfl (by decide) (by decide)) ?_)
    rintro r h1 ⟨rfl, ⟨rfl, hc3⟩ | ⟨rfl, hc3⟩⟩
    · exact absurd hc3 (zl_emp (by decide))
    refine zy_r (mr := zm_m193) rfl rfl rfl ?_
    refine zy_b (q := (21, [])) (mr := zm_m192) rfl rfl rfl ?_
    refine zy_n 1 (mr := zm_m192) (pc' := 22) (ls' := [(0, .ref 55), (1, .int a2)]) (st' := [.int 0]) rfl rfl ?_
    refine zy_r (mr := zm_m192) rfl rfl rfl ?_
    refine zy_b (q := (25, [])) (mr := zm_m263) rfl rfl rfl ?_
    refine zy_n 1 (mr := zm_m263) (pc' := 28) (ls' := [(0, .ref 55), (1, .int a1), (2, .int a2)]) (st' := [.int (-1000000)]) rfl rfl ?_
    refine zy_r (mr := zm_m263) rfl rfl rfl ?_
    refine ⟨⟨_, rfl, ?_⟩, Nat.le_trans (zs_lleE e1 KL) (by decide), Nat.le_trans (zs_szleE (w := 109) e1 ((K 55 (by decide) (by decide)).trans (zp_o F 10 rfl)) rfl rfl KS) (by decide)⟩
    first | (simp [zf_25, hc2]; done) | (simp [zf_25, hc2]; unfold zw; decide)
  · skip
    refine zy_b (q := (25, [])) (mr := zm_m263) rfl rfl rfl ?_
    refine zy_n 1 (mr := zm_m263) (pc' := 28) (ls' := [(0, .ref 55), (1, .int a1), (2, .int a2)]) (st' := [.int (-1000000)]) rfl rfl ?_
    refine zy_r (mr := zm_m263) rfl rfl rfl ?_
    refine ⟨⟨_, rfl, ?_⟩, Nat.le_trans (zs_lleE e1 KL) (by decide), Nat.le_trans (zs_szleE (w := 109) e1 ((K 55 (by decide) (by decide)).trans (zp_o F 10 rfl)) rfl rfl KS) (by decide)⟩
    first | (simp [zf_25, hc2]; done) | (simp [zf_25, hc2]; unfold zw; decide)
set_option maxHeartbeats 4000000 in
set_option maxRecDepth 20000 in
theorem zn_26 {og : Nat → Option zm_C} {h h0 : zm_H} (F : zp_ck h = true) (K : ∀ k : Nat, 55 ≤ k → k < 117 → h0[k]? = h[k]?) (KL : h0.length ≤ 200) (KS : zm_szs h0 ≤ 90000) (a1 : Int32) (a2 : Int32) : zm_Y og 30 265 0 [(0, .ref 55), (1, .int a1), (2, .int a2)] [] h0 (fun r h1 => (∃ v, r = some (.int v) ∧ zf_26 a1 a2 v) ∧ h1.length ≤ 300 ∧ zm_szs h1 ≤ 200000) := by
  refine zy_n 2 (mr := zm_m265) (pc' := 2) (ls' := [(0, .ref 55), (1, .int a1), (2, .int a2)]) (st' := [.int 0, .ref 55]) rfl rfl ?_
  refine zy_hS (x := .inr (11, [.int 0, .ref 56, .ref 57, .ref 58, .ref 59, .int 0, .int 0, .int 0, .int 0, .int 0, .int 0, .int 20, .int 30, .int 5, .int 2, .ref 60, .ref 61, .ref 62, .ref 63, .ref 64, .ref 65, .ref 66, .ref 67, .ref 68, .ref 69, .ref 70, .ref 71, .ref 72, .ref 73, .ref 74, .ref 75, .ref 76, .ref 77, .ref 78, .ref 79, .ref 80, .ref 81, .ref 82, .ref 83, .ref 84, .ref 85, .ref 86, .ref 87, .ref 88, .ref 89, .ref 90, .ref 91, .ref 92, .ref 93, .ref 94, .int 0, .int (-1), .ref 95, .ref 96, .ref 97, .ref 98, .int 0, .int 0, .int 0, .int 0, .int 0, .int 0, .int 0, .int 0, .int 0, .int 0, .int 0, .int 0, .int 0, .long 0, .int 0, .int 0, .int 0, .long 0, .long 0, .long 0, .long 0, .int 0, .int 0, .int 0, .int 0, .ref 99, .int 0, .int 0, .int 0, .ref 100, .ref 101, .ref 102, .ref 103, .ref 104, .ref 105, .ref 106, .ref 107, .ref 108, .ref 109, .ref 110, .ref 111, .ref 112, .ref 113, .ref 114, .int 0, .int 0, .int 0, .long 0, .long 0, .int 0, .ref 115, .ref 116, .int 0])) (mr := zm_m265) rfl rfl (zh_put ((K 55 (by decide) (by decide)).trans (zp_o F 10 rfl)) rfl rfl) (fun he1 e1 => ?_)
  refine zy_n 4 (mr := zm_m265) (pc' := 11) (ls' := [(0, .ref 55), (1, .int a1), (2, .int a2)]) (st' := [.long 3, .long 0, .long a1.toInt64]) rfl rfl ?_
  refine zy_c (mc := zm_m183) (mr := zm_m265) rfl rfl rfl rfl rfl (zm_Y.mono (zk_in a1 0 3 rfl (by decide) (by decide)) ?_)
  rintro r h1 ⟨rfl, ⟨rfl, hc2⟩ | ⟨rfl, hc2⟩⟩
  · skip
    refine zy_b (q := (17, [])) (mr := zm_m265) rfl rfl rfl ?_
    refine zy_n 4 (mr := zm_m265) (pc' := 23) (ls' := [(0, .ref 55), (1, .int a1), (2, .int a2)]) (st' := [.long 500, .long 0, .long a2.toInt64]) rfl rfl ?_
    refine zy_c (mc := zm_m183) (mr := zm_m265) rfl rfl rfl rfl rfl (zm_Y.mono (zk_in a2 0 500 rfl (by decide) (by decide)) ?_)
    rintro r h1 ⟨rfl, ⟨rfl, hc3⟩ | ⟨rfl, hc3⟩⟩
    · skip
      refine zy_b (q := (32, [])) (mr := zm_m265) rfl rfl rfl ?_
      refine zy_n 2 (mr := zm_m265) (pc' := 34) (ls' := [(0, .ref 55), (1, .int a1), (2, .int a2)]) (st' := [.ref 55, .ref 55]) rfl rfl ?_
      refine zy_h (mr := zm_m265) rfl rfl (zh_get (v := .int 0) (zs_eqE e1 ((K 55 (by decide) (by decide)).trans (zp_o F 10 rfl))) rfl) ?_
      refine zy_c (mc := zm_m233) (mr := zm_m265) rfl rfl (zh_v rfl (zs_eqE e1 ((K 55 (by decide) (by decide)).trans (zp_o F 10 rfl))) rfl) rfl rfl ?_
      refine zy_n 6 (mr := zm_m233) (pc' := 6) (ls' := [(3, .int 0), (2, .int (-1)), (0, .ref 55), (1, .int 0)]) (st' := [.ref 55, .int 0]) rfl rfl ?_
      refine zy_h (mr := zm_m233) rfl rfl (zh_get (v := .int 0) (zs_eqE e1 ((K 55 (by decide) (by decide)).trans (zp_o F 10 rfl))) rfl) ?_
      refine zy_b (q := (50, [])) (mr := zm_m233) rfl rfl rfl ?_
      refine zy_n 1 (mr := zm_m233) (pc' := 51) (ls' := [(3, .int 0), (2, .int (-1)), (0, .ref 55), (1, .int 0)]) (st' := [.int (-1)]) rfl rfl ?_
      refine zy_r (mr := zm_m233) rfl rfl rfl ?_
      refine zy_n 7 (mr := zm_m265) (pc' := 50) (ls' := [(5, .int 0), (4, .int 0), (3, .int (-1)), (0, .ref 55), (1, .int a1), (2, .int a2)]) (st' := [.ref 55, .int 0]) rfl rfl ?_
      refine zy_h (mr := zm_m265) rfl rfl (zh_get (v := .int 0) (zs_eqE e1 ((K 55 (by decide) (by decide)).trans (zp_o F 10 rfl))) rfl) ?_
      refine zy_b (q := (179, [])) (mr := zm_m265) rfl rfl rfl ?_
      refine zy_n 10 (mr := zm_m265) (pc' := 195) (ls' := [(9, .int 0), (8, .int 0), (6, .long 0), (5, .int 0), (4, .int 0), (3, .int (-1)), (0, .ref 55), (1, .int a1), (2, .int a2)]) (st' := [.int 0, .int 0]) rfl rfl ?_
      refine zy_b (q := (198, [])) (mr := zm_m265) rfl rfl rfl ?_
      refine zy_n 5 (mr := zm_m265) (pc' := 205) (ls' := [(9, .int 0), (8, .int 0), (6, .long 0), (5, .int 0), (4, .int 0), (3, .int (-1)), (0, .ref 55), (1, .int a1), (2, .int a2)]) (st' := [.int 0]) rfl rfl ?_
      refine zy_b (q := (211, [])) (mr := zm_m265) rfl rfl rfl ?_
      refine zy_n 8 (mr := zm_m265) (pc' := 223) (ls' := [(13, .int 0), (12, .int 0), (10, .long 0), (9, .int 0), (8, .int 0), (6, .long 0), (5, .int 0), (4, .int 0), (3, .int (-1)), (0, .ref 55), (1, .int a1), (2, .int a2)]) (st' := [.ref 55, .int 0]) rfl rfl ?_
      refine zy_h (mr := zm_m265) rfl rfl (zh_get (v := .int 0) (zs_eqE e1 ((K 55 (by decide) (by decide)).trans (zp_o F 10 rfl))) rfl) ?_
      refine zy_b (q := (289, [])) (mr := zm_m265) rfl rfl rfl ?_
      refine zy_n 2 (mr := zm_m265) (pc' := 292) (ls' := [(13, .int 0), (12, .int 0), (10, .long 0), (9, .int 0), (8, .int 0), (6, .long 0), (5, .int 0), (4, .int 0), (3, .int (-1)), (0, .ref 55), (1, .int a1), (2, .int a2)]) (st' := [.int a2, .int 0]) rfl rfl ?_
      refine zy_b (mr := zm_m265) rfl rfl rfl (zc_gt (fun hc4 => ?_) (fun hc4 => ?_))
      · skip
        refine zy_n 4 (mr := zm_m265) (pc' := 195) (ls' := [(9, .int 1), (13, .int 0), (12, .int 0), (10, .long 0), (8, .int 0), (6, .long 0), (5, .int 0), (4, .int 0), (3, .int (-1)), (0, .ref 55), (1, .int a1), (2, .int a2)]) (st' := [.int 0, .int 1]) rfl rfl ?_
        refine zy_b (q := (339, [])) (mr := zm_m265) rfl rfl rfl ?_
        refine zy_n 1 (mr := zm_m265) (pc' := 341) (ls' := [(9, .int 1), (13, .int 0), (12, .int 0), (10, .long 0), (8, .int 0), (6, .long 0), (5, .int 0), (4, .int 0), (3, .int (-1)), (0, .ref 55), (1, .int a1), (2, .int a2)]) (st' := [.int 0]) rfl rfl ?_
        refine zy_r (mr := zm_m265) rfl rfl rfl ?_
        refine ⟨⟨_, rfl, ?_⟩, Nat.le_trans (zs_lleE e1 KL) (by decide), Nat.le_trans (zs_szleE (w := 109) e1 ((K 55 (by decide) (by decide)).trans (zp_o F 10 rfl)) rfl rfl KS) (by decide)⟩
        first | (simp [zf_26, hc2, hc3, hc4]; done) | (simp [zf_26, hc2, hc3, hc4]; unfold zw; decide)
      · skip
        refine zy_n 3 (mr := zm_m265) (pc' := 300) (ls' := [(13, .int 0), (12, .int 0), (10, .long 0), (9, .int 0), (8, .int 0), (6, .long 0), (5, .int 0), (4, .int 0), (3, .int (-1)), (0, .ref 55), (1, .int a1), (2, .int a2)]) (st' := [.int 0]) rfl rfl ?_
        refine zy_b (q := (303, [])) (mr := zm_m265) rfl rfl rfl ?_
        refine zy_n 3 (mr := zm_m265) (pc' := 308) (ls' := [(13, .int 0), (12, .int 0), (10, .long 0), (9, .int 0), (8, .int 0), (6, .long 0), (5, .int 0), (4, .int 0), (3, .int (-1)), (0, .ref 55), (1, .int a1), (2, .int a2)]) (st' := [.int 0]) rfl rfl ?_
        refine zy_b (q := (311, [])) (mr := zm_m265) rfl rfl rfl ?_
        refine zy_n 2 (mr := zm_m265) (pc' := 315) (ls' := [(13, .int 0), (12, .int 0), (10, .long 0), (9, .int 0), (8, .int 0), (6, .long 0), (5, .int 0), (4, .int 0), (3, .int (-1)), (0, .ref 55), (1, .int a1), (2, .int a2)]) (st' := [.int 0, .int 0]) rfl rfl ?_
        refine zy_b (q := (318, [])) (mr := zm_m265) rfl rfl rfl ?_
        refine zy_n 5 (mr := zm_m265) (pc' := 195) (ls' := [(9, .int 1), (13, .int 0), (12, .int 0), (10, .long 0), (8, .int 0), (6, .long 0), (5, .int 0), (4, .int 0), (3, .int (-1)), (0, .ref 55), (1, .int a1), (2, .int a2)]) (st' := [.int 0, .int 1]) rfl rfl ?_
        refine zy_b (q := (339, [])) (mr := zm_m265) rfl rfl rfl ?_
        refine zy_n 1 (mr := zm_m265) (pc' := 341) (ls' := [(9, .int 1), (13, .int 0), (12, .int 0), (10, .long 0), (8, .int 0), (6, .long 0), (5, .int 0), (4, .int 0), (3, .int (-1)), (0, .ref 55), (1, .int a1), (2, .int a2)]) (st' := [.int 0]) rfl rfl ?_
        refine zy_r (mr := zm_m265) rfl rfl rfl ?_
        refine ⟨⟨_, rfl, ?_⟩, Nat.le_trans (zs_lleE e1 KL) (by decide), Nat.le_trans (zs_szleE (w := 109) e1 ((K 55 (by decide) (by decide)).trans (zp_o F 10 rfl)) rfl rfl KS) (by decide)⟩
        first | (simp [zf_26, hc2, hc3, hc4]; done) | (simp [zf_26, hc2, hc3, hc4]; unfold zw; decide)
    · skip
      as_aux_lemma =>
        refine zy_b (q := (29, [])) (mr := zm_m265) rfl rfl rfl ?_
        refine zy_n 1 (mr := zm_m265) (pc' := 31) (ls' := [(0, .ref 55), (1, .int a1), (2, .int a2)]) (st' := [.int (-2)]) rfl rfl ?_
        refine zy_r (mr := zm_m265) rfl rfl rfl ?_
        refine ⟨⟨_, rfl, ?_⟩, Nat.le_trans (zs_lleE e1 KL) (by decide), Nat.le_trans (zs_szleE (w := 109) e1 ((K 55 (by decide) (by decide)).trans (zp_o F 10 rfl)) rfl rfl KS) (by decide)⟩
        first | (simp [zf_26, hc2, hc3]; done) | (simp [zf_26, hc2, hc3]; unfold zw; decide)
  · skip
    refine zy_b (q := (29, [])) (mr := zm_m265) rfl rfl rfl ?_
    refine zy_n 1 (mr := zm_m265) (pc' := 31) (ls' := [(0, .ref 55), (1, .int a1), (2, .int a2)]) (st' := [.int (-2)]) rfl rfl ?_
    refine zy_r (mr := zm_m265) rfl rfl rfl ?_
    refine ⟨⟨_, rfl, ?_⟩, Nat.le_trans (zs_lleE e1 KL) (by decide), Nat.le_trans (zs_szleE (w := 109) e1 ((K 55 (by decide) (by decide)).trans (zp_o F 10 rfl)) rfl rfl KS) (by decide)⟩
    first | (simp [zf_26, hc2]; done) | (simp [zf_26, hc2]; unfold zw; decide)
set_option maxHeartbeats 4000000 in
set_option maxRecDepth 20000 in
theorem zn_27 {og : Nat → Option zm_C} {h h0 : zm_H} (F : zp_ck h = true) (K : ∀ k : Nat, 55 ≤ k → k < 117 → h0[k]? = h[k]?) (KL : h0.length ≤ 200) (KS : zm_szs h0 ≤ 90000) (a1 : Int32) (a2 : Int32) (a3 : Int32) : zm_Y og 30 266 0 [(0, .ref 55), (1, .int a1), (2, .int a2), (3, .int a3)] [] h0 (fun r h1 => (∃ v, r = some (.int v) ∧ zf_27 a1 a2 a3 v) ∧ h1.length ≤ 300 ∧ zm_szs h1 ≤ 200000) := by
  refine zy_n 2 (mr := zm_m266) (pc' := 2) (ls' := [(0, .ref 55), (1, .int a1), (2, .int a2), (3, .int a3)]) (st' := [.int 0, .ref 55]) rfl rfl ?_
  refine zy_hS (x := .inr (11, [.int 0, .ref 56, .ref 57, .ref 58, .ref 59, .int 0, .int 0, .int 0, .int 0, .int 0, .int 0, .int 20, .int 30, .int 5, .int 2, .ref 60, .ref 61, .ref 62, .ref 63, .ref 64, .ref 65, .ref 66, .ref 67, .ref 68, .ref 69, .ref 70, .ref 71, .ref 72, .ref 73, .ref 74, .ref 75, .ref 76, .ref 77, .ref 78, .ref 79, .ref 80, .ref 81, .ref 82, .ref 83, .ref 84, .ref 85, .ref 86, .ref 87, .ref 88, .ref 89, .ref 90, .ref 91, .ref 92, .ref 93, .ref 94, .int 0, .int (-1), .ref 95, .ref 96, .ref 97, .ref 98, .int 0, .int 0, .int 0, .int 0, .int 0, .int 0, .int 0, .int 0, .int 0, .int 0, .int 0, .int 0, .int 0, .long 0, .int 0, .int 0, .int 0, .long 0, .long 0, .long 0, .long 0, .int 0, .int 0, .int 0, .int 0, .ref 99, .int 0, .int 0, .int 0, .ref 100, .ref 101, .ref 102, .ref 103, .ref 104, .ref 105, .ref 106, .ref 107, .ref 108, .ref 109, .ref 110, .ref 111, .ref 112, .ref 113, .ref 114, .int 0, .int 0, .int 0, .long 0, .long 0, .int 0, .ref 115, .ref 116, .int 0])) (mr := zm_m266) rfl rfl (zh_put ((K 55 (by decide) (by decide)).trans (zp_o F 10 rfl)) rfl rfl) (fun he1 e1 => ?_)
  refine zy_n 2 (mr := zm_m266) (pc' := 7) (ls' := [(0, .ref 55), (1, .int a1), (2, .int a2), (3, .int a3)]) (st' := [.int a1, .ref 55]) rfl rfl ?_
  refine zy_c (mc := zm_m193) (mr := zm_m266) rfl rfl (zh_v rfl (zs_eqE e1 ((K 55 (by decide) (by decide)).trans (zp_o F 10 rfl))) rfl) rfl rfl ?_
  refine zy_n 4 (mr := zm_m193) (pc' := 4) (ls' := [(0, .ref 55), (1, .int a1)]) (st' := [.ref 55, .long 0, .long a1.toInt64]) rfl rfl ?_
  refine zy_h (mr := zm_m193) rfl rfl (zh_get (v := .int 0) (zs_eqE e1 ((K 55 (by decide) (by decide)).trans (zp_o F 10 rfl))) rfl) ?_
  refine zy_n 3 (mr := zm_m193) (pc' := 10) (ls' := [(0, .ref 55), (1, .int a1)]) (st' := [.long (-1), .long 0, .long a1.toInt64]) rfl rfl ?_
  refine zy_c (mc := zm_m183) (mr := zm_m193) rfl rfl rfl rfl rfl (zm_Y.mono (zk_in a1 0 (-1) rfl (by decide) (by decide)) ?_)
  rintro r h1 ⟨rfl, ⟨rfl, hc2⟩ | ⟨rfl, hc2⟩⟩
  · exact absurd hc2 (zl_emp (by decide))
  refine zy_r (mr := zm_m193) rfl rfl rfl ?_
  refine zy_b (q := (41, [])) (mr := zm_m266) rfl rfl rfl ?_
  refine zy_n 1 (mr := zm_m266) (pc' := 43) (ls' := [(0, .ref 55), (1, .int a1), (2, .int a2), (3, .int a3)]) (st' := [.int (-2)]) rfl rfl ?_
  refine zy_r (mr := zm_m266) rfl rfl rfl ?_
  refine ⟨⟨_, rfl, ?_⟩, Nat.le_trans (zs_lleE e1 KL) (by decide), Nat.le_trans (zs_szleE (w := 109) e1 ((K 55 (by decide) (by decide)).trans (zp_o F 10 rfl)) rfl rfl KS) (by decide)⟩
  first | (simp [zf_27]; done) | (simp [zf_27]; unfold zw; decide)
set_option maxHeartbeats 4000000 in
set_option maxRecDepth 20000 in
theorem zn_28 {og : Nat → Option zm_C} {h h0 : zm_H} (F : zp_ck h = true) (K : ∀ k : Nat, 55 ≤ k → k < 117 → h0[k]? = h[k]?) (KL : h0.length ≤ 200) (KS : zm_szs h0 ≤ 90000)  : zm_Y og 30 267 0 [(0, .ref 55)] [] h0 (fun r h1 => (∃ v, r = some (.long v) ∧ zf_28 v) ∧ h1.length ≤ 300 ∧ zm_szs h1 ≤ 200000) := by
  refine zy_n 2 (mr := zm_m267) (pc' := 2) (ls' := [(0, .ref 55)]) (st' := [.int 0, .ref 55]) rfl rfl ?_
  refine zy_hS (x := .inr (11, [.int 0, .ref 56, .ref 57, .ref 58, .ref 59, .int 0, .int 0, .int 0, .int 0, .int 0, .int 0, .int 20, .int 30, .int 5, .int 2, .ref 60, .ref 61, .ref 62, .ref 63, .ref 64, .ref 65, .ref 66, .ref 67, .ref 68, .ref 69, .ref 70, .ref 71, .ref 72, .ref 73, .ref 74, .ref 75, .ref 76, .ref 77, .ref 78, .ref 79, .ref 80, .ref 81, .ref 82, .ref 83, .ref 84, .ref 85, .ref 86, .ref 87, .ref 88, .ref 89, .ref 90, .ref 91, .ref 92, .ref 93, .ref 94, .int 0, .int (-1), .ref 95, .ref 96, .ref 97, .ref 98, .int 0, .int 0, .int 0, .int 0, .int 0, .int 0, .int 0, .int 0, .int 0, .int 0, .int 0, .int 0, .int 0, .long 0, .int 0, .int 0, .int 0, .long 0, .long 0, .long 0, .long 0, .int 0, .int 0, .int 0, .int 0, .ref 99, .int 0, .int 0, .int 0, .ref 100, .ref 101, .ref 102, .ref 103, .ref 104, .ref 105, .ref 106, .ref 107, .ref 108, .ref 109, .ref 110, .ref 111, .ref 112, .ref 113, .ref 114, .int 0, .int 0, .int 0, .long 0, .long 0, .int 0, .ref 115, .ref 116, .int 0])) (mr := zm_m267) rfl rfl (zh_put ((K 55 (by decide) (by decide)).trans (zp_o F 10 rfl)) rfl rfl) (fun he1 e1 => ?_)
  refine zy_n 1 (mr := zm_m267) (pc' := 6) (ls' := [(0, .ref 55)]) (st' := [.ref 55]) rfl rfl ?_
  refine zy_h (mr := zm_m267) rfl rfl (zh_get (v := .int 0) (zs_eqE e1 ((K 55 (by decide) (by decide)).trans (zp_o F 10 rfl))) rfl) ?_
  refine zy_n 1 (mr := zm_m267) (pc' := 11) (ls' := [(0, .ref 55)]) (st' := [.int 99, .int 0]) rfl rfl ?_
  refine zy_b (q := (18, [])) (mr := zm_m267) rfl rfl rfl ?_
  refine zy_n 2 (mr := zm_m267) (pc' := 20) (ls' := [(0, .ref 55)]) (st' := [.ref 55, .ref 55]) rfl rfl ?_
  refine zy_h (mr := zm_m267) rfl rfl (zh_get (v := .int 0) (zs_eqE e1 ((K 55 (by decide) (by decide)).trans (zp_o F 10 rfl))) rfl) ?_
  refine zy_c (mc := zm_m233) (mr := zm_m267) rfl rfl (zh_v rfl (zs_eqE e1 ((K 55 (by decide) (by decide)).trans (zp_o F 10 rfl))) rfl) rfl rfl ?_
  refine zy_n 6 (mr := zm_m233) (pc' := 6) (ls' := [(3, .int 0), (2, .int (-1)), (0, .ref 55), (1, .int 0)]) (st' := [.ref 55, .int 0]) rfl rfl ?_
  refine zy_h (mr := zm_m233) rfl rfl (zh_get (v := .int 0) (zs_eqE e1 ((K 55 (by decide) (by decide)).trans (zp_o F 10 rfl))) rfl) ?_
  refine zy_b (q := (50, [])) (mr := zm_m233) rfl rfl rfl ?_
  refine zy_n 1 (mr := zm_m233) (pc' := 51) (ls' := [(3, .int 0), (2, .int (-1)), (0, .ref 55), (1, .int 0)]) (st' := [.int (-1)]) rfl rfl ?_
  refine zy_r (mr := zm_m233) rfl rfl rfl ?_
  refine zy_n 7 (mr := zm_m267) (pc' := 35) (ls' := [(4, .int 0), (2, .long 0), (1, .int (-1)), (0, .ref 55)]) (st' := [.ref 55, .int 0]) rfl rfl ?_
  refine zy_h (mr := zm_m267) rfl rfl (zh_get (v := .int 0) (zs_eqE e1 ((K 55 (by decide) (by decide)).trans (zp_o F 10 rfl))) rfl) ?_
  refine zy_b (q := (192, [])) (mr := zm_m267) rfl rfl rfl ?_
  refine zy_n 2 (mr := zm_m267) (pc' := 194) (ls' := [(4, .int 0), (2, .long 0), (1, .int (-1)), (0, .ref 55)]) (st' := [.ref 55, .ref 55]) rfl rfl ?_
  refine zy_h (mr := zm_m267) rfl rfl (zh_get (v := .int 0) (zs_eqE e1 ((K 55 (by decide) (by decide)).trans (zp_o F 10 rfl))) rfl) ?_
  refine zy_n 2 (mr := zm_m267) (pc' := 199) (ls' := [(4, .int 0), (2, .long 0), (1, .int (-1)), (0, .ref 55)]) (st' := [.int 1, .ref 55]) rfl rfl ?_
  refine zy_hS (x := .inr (11, [.int 0, .ref 56, .ref 57, .ref 58, .ref 59, .int 1, .int 0, .int 0, .int 0, .int 0, .int 0, .int 20, .int 30, .int 5, .int 2, .ref 60, .ref 61, .ref 62, .ref 63, .ref 64, .ref 65, .ref 66, .ref 67, .ref 68, .ref 69, .ref 70, .ref 71, .ref 72, .ref 73, .ref 74, .ref 75, .ref 76, .ref 77, .ref 78, .ref 79, .ref 80, .ref 81, .ref 82, .ref 83, .ref 84, .ref 85, .ref 86, .ref 87, .ref 88, .ref 89, .ref 90, .ref 91, .ref 92, .ref 93, .ref 94, .int 0, .int (-1), .ref 95, .ref 96, .ref 97, .ref 98, .int 0, .int 0, .int 0, .int 0, .int 0, .int 0, .int 0, .int 0, .int 0, .int 0, .int 0, .int 0, .int 0, .long 0, .int 0, .int 0, .int 0, .long 0, .long 0, .long 0, .long 0, .int 0, .int 0, .int 0, .int 0, .ref 99, .int 0, .int 0, .int 0, .ref 100, .ref 101, .ref 102, .ref 103, .ref 104, .ref 105, .ref 106, .ref 107, .ref 108, .ref 109, .ref 110, .ref 111, .ref 112, .ref 113, .ref 114, .int 0, .int 0, .int 0, .long 0, .long 0, .int 0, .ref 115, .ref 116, .int 0])) (mr := zm_m267) rfl rfl (zh_put (zs_eqE e1 ((K 55 (by decide) (by decide)).trans (zp_o F 10 rfl))) rfl rfl) (fun he2 e2 => ?_)
  refine zy_n 2 (mr := zm_m267) (pc' := 204) (ls' := [(4, .int 0), (2, .long 0), (1, .int (-1)), (0, .ref 55)]) (st' := [.int 0, .ref 55]) rfl rfl ?_
  refine zy_hS (x := .inr (11, [.int 0, .ref 56, .ref 57, .ref 58, .ref 59, .int 1, .int 0, .int 0, .int 0, .int 0, .int 0, .int 20, .int 30, .int 5, .int 2, .ref 60, .ref 61, .ref 62, .ref 63, .ref 64, .ref 65, .ref 66, .ref 67, .ref 68, .ref 69, .ref 70, .ref 71, .ref 72, .ref 73, .ref 74, .ref 75, .ref 76, .ref 77, .ref 78, .ref 79, .ref 80, .ref 81, .ref 82, .ref 83, .ref 84, .ref 85, .ref 86, .ref 87, .ref 88, .ref 89, .ref 90, .ref 91, .ref 92, .ref 93, .ref 94, .int 0, .int (-1), .ref 95, .ref 96, .ref 97, .ref 98, .int 0, .int 0, .int 0, .int 0, .int 0, .int 0, .int 0, .int 0, .int 0, .int 0, .int 0, .int 0, .int 0, .long 0, .int 0, .int 0, .int 0, .long 0, .long 0, .long 0, .long 0, .int 0, .int 0, .int 0, .int 0, .ref 99, .int 0, .int 0, .int 0, .ref 100, .ref 101, .ref 102, .ref 103, .ref 104, .ref 105, .ref 106, .ref 107, .ref 108, .ref 109, .ref 110, .ref 111, .ref 112, .ref 113, .ref 114, .int 0, .int 0, .int 0, .long 0, .long 0, .int 0, .ref 115, .ref 116, .int 0])) (mr := zm_m267) rfl rfl (zh_put (zs_eqE e2 (zs_eqE e1 ((K 55 (by decide) (by decide)).trans (zp_o F 10 rfl)))) rfl (by decide)) (fun he3 e3 => ?_)
  refine zy_n 1 (mr := zm_m267) (pc' := 208) (ls' := [(4, .int 0), (2, .long 0), (1, .int (-1)), (0, .ref 55)]) (st' := [.long 0]) rfl rfl ?_
  refine zy_r (mr := zm_m267) rfl rfl rfl ?_
  refine ⟨⟨_, rfl, ?_⟩, Nat.le_trans (zs_lleE e3 (zs_lleE e2 (zs_lleE e1 KL))) (by decide), Nat.le_trans (zs_szleE (w := 109) e3 (zs_eqE e2 (zs_eqE e1 ((K 55 (by decide) (by decide)).trans (zp_o F 10 rfl)))) rfl rfl (zs_szleE (w := 109) e2 (zs_eqE e1 ((K 55 (by decide) (by decide)).trans (zp_o F 10 rfl))) rfl rfl (zs_szleE (w := 109) e1 ((K 55 (by decide) (by decide)).trans (zp_o F 10 rfl)) rfl rfl KS))) (by decide)⟩
  first | (simp [zf_28]; done) | (simp [zf_28]; unfold zw; decide)
set_option maxHeartbeats 4000000 in
set_option maxRecDepth 20000 in
theorem zn_29 {og : Nat → Option zm_C} {h h0 : zm_H} (F : zp_ck h = true) (K : ∀ k : Nat, 55 ≤ k → k < 117 → h0[k]? = h[k]?) (KL : h0.length ≤ 200) (KS : zm_szs h0 ≤ 90000) (a1 : Int32) (a2 : Int32) (a3 : Int32) (a4 : Int32) : zm_Y og 30 269 0 [(0, .ref 55), (1, .int a1), (2, .int a2), (3, .int a3), (4, .int a4)] [] h0 (fun r h1 => (∃ v, r = some (.int v) ∧ zf_29 a1 a2 a3 a4 v) ∧ h1.length ≤ 300 ∧ zm_szs h1 ≤ 200000) := by
  refine zy_n 2 (mr := zm_m269) (pc' := 2) (ls' := [(0, .ref 55), (1, .int a1), (2, .int a2), (3, .int a3), (4, .int a4)]) (st' := [.int 0, .ref 55]) rfl rfl ?_
  refine zy_hS (x := .inr (11, [.int 0, .ref 56, .ref 57, .ref 58, .ref 59, .int 0, .int 0, .int 0, .int 0, .int 0, .int 0, .int 20, .int 30, .int 5, .int 2, .ref 60, .ref 61, .ref 62, .ref 63, .ref 64, .ref 65, .ref 66, .ref 67, .ref 68, .ref 69, .ref 70, .ref 71, .ref 72, .ref 73, .ref 74, .ref 75, .ref 76, .ref 77, .ref 78, .ref 79, .ref 80, .ref 81, .ref 82, .ref 83, .ref 84, .ref 85, .ref 86, .ref 87, .ref 88, .ref 89, .ref 90, .ref 91, .ref 92, .ref 93, .ref 94, .int 0, .int (-1), .ref 95, .ref 96, .ref 97, .ref 98, .int 0, .int 0, .int 0, .int 0, .int 0, .int 0, .int 0, .int 0, .int 0, .int 0, .int 0, .int 0, .int 0, .long 0, .int 0, .int 0, .int 0, .long 0, .long 0, .long 0, .long 0, .int 0, .int 0, .int 0, .int 0, .ref 99, .int 0, .int 0, .int 0, .ref 100, .ref 101, .ref 102, .ref 103, .ref 104, .ref 105, .ref 106, .ref 107, .ref 108, .ref 109, .ref 110, .ref 111, .ref 112, .ref 113, .ref 114, .int 0, .int 0, .int 0, .long 0, .long 0, .int 0, .ref 115, .ref 116, .int 0])) (mr := zm_m269) rfl rfl (zh_put ((K 55 (by decide) (by decide)).trans (zp_o F 10 rfl)) rfl rfl) (fun he1 e1 => ?_)
  refine zy_n 2 (mr := zm_m269) (pc' := 7) (ls' := [(0, .ref 55), (1, .int a1), (2, .int a2), (3, .int a3), (4, .int a4)]) (st' := [.int a1, .ref 55]) rfl rfl ?_
  refine zy_c (mc := zm_m193) (mr := zm_m269) rfl rfl (zh_v rfl (zs_eqE e1 ((K 55 (by decide) (by decide)).trans (zp_o F 10 rfl))) rfl) rfl rfl ?_
  refine zy_n 4 (mr := zm_m193) (pc' := 4) (ls' := [(0, .ref 55), (1, .int a1)]) (st' := [.ref 55, .long 0, .long a1.toInt64]) rfl rfl ?_
  refine zy_h (mr := zm_m193) rfl rfl (zh_get (v := .int 0) (zs_eqE e1 ((K 55 (by decide) (by decide)).trans (zp_o F 10 rfl))) rfl) ?_
  refine zy_n 3 (mr := zm_m193) (pc' := 10) (ls' := [(0, .ref 55), (1, .int a1)]) (st' := [.long (-1), .long 0, .long a1.toInt64]) rfl rfl ?_
  refine zy_c (mc := zm_m183) (mr := zm_m193) rfl rfl rfl rfl rfl (zm_Y.mono (zk_in a1 0 (-1) rfl (by decide) (by decide)) ?_)
  rintro r h1 ⟨rfl, ⟨rfl, hc2⟩ | ⟨rfl, hc2⟩⟩
  · exact absurd hc2 (zl_emp (by decide))
  refine zy_r (mr := zm_m193) rfl rfl rfl ?_
  refine zy_b (q := (47, [])) (mr := zm_m269) rfl rfl rfl ?_
  refine zy_n 1 (mr := zm_m269) (pc' := 48) (ls' := [(0, .ref 55), (1, .int a1), (2, .int a2), (3, .int a3), (4, .int a4)]) (st' := [.int (-1)]) rfl rfl ?_
  refine zy_r (mr := zm_m269) rfl rfl rfl ?_
  refine ⟨⟨_, rfl, ?_⟩, Nat.le_trans (zs_lleE e1 KL) (by decide), Nat.le_trans (zs_szleE (w := 109) e1 ((K 55 (by decide) (by decide)).trans (zp_o F 10 rfl)) rfl rfl KS) (by decide)⟩
  first | (simp [zf_29]; done) | (simp [zf_29]; unfold zw; decide)
set_option maxHeartbeats 4000000 in
set_option maxRecDepth 20000 in
theorem zn_30 {og : Nat → Option zm_C} {h h0 : zm_H} (F : zp_ck h = true) (K : ∀ k : Nat, 55 ≤ k → k < 117 → h0[k]? = h[k]?) (KL : h0.length ≤ 200) (KS : zm_szs h0 ≤ 90000) (a1 : Int32) (a2 : Int32) (a3 : Int32) (a4 : Int32) : zm_Y og 30 270 0 [(0, .ref 55), (1, .int a1), (2, .int a2), (3, .int a3), (4, .int a4)] [] h0 (fun r h1 => (∃ v, r = some (.int v) ∧ zf_30 a1 a2 a3 a4 v) ∧ h1.length ≤ 300 ∧ zm_szs h1 ≤ 200000) := by
  refine zy_n 2 (mr := zm_m270) (pc' := 2) (ls' := [(0, .ref 55), (1, .int a1), (2, .int a2), (3, .int a3), (4, .int a4)]) (st' := [.int 0, .ref 55]) rfl rfl ?_
  refine zy_hS (x := .inr (11, [.int 0, .ref 56, .ref 57, .ref 58, .ref 59, .int 0, .int 0, .int 0, .int 0, .int 0, .int 0, .int 20, .int 30, .int 5, .int 2, .ref 60, .ref 61, .ref 62, .ref 63, .ref 64, .ref 65, .ref 66, .ref 67, .ref 68, .ref 69, .ref 70, .ref 71, .ref 72, .ref 73, .ref 74, .ref 75, .ref 76, .ref 77, .ref 78, .ref 79, .ref 80, .ref 81, .ref 82, .ref 83, .ref 84, .ref 85, .ref 86, .ref 87, .ref 88, .ref 89, .ref 90, .ref 91, .ref 92, .ref 93, .ref 94, .int 0, .int (-1), .ref 95, .ref 96, .ref 97, .ref 98, .int 0, .int 0, .int 0, .int 0, .int 0, .int 0, .int 0, .int 0, .int 0, .int 0, .int 0, .int 0, .int 0, .long 0, .int 0, .int 0, .int 0, .long 0, .long 0, .long 0, .long 0, .int 0, .int 0, .int 0, .int 0, .ref 99, .int 0, .int 0, .int 0, .ref 100, .ref 101, .ref 102, .ref 103, .ref 104, .ref 105, .ref 106, .ref 107, .ref 108, .ref 109, .ref 110, .ref 111, .ref 112, .ref 113, .ref 114, .int 0, .int 0, .int 0, .long 0, .long 0, .int 0, .ref 115, .ref 116, .int 0])) (mr := zm_m270) rfl rfl (zh_put ((K 55 (by decide) (by decide)).trans (zp_o F 10 rfl)) rfl rfl) (fun he1 e1 => ?_)
  refine zy_n 2 (mr := zm_m270) (pc' := 7) (ls' := [(0, .ref 55), (1, .int a1), (2, .int a2), (3, .int a3), (4, .int a4)]) (st' := [.int a1, .ref 55]) rfl rfl ?_
  refine zy_c (mc := zm_m193) (mr := zm_m270) rfl rfl (zh_v rfl (zs_eqE e1 ((K 55 (by decide) (by decide)).trans (zp_o F 10 rfl))) rfl) rfl rfl ?_
  refine zy_n 4 (mr := zm_m193) (pc' := 4) (ls' := [(0, .ref 55), (1, .int a1)]) (st' := [.ref 55, .long 0, .long a1.toInt64]) rfl rfl ?_
  refine zy_h (mr := zm_m193) rfl rfl (zh_get (v := .int 0) (zs_eqE e1 ((K 55 (by decide) (by decide)).trans (zp_o F 10 rfl))) rfl) ?_
  refine zy_n 3 (mr := zm_m193) (pc' := 10) (ls' := [(0, .ref 55), (1, .int a1)]) (st' := [.long (-1), .long 0, .long a1.toInt64]) rfl rfl ?_
  refine zy_c (mc := zm_m183) (mr := zm_m193) rfl rfl rfl rfl rfl (zm_Y.mono (zk_in a1 0 (-1) rfl (by decide) (by decide)) ?_)
  rintro r h1 ⟨rfl, ⟨rfl, hc2⟩ | ⟨rfl, hc2⟩⟩
  · exact absurd hc2 (zl_emp (by decide))
  refine zy_r (mr := zm_m193) rfl rfl rfl ?_
  refine zy_b (q := (45, [])) (mr := zm_m270) rfl rfl rfl ?_
  refine zy_n 1 (mr := zm_m270) (pc' := 46) (ls' := [(0, .ref 55), (1, .int a1), (2, .int a2), (3, .int a3), (4, .int a4)]) (st' := [.int (-1)]) rfl rfl ?_
  refine zy_r (mr := zm_m270) rfl rfl rfl ?_
  refine ⟨⟨_, rfl, ?_⟩, Nat.le_trans (zs_lleE e1 KL) (by decide), Nat.le_trans (zs_szleE (w := 109) e1 ((K 55 (by decide) (by decide)).trans (zp_o F 10 rfl)) rfl rfl KS) (by decide)⟩
  first | (simp [zf_30]; done) | (simp [zf_30]; unfold zw; decide)
set_option maxHeartbeats 4000000 in
set_option maxRecDepth 20000 in
theorem zn_31 {og : Nat → Option zm_C} {h h0 : zm_H} (F : zp_ck h = true) (K : ∀ k : Nat, 55 ≤ k → k < 117 → h0[k]? = h[k]?) (KL : h0.length ≤ 200) (KS : zm_szs h0 ≤ 90000) (a1 : Int32) (a2 : Int32) (a3 : Int32) : zm_Y og 30 271 0 [(0, .ref 55), (1, .int a1), (2, .int a2), (3, .int a3)] [] h0 (fun r h1 => (∃ v, r = some (.int v) ∧ zf_31 a1 a2 a3 v) ∧ h1.length ≤ 300 ∧ zm_szs h1 ≤ 200000) := by
  refine zy_n 2 (mr := zm_m271) (pc' := 2) (ls' := [(0, .ref 55), (1, .int a1), (2, .int a2), (3, .int a3)]) (st' := [.int 0, .ref 55]) rfl rfl ?_
  refine zy_hS (x := .inr (11, [.int 0, .ref 56, .ref 57, .ref 58, .ref 59, .int 0, .int 0, .int 0, .int 0, .int 0, .int 0, .int 20, .int 30, .int 5, .int 2, .ref 60, .ref 61, .ref 62, .ref 63, .ref 64, .ref 65, .ref 66, .ref 67, .ref 68, .ref 69, .ref 70, .ref 71, .ref 72, .ref 73, .ref 74, .ref 75, .ref 76, .ref 77, .ref 78, .ref 79, .ref 80, .ref 81, .ref 82, .ref 83, .ref 84, .ref 85, .ref 86, .ref 87, .ref 88, .ref 89, .ref 90, .ref 91, .ref 92, .ref 93, .ref 94, .int 0, .int (-1), .ref 95, .ref 96, .ref 97, .ref 98, .int 0, .int 0, .int 0, .int 0, .int 0, .int 0, .int 0, .int 0, .int 0, .int 0, .int 0, .int 0, .int 0, .long 0, .int 0, .int 0, .int 0, .long 0, .long 0, .long 0, .long 0, .int 0, .int 0, .int 0, .int 0, .ref 99, .int 0, .int 0, .int 0, .ref 100, .ref 101, .ref 102, .ref 103, .ref 104, .ref 105, .ref 106, .ref 107, .ref 108, .ref 109, .ref 110, .ref 111, .ref 112, .ref 113, .ref 114, .int 0, .int 0, .int 0, .long 0, .long 0, .int 0, .ref 115, .ref 116, .int 0])) (mr := zm_m271) rfl rfl (zh_put ((K 55 (by decide) (by decide)).trans (zp_o F 10 rfl)) rfl rfl) (fun he1 e1 => ?_)
  refine zy_n 4 (mr := zm_m271) (pc' := 11) (ls' := [(0, .ref 55), (1, .int a1), (2, .int a2), (3, .int a3)]) (st' := [.long 3, .long 0, .long a1.toInt64]) rfl rfl ?_
  refine zy_c (mc := zm_m183) (mr := zm_m271) rfl rfl rfl rfl rfl (zm_Y.mono (zk_in a1 0 3 rfl (by decide) (by decide)) ?_)
  rintro r h1 ⟨rfl, ⟨rfl, hc2⟩ | ⟨rfl, hc2⟩⟩
  · skip
    refine zy_b (q := (17, [])) (mr := zm_m271) rfl rfl rfl ?_
    refine zy_n 4 (mr := zm_m271) (pc' := 23) (ls' := [(0, .ref 55), (1, .int a1), (2, .int a2), (3, .int a3)]) (st' := [.long 3, .long 0, .long a2.toInt64]) rfl rfl ?_
    refine zy_c (mc := zm_m183) (mr := zm_m271) rfl rfl rfl rfl rfl (zm_Y.mono (zk_in a2 0 3 rfl (by decide) (by decide)) ?_)
    rintro r h1 ⟨rfl, ⟨rfl, hc3⟩ | ⟨rfl, hc3⟩⟩
    · skip
      refine zy_b (q := (29, [])) (mr := zm_m271) rfl rfl rfl ?_
      refine zy_n 2 (mr := zm_m271) (pc' := 31) (ls' := [(0, .ref 55), (1, .int a1), (2, .int a2), (3, .int a3)]) (st' := [.int a2, .int a1]) rfl rfl ?_
      refine zy_b (mr := zm_m271) rfl rfl rfl (zc_eq (fun hc4 => ?_) (fun hc4 => ?_))
      · skip
        refine zy_n 1 (mr := zm_m271) (pc' := 49) (ls' := [(0, .ref 55), (1, .int a1), (2, .int a2), (3, .int a3)]) (st' := [.int (-1000000)]) rfl rfl ?_
        refine zy_r (mr := zm_m271) rfl rfl rfl ?_
        refine ⟨⟨_, rfl, ?_⟩, Nat.le_trans (zs_lleE e1 KL) (by decide), Nat.le_trans (zs_szleE (w := 109) e1 ((K 55 (by decide) (by decide)).trans (zp_o F 10 rfl)) rfl rfl KS) (by decide)⟩
        first | (simp [zf_31, hc2, hc3, hc4]; done) | (simp [zf_31, hc2, hc3, hc4]; unfold zw; decide)
      · skip
        refine zy_n 4 (mr := zm_m271) (pc' := 40) (ls' := [(0, .ref 55), (1, .int a1), (2, .int a2), (3, .int a3)]) (st' := [.long 3, .long 0, .long a3.toInt64]) rfl rfl ?_
        refine zy_c (mc := zm_m183) (mr := zm_m271) rfl rfl rfl rfl rfl (zm_Y.mono (zk_in a3 0 3 rfl (by decide) (by decide)) ?_)
        rintro r h1 ⟨rfl, ⟨rfl, hc5⟩ | ⟨rfl, hc5⟩⟩
        · skip
          refine zy_b (q := (50, [])) (mr := zm_m271) rfl rfl rfl ?_
          refine zy_n 12 (mr := zm_m271) (pc' := 68) (ls' := [(8, .int 0), (7, .int 0), (6, .int 0), (5, .int 0), (4, .int 0), (0, .ref 55), (1, .int a1), (2, .int a2), (3, .int a3)]) (st' := [.ref 55, .int 0]) rfl rfl ?_
          refine zy_h (mr := zm_m271) rfl rfl (zh_get (v := .int 0) (zs_eqE e1 ((K 55 (by decide) (by decide)).trans (zp_o F 10 rfl))) rfl) ?_
          refine zy_b (q := (249, [])) (mr := zm_m271) rfl rfl rfl ?_
          refine zy_n 1 (mr := zm_m271) (pc' := 250) (ls' := [(8, .int 0), (7, .int 0), (6, .int 0), (5, .int 0), (4, .int 0), (0, .ref 55), (1, .int a1), (2, .int a2), (3, .int a3)]) (st' := [.int a3]) rfl rfl ?_
          refine zy_b (mr := zm_m271) rfl rfl rfl (zi_ne (fun hc6 => ?_) (fun hc6 => ?_))
          · skip
            refine zy_n 2 (mr := zm_m271) (pc' := 260) (ls' := [(8, .int 0), (7, .int 0), (6, .int 0), (5, .int 0), (4, .int 0), (0, .ref 55), (1, .int a1), (2, .int a2), (3, .int a3)]) (st' := [.int 1, .int a3]) rfl rfl ?_
            refine zy_b (mr := zm_m271) rfl rfl rfl (zc_ne (fun hc7 => ?_) (fun hc7 => ?_))
            · skip
              refine zy_n 2 (mr := zm_m271) (pc' := 270) (ls' := [(8, .int 0), (7, .int 0), (6, .int 0), (5, .int 0), (4, .int 0), (0, .ref 55), (1, .int a1), (2, .int a2), (3, .int a3)]) (st' := [.int 2, .int a3]) rfl rfl ?_
              refine zy_b (mr := zm_m271) rfl rfl rfl (zc_ne (fun hc8 => ?_) (fun hc8 => ?_))
              · skip
                refine zy_n 1 (mr := zm_m271) (pc' := 280) (ls' := [(8, .int 0), (7, .int 0), (6, .int 0), (5, .int 0), (4, .int 0), (0, .ref 55), (1, .int a1), (2, .int a2), (3, .int a3)]) (st' := [.int 0]) rfl rfl ?_
                refine zy_r (mr := zm_m271) rfl rfl rfl ?_
                refine ⟨⟨_, rfl, ?_⟩, Nat.le_trans (zs_lleE e1 KL) (by decide), Nat.le_trans (zs_szleE (w := 109) e1 ((K 55 (by decide) (by decide)).trans (zp_o F 10 rfl)) rfl rfl KS) (by decide)⟩
                first | (simp [zf_31, hc2, hc3, hc4, hc5, hc6, hc7, hc8]; done) | (simp [zf_31, hc2, hc3, hc4, hc5, hc6, hc7, hc8]; unfold zw; decide)
              · skip
                refine zy_n 2 (mr := zm_m271) (pc' := 280) (ls' := [(8, .int 0), (7, .int 0), (6, .int 0), (5, .int 0), (4, .int 0), (0, .ref 55), (1, .int a1), (2, .int a2), (3, .int a3)]) (st' := [.int 0]) rfl rfl ?_
                refine zy_r (mr := zm_m271) rfl rfl rfl ?_
                refine ⟨⟨_, rfl, ?_⟩, Nat.le_trans (zs_lleE e1 KL) (by decide), Nat.le_trans (zs_szleE (w := 109) e1 ((K 55 (by decide) (by decide)).trans (zp_o F 10 rfl)) rfl rfl KS) (by decide)⟩
                first | (simp [zf_31, hc2, hc3, hc4, hc5, hc6, hc7, hc8]; done) | (simp [zf_31, hc2, hc3, hc4, hc5, hc6, hc7, hc8]; unfold zw; decide)
            · skip
              refine zy_n 2 (mr := zm_m271) (pc' := 280) (ls' := [(8, .int 0), (7, .int 0), (6, .int 0), (5, .int 0), (4, .int 0), (0, .ref 55), (1, .int a1), (2, .int a2), (3, .int a3)]) (st' := [.int 0]) rfl rfl ?_
              refine zy_r (mr := zm_m271) rfl rfl rfl ?_
              refine ⟨⟨_, rfl, ?_⟩, Nat.le_trans (zs_lleE e1 KL) (by decide), Nat.le_trans (zs_szleE (w := 109) e1 ((K 55 (by decide) (by decide)).trans (zp_o F 10 rfl)) rfl rfl KS) (by decide)⟩
              first | (simp [zf_31, hc2, hc3, hc4, hc5, hc6, hc7]; done) | (simp [zf_31, hc2, hc3, hc4, hc5, hc6, hc7]; unfold zw; decide)
          · skip
            refine zy_n 2 (mr := zm_m271) (pc' := 280) (ls' := [(8, .int 0), (7, .int 0), (6, .int 0), (5, .int 0), (4, .int 0), (0, .ref 55), (1, .int a1), (2, .int a2), (3, .int a3)]) (st' := [.int 0]) rfl rfl ?_
            as_aux_lemma =>
              refine zy_r (mr := zm_m271) rfl rfl rfl ?_
              refine ⟨⟨_, rfl, ?_⟩, Nat.le_trans (zs_lleE e1 KL) (by decide), Nat.le_trans (zs_szleE (w := 109) e1 ((K 55 (by decide) (by decide)).trans (zp_o F 10 rfl)) rfl rfl KS) (by decide)⟩
              first | (simp [zf_31, hc2, hc3, hc4, hc5, hc6]; done) | (simp [zf_31, hc2, hc3, hc4, hc5, hc6]; unfold zw; decide)
        · skip
          refine zy_b (q := (46, [])) (mr := zm_m271) rfl rfl rfl ?_
          refine zy_n 1 (mr := zm_m271) (pc' := 49) (ls' := [(0, .ref 55), (1, .int a1), (2, .int a2), (3, .int a3)]) (st' := [.int (-1000000)]) rfl rfl ?_
          refine zy_r (mr := zm_m271) rfl rfl rfl ?_
          refine ⟨⟨_, rfl, ?_⟩, Nat.le_trans (zs_lleE e1 KL) (by decide), Nat.le_trans (zs_szleE (w := 109) e1 ((K 55 (by decide) (by decide)).trans (zp_o F 10 rfl)) rfl rfl KS) (by decide)⟩
          first | (simp [zf_31, hc2, hc3, hc4, hc5]; done) | (simp [zf_31, hc2, hc3, hc4, hc5]; unfold zw; decide)
    · skip
      refine zy_b (q := (46, [])) (mr := zm_m271) rfl rfl rfl ?_
      refine zy_n 1 (mr := zm_m271) (pc' := 49) (ls' := [(0, .ref 55), (1, .int a1), (2, .int a2), (3, .int a3)]) (st' := [.int (-1000000)]) rfl rfl ?_
      refine zy_r (mr := zm_m271) rfl rfl rfl ?_
      refine ⟨⟨_, rfl, ?_⟩, Nat.le_trans (zs_lleE e1 KL) (by decide), Nat.le_trans (zs_szleE (w := 109) e1 ((K 55 (by decide) (by decide)).trans (zp_o F 10 rfl)) rfl rfl KS) (by decide)⟩
      first | (simp [zf_31, hc2, hc3]; done) | (simp [zf_31, hc2, hc3]; unfold zw; decide)
  · skip
    refine zy_b (q := (46, [])) (mr := zm_m271) rfl rfl rfl ?_
    refine zy_n 1 (mr := zm_m271) (pc' := 49) (ls' := [(0, .ref 55), (1, .int a1), (2, .int a2), (3, .int a3)]) (st' := [.int (-1000000)]) rfl rfl ?_
    refine zy_r (mr := zm_m271) rfl rfl rfl ?_
    refine ⟨⟨_, rfl, ?_⟩, Nat.le_trans (zs_lleE e1 KL) (by decide), Nat.le_trans (zs_szleE (w := 109) e1 ((K 55 (by decide) (by decide)).trans (zp_o F 10 rfl)) rfl rfl KS) (by decide)⟩
    first | (simp [zf_31, hc2]; done) | (simp [zf_31, hc2]; unfold zw; decide)
set_option maxHeartbeats 4000000 in
set_option maxRecDepth 20000 in
theorem zn_32 {og : Nat → Option zm_C} {h h0 : zm_H} (F : zp_ck h = true) (K : ∀ k : Nat, 55 ≤ k → k < 117 → h0[k]? = h[k]?) (KL : h0.length ≤ 200) (KS : zm_szs h0 ≤ 90000) (a1 : Int32) : zm_Y og 30 272 0 [(0, .ref 55), (1, .int a1)] [] h0 (fun r h1 => (∃ v, r = some (.int v) ∧ zf_32 a1 v) ∧ h1.length ≤ 300 ∧ zm_szs h1 ≤ 200000) := by
  refine zy_n 2 (mr := zm_m272) (pc' := 2) (ls' := [(0, .ref 55), (1, .int a1)]) (st' := [.int 0, .ref 55]) rfl rfl ?_
  refine zy_hS (x := .inr (11, [.int 0, .ref 56, .ref 57, .ref 58, .ref 59, .int 0, .int 0, .int 0, .int 0, .int 0, .int 0, .int 20, .int 30, .int 5, .int 2, .ref 60, .ref 61, .ref 62, .ref 63, .ref 64, .ref 65, .ref 66, .ref 67, .ref 68, .ref 69, .ref 70, .ref 71, .ref 72, .ref 73, .ref 74, .ref 75, .ref 76, .ref 77, .ref 78, .ref 79, .ref 80, .ref 81, .ref 82, .ref 83, .ref 84, .ref 85, .ref 86, .ref 87, .ref 88, .ref 89, .ref 90, .ref 91, .ref 92, .ref 93, .ref 94, .int 0, .int (-1), .ref 95, .ref 96, .ref 97, .ref 98, .int 0, .int 0, .int 0, .int 0, .int 0, .int 0, .int 0, .int 0, .int 0, .int 0, .int 0, .int 0, .int 0, .long 0, .int 0, .int 0, .int 0, .long 0, .long 0, .long 0, .long 0, .int 0, .int 0, .int 0, .int 0, .ref 99, .int 0, .int 0, .int 0, .ref 100, .ref 101, .ref 102, .ref 103, .ref 104, .ref 105, .ref 106, .ref 107, .ref 108, .ref 109, .ref 110, .ref 111, .ref 112, .ref 113, .ref 114, .int 0, .int 0, .int 0, .long 0, .long 0, .int 0, .ref 115, .ref 116, .int 0])) (mr := zm_m272) rfl rfl (zh_put ((K 55 (by decide) (by decide)).trans (zp_o F 10 rfl)) rfl rfl) (fun he1 e1 => ?_)
  refine zy_n 4 (mr := zm_m272) (pc' := 9) (ls' := [(0, .ref 55), (1, .int a1)]) (st' := [.ref 55, .long 0, .long a1.toInt64]) rfl rfl ?_
  refine zy_h (mr := zm_m272) rfl rfl (zh_get (v := .int 0) (zs_eqE e1 ((K 55 (by decide) (by decide)).trans (zp_o F 10 rfl))) rfl) ?_
  refine zy_n 1 (mr := zm_m272) (pc' := 13) (ls' := [(0, .ref 55), (1, .int a1)]) (st' := [.long 0, .long 0, .long a1.toInt64]) rfl rfl ?_
  refine zy_c (mc := zm_m183) (mr := zm_m272) rfl rfl rfl rfl rfl (zm_Y.mono (zk_in a1 0 0 rfl (by decide) (by decide)) ?_)
  rintro r h1 ⟨rfl, ⟨rfl, hc2⟩ | ⟨rfl, hc2⟩⟩
  · skip
    refine zy_b (q := (22, [])) (mr := zm_m272) rfl rfl rfl ?_
    refine zy_n 2 (mr := zm_m272) (pc' := 25) (ls' := [(0, .ref 55), (1, .int a1)]) (st' := [.int 14, .ref 55]) rfl rfl ?_
    refine zy_c (mc := zm_m203) (mr := zm_m272) rfl rfl (zh_v rfl (zs_eqE e1 ((K 55 (by decide) (by decide)).trans (zp_o F 10 rfl))) rfl) rfl rfl ?_
    refine zy_n 4 (mr := zm_m203) (pc' := 4) (ls' := [(2, .int 0), (0, .ref 55), (1, .int 14)]) (st' := [.ref 55, .int 0]) rfl rfl ?_
    refine zy_h (mr := zm_m203) rfl rfl (zh_get (v := .int 0) (zs_eqE e1 ((K 55 (by decide) (by decide)).trans (zp_o F 10 rfl))) rfl) ?_
    refine zy_b (q := (34, [])) (mr := zm_m203) rfl rfl rfl ?_
    refine zy_n 1 (mr := zm_m203) (pc' := 35) (ls' := [(2, .int 0), (0, .ref 55), (1, .int 14)]) (st' := [.ref 55]) rfl rfl ?_
    refine zy_h (mr := zm_m203) rfl rfl (zh_get (v := .ref 96) (zs_eqE e1 ((K 55 (by decide) (by decide)).trans (zp_o F 10 rfl))) rfl) ?_
    refine zy_n 2 (mr := zm_m203) (pc' := 40) (ls' := [(2, .int 0), (0, .ref 55), (1, .int 14)]) (st' := [.ref 55, .int 14, .ref 96]) rfl rfl ?_
    refine zy_h (mr := zm_m203) rfl rfl (zh_get (v := .int 0) (zs_eqE e1 ((K 55 (by decide) (by decide)).trans (zp_o F 10 rfl))) rfl) ?_
    refine zy_hS (x := _) (mr := zm_m203) rfl rfl (zh_iast (zs_neE e1 ((K 96 (by decide) (by decide)).trans (zp_i F 71 rfl)) (by decide)) (by decide)) (fun he3 e3 => ?_)
    refine zy_n 2 (mr := zm_m203) (pc' := 46) (ls' := [(2, .int 0), (0, .ref 55), (1, .int 14)]) (st' := [.int 0, .ref 55]) rfl rfl ?_
    have k4 := (zs_neE e3 (zs_eqE e1 ((K 55 (by decide) (by decide)).trans (zp_o F 10 rfl))) (by decide))
    refine zy_hS (x := .inr (11, [.int 0, .ref 56, .ref 57, .ref 58, .ref 59, .int 0, .int 0, .int 0, .int 0, .int 0, .int 0, .int 20, .int 30, .int 5, .int 2, .ref 60, .ref 61, .ref 62, .ref 63, .ref 64, .ref 65, .ref 66, .ref 67, .ref 68, .ref 69, .ref 70, .ref 71, .ref 72, .ref 73, .ref 74, .ref 75, .ref 76, .ref 77, .ref 78, .ref 79, .ref 80, .ref 81, .ref 82, .ref 83, .ref 84, .ref 85, .ref 86, .ref 87, .ref 88, .ref 89, .ref 90, .ref 91, .ref 92, .ref 93, .ref 94, .int 0, .int (-1), .ref 95, .ref 96, .ref 97, .ref 98, .int 0, .int 0, .int 0, .int 0, .int 0, .int 0, .int 0, .int 0, .int 0, .int 0, .int 0, .int 0, .int 0, .long 0, .int 0, .int 0, .int 0, .long 0, .long 0, .long 0, .long 0, .int 0, .int 0, .int 0, .int 0, .ref 99, .int 0, .int 0, .int 0, .ref 100, .ref 101, .ref 102, .ref 103, .ref 104, .ref 105, .ref 106, .ref 107, .ref 108, .ref 109, .ref 110, .ref 111, .ref 112, .ref 113, .ref 114, .int 0, .int 0, .int 0, .long 0, .long 0, .int 0, .ref 115, .ref 116, .int 0])) (mr := zm_m203) rfl rfl (zh_put k4 rfl rfl) (fun he5 e5 => ?_)
    refine zy_n 2 (mr := zm_m203) (pc' := 51) (ls' := [(2, .int 0), (0, .ref 55), (1, .int 14)]) (st' := [.int (-1), .ref 55]) rfl rfl ?_
    have k6 := (zs_eqE e5 (zs_neE e3 (zs_eqE e1 ((K 55 (by decide) (by decide)).trans (zp_o F 10 rfl))) (by decide)))
    refine zy_hS (x := .inr (11, [.int 0, .ref 56, .ref 57, .ref 58, .ref 59, .int 0, .int 0, .int 0, .int 0, .int 0, .int 0, .int 20, .int 30, .int 5, .int 2, .ref 60, .ref 61, .ref 62, .ref 63, .ref 64, .ref 65, .ref 66, .ref 67, .ref 68, .ref 69, .ref 70, .ref 71, .ref 72, .ref 73, .ref 74, .ref 75, .ref 76, .ref 77, .ref 78, .ref 79, .ref 80, .ref 81, .ref 82, .ref 83, .ref 84, .ref 85, .ref 86, .ref 87, .ref 88, .ref 89, .ref 90, .ref 91, .ref 92, .ref 93, .ref 94, .int 0, .int (-1), .ref 95, .ref 96, .ref 97, .ref 98, .int 0, .int 0, .int 0, .int 0, .int 0, .int 0, .int 0, .int 0, .int 0, .int 0, .int 0, .int 0, .int 0, .long 0, .int 0, .int 0, .int 0, .long 0, .long 0, .long 0, .long 0, .int 0, .int 0, .int 0, .int 0, .ref 99, .int 0, .int 0, .int 0, .ref 100, .ref 101, .ref 102, .ref 103, .ref 104, .ref 105, .ref 106, .ref 107, .ref 108, .ref 109, .ref 110, .ref 111, .ref 112, .ref 113, .ref 114, .int 0, .int 0, .int 0, .long 0, .long 0, .int 0, .ref 115, .ref 116, .int 0])) (mr := zm_m203) rfl rfl (zh_put k6 rfl rfl) (fun he7 e7 => ?_)
    refine zy_r (mr := zm_m203) rfl rfl rfl ?_
    refine zy_n 2 (mr := zm_m272) (pc' := 30) (ls' := [(0, .ref 55), (1, .int a1)]) (st' := [.int (-1), .ref 55]) rfl rfl ?_
    have k8 := (zs_eqE e7 (zs_eqE e5 (zs_neE e3 (zs_eqE e1 ((K 55 (by decide) (by decide)).trans (zp_o F 10 rfl))) (by decide))))
    refine zy_c (mc := zm_m273) (mr := zm_m272) rfl rfl (zh_v rfl k8 rfl) rfl rfl ?_
    refine zy_n 2 (mr := zm_m273) (pc' := 2) (ls' := [(0, .ref 55), (1, .int (-1))]) (st' := [.int 1, .ref 55]) rfl rfl ?_
    refine zy_hS (x := .inr (11, [.int 0, .ref 56, .ref 57, .ref 58, .ref 59, .int 0, .int 0, .int 0, .int 0, .int 0, .int 0, .int 20, .int 30, .int 5, .int 2, .ref 60, .ref 61, .ref 62, .ref 63, .ref 64, .ref 65, .ref 66, .ref 67, .ref 68, .ref 69, .ref 70, .ref 71, .ref 72, .ref 73, .ref 74, .ref 75, .ref 76, .ref 77, .ref 78, .ref 79, .ref 80, .ref 81, .ref 82, .ref 83, .ref 84, .ref 85, .ref 86, .ref 87, .ref 88, .ref 89, .ref 90, .ref 91, .ref 92, .ref 93, .ref 94, .int 0, .int (-1), .ref 95, .ref 96, .ref 97, .ref 98, .int 0, .int 0, .int 0, .int 0, .int 0, .int 0, .int 0, .int 0, .int 0, .int 0, .int 0, .int 0, .int 0, .long 0, .int 1, .int 0, .int 0, .long 0, .long 0, .long 0, .long 0, .int 0, .int 0, .int 0, .int 0, .ref 99, .int 0, .int 0, .int 0, .ref 100, .ref 101, .ref 102, .ref 103, .ref 104, .ref 105, .ref 106, .ref 107, .ref 108, .ref 109, .ref 110, .ref 111, .ref 112, .ref 113, .ref 114, .int 0, .int 0, .int 0, .long 0, .long 0, .int 0, .ref 115, .ref 116, .int 0])) (mr := zm_m273) rfl rfl (zh_put k8 rfl (by decide)) (fun he9 e9 => ?_)
    refine zy_n 2 (mr := zm_m273) (pc' := 7) (ls' := [(0, .ref 55), (1, .int (-1))]) (st' := [.int (-1), .ref 55]) rfl rfl ?_
    refine zy_hS (x := .inr (11, [.int 0, .ref 56, .ref 57, .ref 58, .ref 59, .int 0, .int 0, .int 0, .int 0, .int 0, .int 0, .int 20, .int 30, .int 5, .int 2, .ref 60, .ref 61, .ref 62, .ref 63, .ref 64, .ref 65, .ref 66, .ref 67, .ref 68, .ref 69, .ref 70, .ref 71, .ref 72, .ref 73, .ref 74, .ref 75, .ref 76, .ref 77, .ref 78, .ref 79, .ref 80, .ref 81, .ref 82, .ref 83, .ref 84, .ref 85, .ref 86, .ref 87, .ref 88, .ref 89, .ref 90, .ref 91, .ref 92, .ref 93, .ref 94, .int 0, .int (-1), .ref 95, .ref 96, .ref 97, .ref 98, .int 0, .int 0, .int 0, .int 0, .int 0, .int 0, .int 0, .int 0, .int 0, .int 0, .int 0, .int 0, .int (-1), .long 0, .int 1, .int 0, .int 0, .long 0, .long 0, .long 0, .long 0, .int 0, .int 0, .int 0, .int 0, .ref 99, .int 0, .int 0, .int 0, .ref 100, .ref 101, .ref 102, .ref 103, .ref 104, .ref 105, .ref 106, .ref 107, .ref 108, .ref 109, .ref 110, .ref 111, .ref 112, .ref 113, .ref 114, .int 0, .int 0, .int 0, .long 0, .long 0, .int 0, .ref 115, .ref 116, .int 0])) (mr := zm_m273) rfl rfl (zh_put (zs_eqE e9 k8) rfl rfl) (fun he10 e10 => ?_)
    refine zy_n 2 (mr := zm_m273) (pc' := 13) (ls' := [(0, .ref 55), (1, .int (-1))]) (st' := [.int 14, .ref 55]) rfl rfl ?_
    refine zy_c (mc := zm_m205) (mr := zm_m273) rfl rfl (zh_v rfl (zs_eqE e10 (zs_eqE e9 k8)) rfl) rfl rfl ?_
    refine zy_n 4 (mr := zm_m205) (pc' := 6) (ls' := [(0, .ref 55), (1, .int 14)]) (st' := [.int 4200, .ref 55]) rfl rfl ?_
    refine zy_hS (x := .inr (11, [.int 0, .ref 56, .ref 57, .ref 58, .ref 59, .int 0, .int 0, .int 0, .int 0, .int 0, .int 0, .int 20, .int 30, .int 5, .int 2, .ref 60, .ref 61, .ref 62, .ref 63, .ref 64, .ref 65, .ref 66, .ref 67, .ref 68, .ref 69, .ref 70, .ref 71, .ref 72, .ref 73, .ref 74, .ref 75, .ref 76, .ref 77, .ref 78, .ref 79, .ref 80, .ref 81, .ref 82, .ref 83, .ref 84, .ref 85, .ref 86, .ref 87, .ref 88, .ref 89, .ref 90, .ref 91, .ref 92, .ref 93, .ref 94, .int 0, .int (-1), .ref 95, .ref 96, .ref 97, .ref 98, .int 4200, .int 0, .int 0, .int 0, .int 0, .int 0, .int 0, .int 0, .int 0, .int 0, .int 0, .int 0, .int (-1), .long 0, .int 1, .int 0, .int 0, .long 0, .long 0, .long 0, .long 0, .int 0, .int 0, .int 0, .int 0, .ref 99, .int 0, .int 0, .int 0, .ref 100, .ref 101, .ref 102, .ref 103, .ref 104, .ref 105, .ref 106, .ref 107, .ref 108, .ref 109, .ref 110, .ref 111, .ref 112, .ref 113, .ref 114, .int 0, .int 0, .int 0, .long 0, .long 0, .int 0, .ref 115, .ref 116, .int 0])) (mr := zm_m205) rfl rfl (zh_put (zs_eqE e10 (zs_eqE e9 k8)) rfl rfl) (fun he11 e11 => ?_)
    refine zy_n 2 (mr := zm_m205) (pc' := 11) (ls' := [(0, .ref 55), (1, .int 14)]) (st' := [.ref 55, .ref 55]) rfl rfl ?_
    refine zy_h (mr := zm_m205) rfl rfl (zh_get (v := .ref 96) (zs_eqE e11 (zs_eqE e10 (zs_eqE e9 k8))) rfl) ?_
    refine zy_n 1 (mr := zm_m205) (pc' := 15) (ls' := [(0, .ref 55), (1, .int 14)]) (st' := [.int 14, .ref 96, .ref 55]) rfl rfl ?_
    have k12 := (zs_neE e11 (zs_neE e10 (zs_neE e9 (zs_neE e7 (zs_neE e5 (zs_eqE e3 (zs_neE e1 ((K 96 (by decide) (by decide)).trans (zp_i F 71 rfl)) (by decide))) (by decide)) (by decide)) (by decide)) (by decide)) (by decide))
    refine zy_h (mr := zm_m205) rfl rfl (zh_iald (v := 0) k12 (by decide) rfl) ?_
    refine zy_hS (x := .inr (11, [.int 0, .ref 56, .ref 57, .ref 58, .ref 59, .int 0, .int 0, .int 0, .int 0, .int 0, .int 0, .int 20, .int 30, .int 5, .int 2, .ref 60, .ref 61, .ref 62, .ref 63, .ref 64, .ref 65, .ref 66, .ref 67, .ref 68, .ref 69, .ref 70, .ref 71, .ref 72, .ref 73, .ref 74, .ref 75, .ref 76, .ref 77, .ref 78, .ref 79, .ref 80, .ref 81, .ref 82, .ref 83, .ref 84, .ref 85, .ref 86, .ref 87, .ref 88, .ref 89, .ref 90, .ref 91, .ref 92, .ref 93, .ref 94, .int 0, .int (-1), .ref 95, .ref 96, .ref 97, .ref 98, .int 4200, .int 0, .int 0, .int 0, .int 0, .int 0, .int 0, .int 0, .int 0, .int 0, .int 0, .int 0, .int (-1), .long 0, .int 1, .int 0, .int 0, .long 0, .long 0, .long 0, .long 0, .int 0, .int 0, .int 0, .int 0, .ref 99, .int 0, .int 0, .int 0, .ref 100, .ref 101, .ref 102, .ref 103, .ref 104, .ref 105, .ref 106, .ref 107, .ref 108, .ref 109, .ref 110, .ref 111, .ref 112, .ref 113, .ref 114, .int 0, .int 0, .int 0, .long 0, .long 0, .int 0, .ref 115, .ref 116, .int 0])) (mr := zm_m205) rfl rfl (zh_put (zs_eqE e11 (zs_eqE e10 (zs_eqE e9 k8))) rfl rfl) (fun he13 e13 => ?_)
    refine zy_n 2 (mr := zm_m205) (pc' := 21) (ls' := [(0, .ref 55), (1, .int 14)]) (st' := [.int 0, .ref 55]) rfl rfl ?_
    refine zy_hS (x := .inr (11, [.int 0, .ref 56, .ref 57, .ref 58, .ref 59, .int 0, .int 0, .int 0, .int 0, .int 0, .int 0, .int 20, .int 30, .int 5, .int 2, .ref 60, .ref 61, .ref 62, .ref 63, .ref 64, .ref 65, .ref 66, .ref 67, .ref 68, .ref 69, .ref 70, .ref 71, .ref 72, .ref 73, .ref 74, .ref 75, .ref 76, .ref 77, .ref 78, .ref 79, .ref 80, .ref 81, .ref 82, .ref 83, .ref 84, .ref 85, .ref 86, .ref 87, .ref 88, .ref 89, .ref 90, .ref 91, .ref 92, .ref 93, .ref 94, .int 0, .int (-1), .ref 95, .ref 96, .ref 97, .ref 98, .int 4200, .int 0, .int 0, .int 0, .int 0, .int 0, .int 0, .int 0, .int 0, .int 0, .int 0, .int 0, .int (-1), .long 0, .int 1, .int 0, .int 0, .long 0, .long 0, .long 0, .long 0, .int 0, .int 0, .int 0, .int 0, .ref 99, .int 0, .int 0, .int 0, .ref 100, .ref 101, .ref 102, .ref 103, .ref 104, .ref 105, .ref 106, .ref 107, .ref 108, .ref 109, .ref 110, .ref 111, .ref 112, .ref 113, .ref 114, .int 0, .int 0, .int 0, .long 0, .long 0, .int 0, .ref 115, .ref 116, .int 0])) (mr := zm_m205) rfl rfl (zh_put (zs_eqE e13 (zs_eqE e11 (zs_eqE e10 (zs_eqE e9 k8)))) rfl rfl) (fun he14 e14 => ?_)
    refine zy_n 2 (mr := zm_m205) (pc' := 26) (ls' := [(0, .ref 55), (1, .int 14)]) (st' := [.int 0, .ref 55]) rfl rfl ?_
    refine zy_hS (x := .inr (11, [.int 0, .ref 56, .ref 57, .ref 58, .ref 59, .int 0, .int 0, .int 0, .int 0, .int 0, .int 0, .int 20, .int 30, .int 5, .int 2, .ref 60, .ref 61, .ref 62, .ref 63, .ref 64, .ref 65, .ref 66, .ref 67, .ref 68, .ref 69, .ref 70, .ref 71, .ref 72, .ref 73, .ref 74, .ref 75, .ref 76, .ref 77, .ref 78, .ref 79, .ref 80, .ref 81, .ref 82, .ref 83, .ref 84, .ref 85, .ref 86, .ref 87, .ref 88, .ref 89, .ref 90, .ref 91, .ref 92, .ref 93, .ref 94, .int 0, .int (-1), .ref 95, .ref 96, .ref 97, .ref 98, .int 4200, .int 0, .int 0, .int 0, .int 0, .int 0, .int 0, .int 0, .int 0, .int 0, .int 0, .int 0, .int (-1), .long 0, .int 1, .int 0, .int 0, .long 0, .long 0, .long 0, .long 0, .int 0, .int 0, .int 0, .int 0, .ref 99, .int 0, .int 0, .int 0, .ref 100, .ref 101, .ref 102, .ref 103, .ref 104, .ref 105, .ref 106, .ref 107, .ref 108, .ref 109, .ref 110, .ref 111, .ref 112, .ref 113, .ref 114, .int 0, .int 0, .int 0, .long 0, .long 0, .int 0, .ref 115, .ref 116, .int 0])) (mr := zm_m205) rfl rfl (zh_put (zs_eqE e14 (zs_eqE e13 (zs_eqE e11 (zs_eqE e10 (zs_eqE e9 k8))))) rfl rfl) (fun he15 e15 => ?_)
    refine zy_n 2 (mr := zm_m205) (pc' := 31) (ls' := [(0, .ref 55), (1, .int 14)]) (st' := [.int 0, .ref 55]) rfl rfl ?_
    refine zy_hS (x := .inr (11, [.int 0, .ref 56, .ref 57, .ref 58, .ref 59, .int 0, .int 0, .int 0, .int 0, .int 0, .int 0, .int 20, .int 30, .int 5, .int 2, .ref 60, .ref 61, .ref 62, .ref 63, .ref 64, .ref 65, .ref 66, .ref 67, .ref 68, .ref 69, .ref 70, .ref 71, .ref 72, .ref 73, .ref 74, .ref 75, .ref 76, .ref 77, .ref 78, .ref 79, .ref 80, .ref 81, .ref 82, .ref 83, .ref 84, .ref 85, .ref 86, .ref 87, .ref 88, .ref 89, .ref 90, .ref 91, .ref 92, .ref 93, .ref 94, .int 0, .int (-1), .ref 95, .ref 96, .ref 97, .ref 98, .int 4200, .int 0, .int 0, .int 0, .int 0, .int 0, .int 0, .int 0, .int 0, .int 0, .int 0, .int 0, .int (-1), .long 0, .int 1, .int 0, .int 0, .long 0, .long 0, .long 0, .long 0, .int 0, .int 0, .int 0, .int 0, .ref 99, .int 0, .int 0, .int 0, .ref 100, .ref 101, .ref 102, .ref 103, .ref 104, .ref 105, .ref 106, .ref 107, .ref 108, .ref 109, .ref 110, .ref 111, .ref 112, .ref 113, .ref 114, .int 0, .int 0, .int 0, .long 0, .long 0, .int 0, .ref 115, .ref 116, .int 0])) (mr := zm_m205) rfl rfl (zh_put (zs_eqE e15 (zs_eqE e14 (zs_eqE e13 (zs_eqE e11 (zs_eqE e10 (zs_eqE e9 k8)))))) rfl rfl) (fun he16 e16 => ?_)
    refine zy_n 2 (mr := zm_m205) (pc' := 36) (ls' := [(0, .ref 55), (1, .int 14)]) (st' := [.int 0, .ref 55]) rfl rfl ?_
    as_aux_lemma =>
      have k17 := (zs_eqE e16 (zs_eqE e15 (zs_eqE e14 (zs_eqE e13 (zs_eqE e11 (zs_eqE e10 (zs_eqE e9 k8)))))))
      refine zy_hS (x := .inr (11, [.int 0, .ref 56, .ref 57, .ref 58, .ref 59, .int 0, .int 0, .int 0, .int 0, .int 0, .int 0, .int 20, .int 30, .int 5, .int 2, .ref 60, .ref 61, .ref 62, .ref 63, .ref 64, .ref 65, .ref 66, .ref 67, .ref 68, .ref 69, .ref 70, .ref 71, .ref 72, .ref 73, .ref 74, .ref 75, .ref 76, .ref 77, .ref 78, .ref 79, .ref 80, .ref 81, .ref 82, .ref 83, .ref 84, .ref 85, .ref 86, .ref 87, .ref 88, .ref 89, .ref 90, .ref 91, .ref 92, .ref 93, .ref 94, .int 0, .int (-1), .ref 95, .ref 96, .ref 97, .ref 98, .int 4200, .int 0, .int 0, .int 0, .int 0, .int 0, .int 0, .int 0, .int 0, .int 0, .int 0, .int 0, .int (-1), .long 0, .int 1, .int 0, .int 0, .long 0, .long 0, .long 0, .long 0, .int 0, .int 0, .int 0, .int 0, .ref 99, .int 0, .int 0, .int 0, .ref 100, .ref 101, .ref 102, .ref 103, .ref 104, .ref 105, .ref 106, .ref 107, .ref 108, .ref 109, .ref 110, .ref 111, .ref 112, .ref 113, .ref 114, .int 0, .int 0, .int 0, .long 0, .long 0, .int 0, .ref 115, .ref 116, .int 0])) (mr := zm_m205) rfl rfl (zh_put k17 rfl (by decide)) (fun he18 e18 => ?_)
      refine zy_n 1 (mr := zm_m205) (pc' := 40) (ls' := [(0, .ref 55), (1, .int 14)]) (st' := [.ref 55]) rfl rfl ?_
      have k19 := (zs_eqE e18 (zs_eqE e16 (zs_eqE e15 (zs_eqE e14 (zs_eqE e13 (zs_eqE e11 (zs_eqE e10 (zs_eqE e9 k8))))))))
      refine zy_c (mc := zm_m206) (mr := zm_m205) rfl rfl (zh_v rfl k19 rfl) rfl rfl ?_
      refine zy_n 1 (mr := zm_m206) (pc' := 1) (ls' := [(0, .ref 55)]) (st' := [.ref 55]) rfl rfl ?_
      refine zy_h (mr := zm_m206) rfl rfl (zh_get (v := .int 0) k19 rfl) ?_
      refine zy_n 1 (mr := zm_m206) (pc' := 5) (ls' := [(0, .ref 55)]) (st' := [.ref 55, .int 0]) rfl rfl ?_
      refine zy_h (mr := zm_m206) rfl rfl (zh_get (v := .int 0) k19 rfl) ?_
      refine zy_b (q := (50, [])) (mr := zm_m206) rfl rfl rfl ?_
      refine zy_n 2 (mr := zm_m206) (pc' := 52) (ls' := [(0, .ref 55)]) (st' := [.ref 55, .ref 55]) rfl rfl ?_
      refine zy_h (mr := zm_m206) rfl rfl (zh_get (v := .int 0) k19 rfl) ?_
      refine zy_hS (x := .inr (11, [.int 0, .ref 56, .ref 57, .ref 58, .ref 59, .int 0, .int 0, .int 0, .int 0, .int 0, .int 0, .int 20, .int 30, .int 5, .int 2, .ref 60, .ref 61, .ref 62, .ref 63, .ref 64, .ref 65, .ref 66, .ref 67, .ref 68, .ref 69, .ref 70, .ref 71, .ref 72, .ref 73, .ref 74, .ref 75, .ref 76, .ref 77, .ref 78, .ref 79, .ref 80, .ref 81, .ref 82, .ref 83, .ref 84, .ref 85, .ref 86, .ref 87, .ref 88, .ref 89, .ref 90, .ref 91, .ref 92, .ref 93, .ref 94, .int 0, .int (-1), .ref 95, .ref 96, .ref 97, .ref 98, .int 4200, .int 0, .int 0, .int 0, .int 0, .int 0, .int 0, .int 0, .int 0, .int 0, .int 0, .int 0, .int (-1), .long 0, .int 1, .int 0, .int 0, .long 0, .long 0, .long 0, .long 0, .int 0, .int 0, .int 0, .int 0, .ref 99, .int 0, .int 0, .int 0, .ref 100, .ref 101, .ref 102, .ref 103, .ref 104, .ref 105, .ref 106, .ref 107, .ref 108, .ref 109, .ref 110, .ref 111, .ref 112, .ref 113, .ref 114, .int 0, .int 0, .int 0, .long 0, .long 0, .int 0, .ref 115, .ref 116, .int 0])) (mr := zm_m206) rfl rfl (zh_put k19 rfl rfl) (fun he20 e20 => ?_)
      refine zy_n 2 (mr := zm_m206) (pc' := 60) (ls' := [(0, .ref 55)]) (st' := [.ref 55, .ref 55]) rfl rfl ?_
      refine zy_h (mr := zm_m206) rfl rfl (zh_get (v := .int 0) (zs_eqE e20 k19) rfl) ?_
      refine zy_c (mc := zm_m207) (mr := zm_m206) rfl rfl (zh_v rfl (zs_eqE e20 k19) rfl) rfl rfl ?_
      refine zy_n 2 (mr := zm_m207) (pc' := 2) (ls' := [(0, .ref 55), (1, .int 0)]) (st' := [.ref 55, .int 0]) rfl rfl ?_
      refine zy_h (mr := zm_m207) rfl rfl (zh_get (v := .int 0) (zs_eqE e20 k19) rfl) ?_
      refine zy_b (q := (22, [])) (mr := zm_m207) rfl rfl rfl ?_
      refine zy_n 1 (mr := zm_m207) (pc' := 23) (ls' := [(0, .ref 55), (1, .int 0)]) (st' := [.int 0]) rfl rfl ?_
      refine zy_r (mr := zm_m207) rfl rfl rfl ?_
      refine zy_n 2 (mr := zm_m206) (pc' := 68) (ls' := [(1, .int 0), (0, .ref 55)]) (st' := [.ref 55]) rfl rfl ?_
      refine zy_h (mr := zm_m206) rfl rfl (zh_get (v := .int 0) (zs_eqE e20 k19) rfl) ?_
      refine zy_n 1 (mr := zm_m206) (pc' := 72) (ls' := [(1, .int 0), (0, .ref 55)]) (st' := [.ref 55, .int 0]) rfl rfl ?_
      refine zy_h (mr := zm_m206) rfl rfl (zh_get (v := .int 0) (zs_eqE e20 k19) rfl) ?_
      refine zy_b (q := (78, [])) (mr := zm_m206) rfl rfl rfl ?_
      refine zy_n 2 (mr := zm_m206) (pc' := 80) (ls' := [(1, .int 0), (0, .ref 55)]) (st' := [.int 0, .ref 55]) rfl rfl ?_
      refine zy_hS (x := .inr (11, [.int 0, .ref 56, .ref 57, .ref 58, .ref 59, .int 0, .int 0, .int 0, .int 0, .int 0, .int 0, .int 20, .int 30, .int 5, .int 2, .ref 60, .ref 61, .ref 62, .ref 63, .ref 64, .ref 65, .ref 66, .ref 67, .ref 68, .ref 69, .ref 70, .ref 71, .ref 72, .ref 73, .ref 74, .ref 75, .ref 76, .ref 77, .ref 78, .ref 79, .ref 80, .ref 81, .ref 82, .ref 83, .ref 84, .ref 85, .ref 86, .ref 87, .ref 88, .ref 89, .ref 90, .ref 91, .ref 92, .ref 93, .ref 94, .int 0, .int (-1), .ref 95, .ref 96, .ref 97, .ref 98, .int 4200, .int 0, .int 0, .int 0, .int 0, .int 0, .int 0, .int 0, .int 0, .int 0, .int 0, .int 0, .int (-1), .long 0, .int 1, .int 0, .int 0, .long 0, .long 0, .long 0, .long 0, .int 0, .int 0, .int 0, .int 0, .ref 99, .int 0, .int 0, .int 0, .ref 100, .ref 101, .ref 102, .ref 103, .ref 104, .ref 105, .ref 106, .ref 107, .ref 108, .ref 109, .ref 110, .ref 111, .ref 112, .ref 113, .ref 114, .int 0, .int 0, .int 0, .long 0, .long 0, .int 0, .ref 115, .ref 116, .int 0])) (mr := zm_m206) rfl rfl (zh_put (zs_eqE e20 k19) rfl rfl) (fun he21 e21 => ?_)
      refine zy_n 1 (mr := zm_m206) (pc' := 252) (ls' := [(1, .int 0), (0, .ref 55)]) (st' := []) rfl rfl ?_
      refine zy_r (mr := zm_m206) rfl rfl rfl ?_
      refine zy_r (mr := zm_m205) rfl rfl rfl ?_
      refine zy_n 3 (mr := zm_m273) (pc' := 21) (ls' := [(0, .ref 55), (1, .int (-1))]) (st' := [.retAddr 53, .ref 55, .ref 55]) rfl rfl ?_
      refine zy_c (mc := zm_m212) (mr := zm_m273) rfl rfl (zh_v rfl (zs_eqE e21 (zs_eqE e20 k19)) rfl) rfl rfl ?_
      refine zy_n 1 (mr := zm_m212) (pc' := 1) (ls' := [(0, .ref 55), (1, .retAddr 53)]) (st' := [.ref 55]) rfl rfl ?_
      refine zy_h (mr := zm_m212) rfl rfl (zh_get (v := .int 0) (zs_eqE e21 (zs_eqE e20 k19)) rfl) ?_
      refine zy_b (q := (7, [])) (mr := zm_m212) rfl rfl rfl ?_
      refine zy_n 1 (mr := zm_m212) (pc' := 8) (ls' := [(0, .ref 55), (1, .retAddr 53)]) (st' := [.ref 55]) rfl rfl ?_
      refine zy_h (mr := zm_m212) rfl rfl (zh_get (v := .int 0) (zs_eqE e21 (zs_eqE e20 k19)) rfl) ?_
      refine zy_n 1 (mr := zm_m212) (pc' := 12) (ls' := [(0, .ref 55), (1, .retAddr 53)]) (st' := [.int 1, .int 0]) rfl rfl ?_
      refine zy_b (q := (35, [])) (mr := zm_m212) rfl rfl rfl ?_
      refine zy_n 5 (mr := zm_m212) (pc' := 40) (ls' := [(3, .int 0), (2, .int 0), (0, .ref 55), (1, .retAddr 53)]) (st' := [.int 0]) rfl rfl ?_
      refine zy_b (q := (81, [])) (mr := zm_m212) rfl rfl rfl ?_
      refine zy_n 1 (mr := zm_m212) (pc' := 82) (ls' := [(3, .int 0), (2, .int 0), (0, .ref 55), (1, .retAddr 53)]) (st' := [.int 0]) rfl rfl ?_
      refine zy_r (mr := zm_m212) rfl rfl rfl ?_
      refine zy_b (q := (31, [.ref 55])) (mr := zm_m273) rfl rfl rfl ?_
      refine zy_n 2 (mr := zm_m273) (pc' := 35) (ls' := [(0, .ref 55), (1, .int (-1))]) (st' := [.retAddr 54, .ref 55, .ref 55]) rfl rfl ?_
      refine zy_c (mc := zm_m212) (mr := zm_m273) rfl rfl (zh_v rfl (zs_eqE e21 (zs_eqE e20 k19)) rfl) rfl rfl ?_
      refine zy_n 1 (mr := zm_m212) (pc' := 1) (ls' := [(0, .ref 55), (1, .retAddr 54)]) (st' := [.ref 55]) rfl rfl ?_
      refine zy_h (mr := zm_m212) rfl rfl (zh_get (v := .int 0) (zs_eqE e21 (zs_eqE e20 k19)) rfl) ?_
      refine zy_b (q := (7, [])) (mr := zm_m212) rfl rfl rfl ?_
      refine zy_n 1 (mr := zm_m212) (pc' := 8) (ls' := [(0, .ref 55), (1, .retAddr 54)]) (st' := [.ref 55]) rfl rfl ?_
      as_aux_lemma =>
        refine zy_h (mr := zm_m212) rfl rfl (zh_get (v := .int 0) (zs_eqE e21 (zs_eqE e20 k19)) rfl) ?_
        refine zy_n 1 (mr := zm_m212) (pc' := 12) (ls' := [(0, .ref 55), (1, .retAddr 54)]) (st' := [.int 1, .int 0]) rfl rfl ?_
        refine zy_b (q := (35, [])) (mr := zm_m212) rfl rfl rfl ?_
        refine zy_n 5 (mr := zm_m212) (pc' := 40) (ls' := [(3, .int 0), (2, .int 0), (0, .ref 55), (1, .retAddr 54)]) (st' := [.int 0]) rfl rfl ?_
        refine zy_b (q := (81, [])) (mr := zm_m212) rfl rfl rfl ?_
        refine zy_n 1 (mr := zm_m212) (pc' := 82) (ls' := [(3, .int 0), (2, .int 0), (0, .ref 55), (1, .retAddr 54)]) (st' := [.int 0]) rfl rfl ?_
        refine zy_r (mr := zm_m212) rfl rfl rfl ?_
        refine zy_b (q := (45, [.ref 55])) (mr := zm_m273) rfl rfl rfl ?_
        refine zy_n 2 (mr := zm_m273) (pc' := 49) (ls' := [(0, .ref 55), (1, .int (-1))]) (st' := [.retAddr 55, .ref 55, .ref 55]) rfl rfl ?_
        refine zy_c (mc := zm_m212) (mr := zm_m273) rfl rfl (zh_v rfl (zs_eqE e21 (zs_eqE e20 k19)) rfl) rfl rfl ?_
        refine zy_n 1 (mr := zm_m212) (pc' := 1) (ls' := [(0, .ref 55), (1, .retAddr 55)]) (st' := [.ref 55]) rfl rfl ?_
        refine zy_h (mr := zm_m212) rfl rfl (zh_get (v := .int 0) (zs_eqE e21 (zs_eqE e20 k19)) rfl) ?_
        refine zy_b (q := (7, [])) (mr := zm_m212) rfl rfl rfl ?_
        refine zy_n 1 (mr := zm_m212) (pc' := 8) (ls' := [(0, .ref 55), (1, .retAddr 55)]) (st' := [.ref 55]) rfl rfl ?_
        refine zy_h (mr := zm_m212) rfl rfl (zh_get (v := .int 0) (zs_eqE e21 (zs_eqE e20 k19)) rfl) ?_
        refine zy_n 1 (mr := zm_m212) (pc' := 12) (ls' := [(0, .ref 55), (1, .retAddr 55)]) (st' := [.int 1, .int 0]) rfl rfl ?_
        refine zy_b (q := (35, [])) (mr := zm_m212) rfl rfl rfl ?_
        refine zy_n 5 (mr := zm_m212) (pc' := 40) (ls' := [(3, .int 0), (2, .int 0), (0, .ref 55), (1, .retAddr 55)]) (st' := [.int 0]) rfl rfl ?_
        refine zy_b (q := (81, [])) (mr := zm_m212) rfl rfl rfl ?_
        refine zy_n 1 (mr := zm_m212) (pc' := 82) (ls' := [(3, .int 0), (2, .int 0), (0, .ref 55), (1, .retAddr 55)]) (st' := [.int 0]) rfl rfl ?_
        refine zy_r (mr := zm_m212) rfl rfl rfl ?_
        refine zy_b (q := (59, [.ref 55])) (mr := zm_m273) rfl rfl rfl ?_
        refine zy_n 2 (mr := zm_m273) (pc' := 63) (ls' := [(0, .ref 55), (1, .int (-1))]) (st' := [.retAddr 56, .ref 55, .ref 55]) rfl rfl ?_
        refine zy_c (mc := zm_m212) (mr := zm_m273) rfl rfl (zh_v rfl (zs_eqE e21 (zs_eqE e20 k19)) rfl) rfl rfl ?_
        refine zy_n 1 (mr := zm_m212) (pc' := 1) (ls' := [(0, .ref 55), (1, .retAddr 56)]) (st' := [.ref 55]) rfl rfl ?_
        refine zy_h (mr := zm_m212) rfl rfl (zh_get (v := .int 0) (zs_eqE e21 (zs_eqE e20 k19)) rfl) ?_
        refine zy_b (q := (7, [])) (mr := zm_m212) rfl rfl rfl ?_
        refine zy_n 1 (mr := zm_m212) (pc' := 8) (ls' := [(0, .ref 55), (1, .retAddr 56)]) (st' := [.ref 55]) rfl rfl ?_
        refine zy_h (mr := zm_m212) rfl rfl (zh_get (v := .int 0) (zs_eqE e21 (zs_eqE e20 k19)) rfl) ?_
        refine zy_n 1 (mr := zm_m212) (pc' := 12) (ls' := [(0, .ref 55), (1, .retAddr 56)]) (st' := [.int 1, .int 0]) rfl rfl ?_
        refine zy_b (q := (35, [])) (mr := zm_m212) rfl rfl rfl ?_
        refine zy_n 5 (mr := zm_m212) (pc' := 40) (ls' := [(3, .int 0), (2, .int 0), (0, .ref 55), (1, .retAddr 56)]) (st' := [.int 0]) rfl rfl ?_
        refine zy_b (q := (81, [])) (mr := zm_m212) rfl rfl rfl ?_
        refine zy_n 1 (mr := zm_m212) (pc' := 82) (ls' := [(3, .int 0), (2, .int 0), (0, .ref 55), (1, .retAddr 56)]) (st' := [.int 0]) rfl rfl ?_
        refine zy_r (mr := zm_m212) rfl rfl rfl ?_
        refine zy_b (q := (73, [.ref 55])) (mr := zm_m273) rfl rfl rfl ?_
        refine zy_n 1 (mr := zm_m273) (pc' := 74) (ls' := [(0, .ref 55), (1, .int (-1))]) (st' := [.int (-1), .ref 55]) rfl rfl ?_
        refine zy_hS (x := .inr (11, [.int 0, .ref 56, .ref 57, .ref 58, .ref 59, .int 0, .int 0, .int 0, .int 0, .int 0, .int 0, .int 20, .int 30, .int 5, .int 2, .ref 60, .ref 61, .ref 62, .ref 63, .ref 64, .ref 65, .ref 66, .ref 67, .ref 68, .ref 69, .ref 70, .ref 71, .ref 72, .ref 73, .ref 74, .ref 75, .ref 76, .ref 77, .ref 78, .ref 79, .ref 80, .ref 81, .ref 82, .ref 83, .ref 84, .ref 85, .ref 86, .ref 87, .ref 88, .ref 89, .ref 90, .ref 91, .ref 92, .ref 93, .ref 94, .int 0, .int (-1), .ref 95, .ref 96, .ref 97, .ref 98, .int 4200, .int 0, .int 0, .int 0, .int 0, .int 0, .int 0, .int 0, .int 0, .int 0, .int 0, .int 0, .int (-1), .long 0, .int 1, .int 0, .int 0, .long 0, .long 0, .long 0, .long 0, .int 0, .int 0, .int 0, .int 0, .ref 99, .int 0, .int 0, .int 0, .ref 100, .ref 101, .ref 102, .ref 103, .ref 104, .ref 105, .ref 106, .ref 107, .ref 108, .ref 109, .ref 110, .ref 111, .ref 112, .ref 113, .ref 114, .int 0, .int 0, .int 0, .long 0, .long 0, .int (-1), .ref 115, .ref 116, .int 0])) (mr := zm_m273) rfl rfl (zh_put (zs_eqE e21 (zs_eqE e20 k19)) rfl rfl) (fun he22 e22 => ?_)
        refine zy_n 1 (mr := zm_m273) (pc' := 78) (ls' := [(0, .ref 55), (1, .int (-1))]) (st' := [.ref 55]) rfl rfl ?_
        refine zy_h (mr := zm_m273) rfl rfl (zh_get (v := .int (-1)) (zs_eqE e22 (zs_eqE e21 (zs_eqE e20 k19))) rfl) ?_
        refine zy_n 1 (mr := zm_m273) (pc' := 82) (ls' := [(0, .ref 55), (1, .int (-1))]) (st' := [.int (-1), .int (-1)]) rfl rfl ?_
        refine zy_b (q := (85, [])) (mr := zm_m273) rfl rfl rfl ?_
        refine zy_n 1 (mr := zm_m273) (pc' := 86) (ls' := [(0, .ref 55), (1, .int (-1))]) (st' := [.ref 55]) rfl rfl ?_
        refine zy_c (mc := zm_m213) (mr := zm_m273) rfl rfl (zh_v rfl (zs_eqE e22 (zs_eqE e21 (zs_eqE e20 k19))) rfl) rfl rfl ?_
        refine zy_n 1 (mr := zm_m213) (pc' := 1) (ls' := [(0, .ref 55)]) (st' := [.ref 55]) rfl rfl ?_
        refine zy_h (mr := zm_m213) rfl rfl (zh_get (v := .int 0) (zs_eqE e22 (zs_eqE e21 (zs_eqE e20 k19))) rfl) ?_
        refine zy_b (q := (7, [])) (mr := zm_m213) rfl rfl rfl ?_
        refine zy_n 2 (mr := zm_m213) (pc' := 9) (ls' := [(0, .ref 55)]) (st' := [.ref 55, .ref 55]) rfl rfl ?_
        refine zy_h (mr := zm_m213) rfl rfl (zh_get (v := .int 0) (zs_eqE e22 (zs_eqE e21 (zs_eqE e20 k19))) rfl) ?_
        refine zy_hS (x := .inr (11, [.int 0, .ref 56, .ref 57, .ref 58, .ref 59, .int 0, .int 0, .int 0, .int 0, .int 0, .int 0, .int 20, .int 30, .int 5, .int 2, .ref 60, .ref 61, .ref 62, .ref 63, .ref 64, .ref 65, .ref 66, .ref 67, .ref 68, .ref 69, .ref 70, .ref 71, .ref 72, .ref 73, .ref 74, .ref 75, .ref 76, .ref 77, .ref 78, .ref 79, .ref 80, .ref 81, .ref 82, .ref 83, .ref 84, .ref 85, .ref 86, .ref 87, .ref 88, .ref 89, .ref 90, .ref 91, .ref 92, .ref 93, .ref 94, .int 0, .int 0, .ref 95, .ref 96, .ref 97, .ref 98, .int 4200, .int 0, .int 0, .int 0, .int 0, .int 0, .int 0, .int 0, .int 0, .int 0, .int 0, .int 0, .int (-1), .long 0, .int 1, .int 0, .int 0, .long 0, .long 0, .long 0, .long 0, .int 0, .int 0, .int 0, .int 0, .ref 99, .int 0, .int 0, .int 0, .ref 100, .ref 101, .ref 102, .ref 103, .ref 104, .ref 105, .ref 106, .ref 107, .ref 108, .ref 109, .ref 110, .ref 111, .ref 112, .ref 113, .ref 114, .int 0, .int 0, .int 0, .long 0, .long 0, .int (-1), .ref 115, .ref 116, .int 0])) (mr := zm_m213) rfl rfl (zh_put (zs_eqE e22 (zs_eqE e21 (zs_eqE e20 k19))) rfl rfl) (fun he23 e23 => ?_)
        refine zy_n 2 (mr := zm_m213) (pc' := 17) (ls' := [(0, .ref 55)]) (st' := [.int 1, .ref 55]) rfl rfl ?_
        as_aux_lemma =>
          refine zy_hS (x := .inr (11, [.int 0, .ref 56, .ref 57, .ref 58, .ref 59, .int 0, .int 0, .int 0, .int 0, .int 0, .int 0, .int 20, .int 30, .int 5, .int 2, .ref 60, .ref 61, .ref 62, .ref 63, .ref 64, .ref 65, .ref 66, .ref 67, .ref 68, .ref 69, .ref 70, .ref 71, .ref 72, .ref 73, .ref 74, .ref 75, .ref 76, .ref 77, .ref 78, .ref 79, .ref 80, .ref 81, .ref 82, .ref 83, .ref 84, .ref 85, .ref 86, .ref 87, .ref 88, .ref 89, .ref 90, .ref 91, .ref 92, .ref 93, .ref 94, .int 0, .int 0, .ref 95, .ref 96, .ref 97, .ref 98, .int 4200, .int 0, .int 0, .int 0, .int 0, .int 0, .int 0, .int 0, .int 1, .int 0, .int 0, .int 0, .int (-1), .long 0, .int 1, .int 0, .int 0, .long 0, .long 0, .long 0, .long 0, .int 0, .int 0, .int 0, .int 0, .ref 99, .int 0, .int 0, .int 0, .ref 100, .ref 101, .ref 102, .ref 103, .ref 104, .ref 105, .ref 106, .ref 107, .ref 108, .ref 109, .ref 110, .ref 111, .ref 112, .ref 113, .ref 114, .int 0, .int 0, .int 0, .long 0, .long 0, .int (-1), .ref 115, .ref 116, .int 0])) (mr := zm_m213) rfl rfl (zh_put (zs_eqE e23 (zs_eqE e22 (zs_eqE e21 (zs_eqE e20 k19)))) rfl (by decide)) (fun he24 e24 => ?_)
          refine zy_r (mr := zm_m213) rfl rfl rfl ?_
          refine zy_r (mr := zm_m273) rfl rfl rfl ?_
          refine zy_n 1 (mr := zm_m272) (pc' := 34) (ls' := [(0, .ref 55), (1, .int a1)]) (st' := [.ref 55]) rfl rfl ?_
          refine zy_h (mr := zm_m272) rfl rfl (zh_get (v := .int 1) (zs_eqE e24 (zs_eqE e23 (zs_eqE e22 (zs_eqE e21 (zs_eqE e20 k19))))) rfl) ?_
          refine zy_b (q := (40, [])) (mr := zm_m272) rfl rfl rfl ?_
          refine zy_n 1 (mr := zm_m272) (pc' := 42) (ls' := [(0, .ref 55), (1, .int a1)]) (st' := [.int (-4)]) rfl rfl ?_
          refine zy_r (mr := zm_m272) rfl rfl rfl ?_
          refine ⟨⟨_, rfl, ?_⟩, Nat.le_trans (zs_lleE e24 (zs_lleE e23 (zs_lleE e22 (zs_lleE e21 (zs_lleE e20 (zs_lleE e18 (zs_lleE e16 (zs_lleE e15 (zs_lleE e14 (zs_lleE e13 (zs_lleE e11 (zs_lleE e10 (zs_lleE e9 (zs_lleE e7 (zs_lleE e5 (zs_lleE e3 (zs_lleE e1 KL))))))))))))))))) (by decide), Nat.le_trans (zs_szleE (w := 109) e24 (zs_eqE e23 (zs_eqE e22 (zs_eqE e21 (zs_eqE e20 k19)))) rfl rfl (zs_szleE (w := 109) e23 (zs_eqE e22 (zs_eqE e21 (zs_eqE e20 k19))) rfl rfl (zs_szleE (w := 109) e22 (zs_eqE e21 (zs_eqE e20 k19)) rfl rfl (zs_szleE (w := 109) e21 (zs_eqE e20 k19) rfl rfl (zs_szleE (w := 109) e20 k19 rfl rfl (zs_szleE (w := 109) e18 (zs_eqE e16 (zs_eqE e15 (zs_eqE e14 (zs_eqE e13 (zs_eqE e11 (zs_eqE e10 (zs_eqE e9 k8))))))) rfl rfl (zs_szleE (w := 109) e16 (zs_eqE e15 (zs_eqE e14 (zs_eqE e13 (zs_eqE e11 (zs_eqE e10 (zs_eqE e9 k8)))))) rfl rfl (zs_szleE (w := 109) e15 (zs_eqE e14 (zs_eqE e13 (zs_eqE e11 (zs_eqE e10 (zs_eqE e9 k8))))) rfl rfl (zs_szleE (w := 109) e14 (zs_eqE e13 (zs_eqE e11 (zs_eqE e10 (zs_eqE e9 k8)))) rfl rfl (zs_szleE (w := 109) e13 (zs_eqE e11 (zs_eqE e10 (zs_eqE e9 k8))) rfl rfl (zs_szleE (w := 109) e11 (zs_eqE e10 (zs_eqE e9 k8)) rfl rfl (zs_szleE (w := 109) e10 (zs_eqE e9 k8) rfl rfl (zs_szleE (w := 109) e9 k8 rfl rfl (zs_szleE (w := 109) e7 (zs_eqE e5 (zs_neE e3 (zs_eqE e1 ((K 55 (by decide) (by decide)).trans (zp_o F 10 rfl))) (by decide))) rfl rfl (zs_szleE (w := 109) e5 (zs_neE e3 (zs_eqE e1 ((K 55 (by decide) (by decide)).trans (zp_o F 10 rfl))) (by decide)) rfl rfl (zs_szleE (w := 15) e3 (zs_neE e1 ((K 96 (by decide) (by decide)).trans (zp_i F 71 rfl)) (by decide)) rfl rfl (zs_szleE (w := 109) e1 ((K 55 (by decide) (by decide)).trans (zp_o F 10 rfl)) rfl rfl KS))))))))))))))))) (by decide)⟩
          first | (simp [zf_32, hc2]; done) | (simp [zf_32, hc2]; unfold zw; decide)
  · skip
    refine zy_b (q := (19, [])) (mr := zm_m272) rfl rfl rfl ?_
    refine zy_n 1 (mr := zm_m272) (pc' := 21) (ls' := [(0, .ref 55), (1, .int a1)]) (st' := [.int (-2)]) rfl rfl ?_
    refine zy_r (mr := zm_m272) rfl rfl rfl ?_
    refine ⟨⟨_, rfl, ?_⟩, Nat.le_trans (zs_lleE e1 KL) (by decide), Nat.le_trans (zs_szleE (w := 109) e1 ((K 55 (by decide) (by decide)).trans (zp_o F 10 rfl)) rfl rfl KS) (by decide)⟩
    first | (simp [zf_32, hc2]; done) | (simp [zf_32, hc2]; unfold zw; decide)
set_option maxHeartbeats 4000000 in
set_option maxRecDepth 20000 in
theorem zn_33 {og : Nat → Option zm_C} {h h0 : zm_H} (F : zp_ck h = true) (K : ∀ k : Nat, 55 ≤ k → k < 117 → h0[k]? = h[k]?) (KL : h0.length ≤ 200) (KS : zm_szs h0 ≤ 90000) (a1 : Int32) (a2 : Int32) : zm_Y og 30 275 0 [(0, .ref 55), (1, .int a1), (2, .int a2)] [] h0 (fun r h1 => (∃ v, r = some (.long v) ∧ zf_33 a1 a2 v) ∧ h1.length ≤ 300 ∧ zm_szs h1 ≤ 200000) := by
  refine zy_n 2 (mr := zm_m275) (pc' := 2) (ls' := [(0, .ref 55), (1, .int a1), (2, .int a2)]) (st' := [.int 0, .ref 55]) rfl rfl ?_
  refine zy_hS (x := .inr (11, [.int 0, .ref 56, .ref 57, .ref 58, .ref 59, .int 0, .int 0, .int 0, .int 0, .int 0, .int 0, .int 20, .int 30, .int 5, .int 2, .ref 60, .ref 61, .ref 62, .ref 63, .ref 64, .ref 65, .ref 66, .ref 67, .ref 68, .ref 69, .ref 70, .ref 71, .ref 72, .ref 73, .ref 74, .ref 75, .ref 76, .ref 77, .ref 78, .ref 79, .ref 80, .ref 81, .ref 82, .ref 83, .ref 84, .ref 85, .ref 86, .ref 87, .ref 88, .ref 89, .ref 90, .ref 91, .ref 92, .ref 93, .ref 94, .int 0, .int (-1), .ref 95, .ref 96, .ref 97, .ref 98, .int 0, .int 0, .int 0, .int 0, .int 0, .int 0, .int 0, .int 0, .int 0, .int 0, .int 0, .int 0, .int 0, .long 0, .int 0, .int 0, .int 0, .long 0, .long 0, .long 0, .long 0, .int 0, .int 0, .int 0, .int 0, .ref 99, .int 0, .int 0, .int 0, .ref 100, .ref 101, .ref 102, .ref 103, .ref 104, .ref 105, .ref 106, .ref 107, .ref 108, .ref 109, .ref 110, .ref 111, .ref 112, .ref 113, .ref 114, .int 0, .int 0, .int 0, .long 0, .long 0, .int 0, .ref 115, .ref 116, .int 0])) (mr := zm_m275) rfl rfl (zh_put ((K 55 (by decide) (by decide)).trans (zp_o F 10 rfl)) rfl rfl) (fun he1 e1 => ?_)
  refine zy_n 4 (mr := zm_m275) (pc' := 9) (ls' := [(0, .ref 55), (1, .int a1), (2, .int a2)]) (st' := [.ref 55, .long 0, .long a1.toInt64]) rfl rfl ?_
  refine zy_h (mr := zm_m275) rfl rfl (zh_get (v := .int 0) (zs_eqE e1 ((K 55 (by decide) (by decide)).trans (zp_o F 10 rfl))) rfl) ?_
  refine zy_n 3 (mr := zm_m275) (pc' := 15) (ls' := [(0, .ref 55), (1, .int a1), (2, .int a2)]) (st' := [.long (-1), .long 0, .long a1.toInt64]) rfl rfl ?_
  refine zy_c (mc := zm_m183) (mr := zm_m275) rfl rfl rfl rfl rfl (zm_Y.mono (zk_in a1 0 (-1) rfl (by decide) (by decide)) ?_)
  rintro r h1 ⟨rfl, ⟨rfl, hc2⟩ | ⟨rfl, hc2⟩⟩
  · exact absurd hc2 (zl_emp (by decide))
  refine zy_b (q := (21, [])) (mr := zm_m275) rfl rfl rfl ?_
  refine zy_n 1 (mr := zm_m275) (pc' := 22) (ls' := [(0, .ref 55), (1, .int a1), (2, .int a2)]) (st' := [.long 0]) rfl rfl ?_
  refine zy_r (mr := zm_m275) rfl rfl rfl ?_
  refine ⟨⟨_, rfl, ?_⟩, Nat.le_trans (zs_lleE e1 KL) (by decide), Nat.le_trans (zs_szleE (w := 109) e1 ((K 55 (by decide) (by decide)).trans (zp_o F 10 rfl)) rfl rfl KS) (by decide)⟩
  first | (simp [zf_33]; done) | (simp [zf_33]; unfold zw; decide)
set_option maxHeartbeats 4000000 in
set_option maxRecDepth 20000 in
theorem zn_34 {og : Nat → Option zm_C} {h h0 : zm_H} (F : zp_ck h = true) (K : ∀ k : Nat, 55 ≤ k → k < 117 → h0[k]? = h[k]?) (KL : h0.length ≤ 200) (KS : zm_szs h0 ≤ 90000) (a1 : Int32) (a2 : Int32) (a3 : Int32) : zm_Y og 30 276 0 [(0, .ref 55), (1, .int a1), (2, .int a2), (3, .int a3)] [] h0 (fun r h1 => (∃ v, r = some (.int v) ∧ zf_34 a1 a2 a3 v) ∧ h1.length ≤ 300 ∧ zm_szs h1 ≤ 200000) := by
  refine zy_n 2 (mr := zm_m276) (pc' := 2) (ls' := [(0, .ref 55), (1, .int a1), (2, .int a2), (3, .int a3)]) (st' := [.int 0, .ref 55]) rfl rfl ?_
  refine zy_hS (x := .inr (11, [.int 0, .ref 56, .ref 57, .ref 58, .ref 59, .int 0, .int 0, .int 0, .int 0, .int 0, .int 0, .int 20, .int 30, .int 5, .int 2, .ref 60, .ref 61, .ref 62, .ref 63, .ref 64, .ref 65, .ref 66, .ref 67, .ref 68, .ref 69, .ref 70, .ref 71, .ref 72, .ref 73, .ref 74, .ref 75, .ref 76, .ref 77, .ref 78, .ref 79, .ref 80, .ref 81, .ref 82, .ref 83, .ref 84, .ref 85, .ref 86, .ref 87, .ref 88, .ref 89, .ref 90, .ref 91, .ref 92, .ref 93, .ref 94, .int 0, .int (-1), .ref 95, .ref 96, .ref 97, .ref 98, .int 0, .int 0, .int 0, .int 0, .int 0, .int 0, .int 0, .int 0, .int 0, .int 0, .int 0, .int 0, .int 0, .long 0, .int 0, .int 0, .int 0, .long 0, .long 0, .long 0, .long 0, .int 0, .int 0, .int 0, .int 0, .ref 99, .int 0, .int 0, .int 0, .ref 100, .ref 101, .ref 102, .ref 103, .ref 104, .ref 105, .ref 106, .ref 107, .ref 108, .ref 109, .ref 110, .ref 111, .ref 112, .ref 113, .ref 114, .int 0, .int 0, .int 0, .long 0, .long 0, .int 0, .ref 115, .ref 116, .int 0])) (mr := zm_m276) rfl rfl (zh_put ((K 55 (by decide) (by decide)).trans (zp_o F 10 rfl)) rfl rfl) (fun he1 e1 => ?_)
  refine zy_n 1 (mr := zm_m276) (pc' := 6) (ls' := [(0, .ref 55), (1, .int a1), (2, .int a2), (3, .int a3)]) (st' := [.int a1]) rfl rfl ?_
  refine zy_c (mc := zm_m182) (mr := zm_m276) rfl rfl rfl rfl rfl ?_
  refine zy_n 4 (mr := zm_m182) (pc' := 6) (ls' := [(0, .int a1)]) (st' := [.long 3, .long 0, .long a1.toInt64]) rfl rfl ?_
  refine zy_c (mc := zm_m183) (mr := zm_m182) rfl rfl rfl rfl rfl (zm_Y.mono (zk_in a1 0 3 rfl (by decide) (by decide)) ?_)
  rintro r h1 ⟨rfl, ⟨rfl, hc2⟩ | ⟨rfl, hc2⟩⟩
  · skip
    refine zy_r (mr := zm_m182) rfl rfl rfl ?_
    refine zy_b (q := (12, [])) (mr := zm_m276) rfl rfl rfl ?_
    refine zy_n 1 (mr := zm_m276) (pc' := 13) (ls' := [(0, .ref 55), (1, .int a1), (2, .int a2), (3, .int a3)]) (st' := [.int a2]) rfl rfl ?_
    refine zy_c (mc := zm_m182) (mr := zm_m276) rfl rfl rfl rfl rfl ?_
    refine zy_n 4 (mr := zm_m182) (pc' := 6) (ls' := [(0, .int a2)]) (st' := [.long 3, .long 0, .long a2.toInt64]) rfl rfl ?_
    refine zy_c (mc := zm_m183) (mr := zm_m182) rfl rfl rfl rfl rfl (zm_Y.mono (zk_in a2 0 3 rfl (by decide) (by decide)) ?_)
    rintro r h1 ⟨rfl, ⟨rfl, hc3⟩ | ⟨rfl, hc3⟩⟩
    · skip
      refine zy_r (mr := zm_m182) rfl rfl rfl ?_
      refine zy_b (q := (19, [])) (mr := zm_m276) rfl rfl rfl ?_
      refine zy_n 4 (mr := zm_m276) (pc' := 25) (ls' := [(0, .ref 55), (1, .int a1), (2, .int a2), (3, .int a3)]) (st' := [.long 1000, .long 0, .long a3.toInt64]) rfl rfl ?_
      refine zy_c (mc := zm_m183) (mr := zm_m276) rfl rfl rfl rfl rfl (zm_Y.mono (zk_in a3 0 1000 rfl (by decide) (by decide)) ?_)
      rintro r h1 ⟨rfl, ⟨rfl, hc4⟩ | ⟨rfl, hc4⟩⟩
      · skip
        refine zy_b (q := (34, [])) (mr := zm_m276) rfl rfl rfl ?_
        refine zy_n 1 (mr := zm_m276) (pc' := 35) (ls' := [(0, .ref 55), (1, .int a1), (2, .int a2), (3, .int a3)]) (st' := [.ref 55]) rfl rfl ?_
        refine zy_h (mr := zm_m276) rfl rfl (zh_get (v := .ref 56) (zs_eqE e1 ((K 55 (by decide) (by decide)).trans (zp_o F 10 rfl))) rfl) ?_
        refine zy_n 1 (mr := zm_m276) (pc' := 39) (ls' := [(0, .ref 55), (1, .int a1), (2, .int a2), (3, .int a3)]) (st' := [.int a1, .ref 56]) rfl rfl ?_
        refine zy_h (mr := zm_m276) rfl rfl (zh_iald (v := (-1)) (zs_neE e1 ((K 56 (by decide) (by decide)).trans (zp_i F 34 rfl)) (by decide)) (zl_in hc2 (by decide) (by decide)) (zp_iall F 34 rfl (v := (-1)) (by decide) (by decide) (zl_lt hc2 (by decide) (by decide)))) ?_
        refine zy_b (q := (52, [])) (mr := zm_m276) rfl rfl rfl ?_
        refine zy_n 1 (mr := zm_m276) (pc' := 54) (ls' := [(0, .ref 55), (1, .int a1), (2, .int a2), (3, .int a3)]) (st' := [.int (-5)]) rfl rfl ?_
        refine zy_r (mr := zm_m276) rfl rfl rfl ?_
        refine ⟨⟨_, rfl, ?_⟩, Nat.le_trans (zs_lleE e1 KL) (by decide), Nat.le_trans (zs_szleE (w := 109) e1 ((K 55 (by decide) (by decide)).trans (zp_o F 10 rfl)) rfl rfl KS) (by decide)⟩
        first | (simp [zf_34, hc2, hc3, hc4]; done) | (simp [zf_34, hc2, hc3, hc4]; unfold zw; decide)
      · skip
        refine zy_b (q := (31, [])) (mr := zm_m276) rfl rfl rfl ?_
        refine zy_n 1 (mr := zm_m276) (pc' := 33) (ls' := [(0, .ref 55), (1, .int a1), (2, .int a2), (3, .int a3)]) (st' := [.int (-2)]) rfl rfl ?_
        refine zy_r (mr := zm_m276) rfl rfl rfl ?_
        refine ⟨⟨_, rfl, ?_⟩, Nat.le_trans (zs_lleE e1 KL) (by decide), Nat.le_trans (zs_szleE (w := 109) e1 ((K 55 (by decide) (by decide)).trans (zp_o F 10 rfl)) rfl rfl KS) (by decide)⟩
        first | (simp [zf_34, hc2, hc3, hc4]; done) | (simp [zf_34, hc2, hc3, hc4]; unfold zw; decide)
    · skip
      refine zy_r (mr := zm_m182) rfl rfl rfl ?_
      refine zy_b (q := (31, [])) (mr := zm_m276) rfl rfl rfl ?_
      refine zy_n 1 (mr := zm_m276) (pc' := 33) (ls' := [(0, .ref 55), (1, .int a1), (2, .int a2), (3, .int a3)]) (st' := [.int (-2)]) rfl rfl ?_
      refine zy_r (mr := zm_m276) rfl rfl rfl ?_
      refine ⟨⟨_, rfl, ?_⟩, Nat.le_trans (zs_lleE e1 KL) (by decide), Nat.le_trans (zs_szleE (w := 109) e1 ((K 55 (by decide) (by decide)).trans (zp_o F 10 rfl)) rfl rfl KS) (by decide)⟩
      first | (simp [zf_34, hc2, hc3]; done) | (simp [zf_34, hc2, hc3]; unfold zw; decide)
  · skip
    refine zy_r (mr := zm_m182) rfl rfl rfl ?_
    refine zy_b (q := (31, [])) (mr := zm_m276) rfl rfl rfl ?_
    refine zy_n 1 (mr := zm_m276) (pc' := 33) (ls' := [(0, .ref 55), (1, .int a1), (2, .int a2), (3, .int a3)]) (st' := [.int (-2)]) rfl rfl ?_
    refine zy_r (mr := zm_m276) rfl rfl rfl ?_
    refine ⟨⟨_, rfl, ?_⟩, Nat.le_trans (zs_lleE e1 KL) (by decide), Nat.le_trans (zs_szleE (w := 109) e1 ((K 55 (by decide) (by decide)).trans (zp_o F 10 rfl)) rfl rfl KS) (by decide)⟩
    first | (simp [zf_34, hc2]; done) | (simp [zf_34, hc2]; unfold zw; decide)
set_option maxHeartbeats 4000000 in
set_option maxRecDepth 20000 in
theorem zn_35 {og : Nat → Option zm_C} {h h0 : zm_H} (F : zp_ck h = true) (K : ∀ k : Nat, 55 ≤ k → k < 117 → h0[k]? = h[k]?) (KL : h0.length ≤ 200) (KS : zm_szs h0 ≤ 90000) (a1 : Int32) : zm_Y og 30 278 0 [(0, .ref 55), (1, .int a1)] [] h0 (fun r h1 => (∃ v, r = some (.int v) ∧ zf_35 a1 v) ∧ h1.length ≤ 300 ∧ zm_szs h1 ≤ 200000) := by
  refine zy_n 2 (mr := zm_m278) (pc' := 2) (ls' := [(0, .ref 55), (1, .int a1)]) (st' := [.int 0, .ref 55]) rfl rfl ?_
  refine zy_hS (x := .inr (11, [.int 0, .ref 56, .ref 57, .ref 58, .ref 59, .int 0, .int 0, .int 0, .int 0, .int 0, .int 0, .int 20, .int 30, .int 5, .int 2, .ref 60, .ref 61, .ref 62, .ref 63, .ref 64, .ref 65, .ref 66, .ref 67, .ref 68, .ref 69, .ref 70, .ref 71, .ref 72, .ref 73, .ref 74, .ref 75, .ref 76, .ref 77, .ref 78, .ref 79, .ref 80, .ref 81, .ref 82, .ref 83, .ref 84, .ref 85, .ref 86, .ref 87, .ref 88, .ref 89, .ref 90, .ref 91, .ref 92, .ref 93, .ref 94, .int 0, .int (-1), .ref 95, .ref 96, .ref 97, .ref 98, .int 0, .int 0, .int 0, .int 0, .int 0, .int 0, .int 0, .int 0, .int 0, .int 0, .int 0, .int 0, .int 0, .long 0, .int 0, .int 0, .int 0, .long 0, .long 0, .long 0, .long 0, .int 0, .int 0, .int 0, .int 0, .ref 99, .int 0, .int 0, .int 0, .ref 100, .ref 101, .ref 102, .ref 103, .ref 104, .ref 105, .ref 106, .ref 107, .ref 108, .ref 109, .ref 110, .ref 111, .ref 112, .ref 113, .ref 114, .int 0, .int 0, .int 0, .long 0, .long 0, .int 0, .ref 115, .ref 116, .int 0])) (mr := zm_m278) rfl rfl (zh_put ((K 55 (by decide) (by decide)).trans (zp_o F 10 rfl)) rfl rfl) (fun he1 e1 => ?_)
  refine zy_n 4 (mr := zm_m278) (pc' := 9) (ls' := [(0, .ref 55), (1, .int a1)]) (st' := [.ref 55, .long 0, .long a1.toInt64]) rfl rfl ?_
  refine zy_h (mr := zm_m278) rfl rfl (zh_get (v := .int 0) (zs_eqE e1 ((K 55 (by decide) (by decide)).trans (zp_o F 10 rfl))) rfl) ?_
  refine zy_n 3 (mr := zm_m278) (pc' := 15) (ls' := [(0, .ref 55), (1, .int a1)]) (st' := [.long (-1), .long 0, .long a1.toInt64]) rfl rfl ?_
  refine zy_c (mc := zm_m183) (mr := zm_m278) rfl rfl rfl rfl rfl (zm_Y.mono (zk_in a1 0 (-1) rfl (by decide) (by decide)) ?_)
  rintro r h1 ⟨rfl, ⟨rfl, hc2⟩ | ⟨rfl, hc2⟩⟩
  · exact absurd hc2 (zl_emp (by decide))
  refine zy_b (q := (30, [])) (mr := zm_m278) rfl rfl rfl ?_
  refine zy_n 1 (mr := zm_m278) (pc' := 31) (ls' := [(0, .ref 55), (1, .int a1)]) (st' := [.int (-1)]) rfl rfl ?_
  refine zy_r (mr := zm_m278) rfl rfl rfl ?_
  refine ⟨⟨_, rfl, ?_⟩, Nat.le_trans (zs_lleE e1 KL) (by decide), Nat.le_trans (zs_szleE (w := 109) e1 ((K 55 (by decide) (by decide)).trans (zp_o F 10 rfl)) rfl rfl KS) (by decide)⟩
  first | (simp [zf_35]; done) | (simp [zf_35]; unfold zw; decide)
