set_option maxHeartbeats 4000000 in
set_option maxRecDepth 20000 in
theorem zx_0 {og : Nat → Option zm_C} {h : zm_H} (F : zp_ck h = true) (a1 : Int32) (a2 : Int32) (a3 : Int32) : zm_Y og 30 9 0 [(0, .ref 0), (1, .int a1), (2, .int a2), (3, .int a3)] [] h (fun r h1 => (∃ v, r = some (.int v) ∧ zf_0 a1 a2 a3 v) ∧ (∀ k : Nat, 55 ≤ k → k < 117 → h1[k]? = h[k]?) ∧ h1.length ≤ 200 ∧ zm_szs h1 ≤ 90000) := by
  refine zy_n 3 (mr := zm_m9) (pc' := 3) (ls' := [(0, .ref 0), (1, .int a1), (2, .int a2), (3, .int a3)]) (st' := [.int 3, .int 0, .int a1]) rfl rfl ?_
  refine zy_c (mc := zm_m10) (mr := zm_m9) rfl rfl rfl rfl rfl (zm_Y.mono (zk_within a1 0 3) ?_)
  rintro r h1 ⟨rfl, ⟨rfl, hc1⟩ | ⟨rfl, hc1⟩⟩
  · skip
    refine zy_b (q := (9, [])) (mr := zm_m9) rfl rfl rfl ?_
    refine zy_n 3 (mr := zm_m9) (pc' := 13) (ls' := [(0, .ref 0), (1, .int a1), (2, .int a2), (3, .int a3)]) (st' := [.int 50, .int 0, .int a2]) rfl rfl ?_
    refine zy_c (mc := zm_m10) (mr := zm_m9) rfl rfl rfl rfl rfl (zm_Y.mono (zk_within a2 0 50) ?_)
    rintro r h1 ⟨rfl, ⟨rfl, hc2⟩ | ⟨rfl, hc2⟩⟩
    · skip
      refine zy_b (q := (19, [])) (mr := zm_m9) rfl rfl rfl ?_
      refine zy_n 3 (mr := zm_m9) (pc' := 24) (ls' := [(0, .ref 0), (1, .int a1), (2, .int a2), (3, .int a3)]) (st' := [.int 200, .int 0, .int a3]) rfl rfl ?_
      refine zy_c (mc := zm_m10) (mr := zm_m9) rfl rfl rfl rfl rfl (zm_Y.mono (zk_within a3 0 200) ?_)
      rintro r h1 ⟨rfl, ⟨rfl, hc3⟩ | ⟨rfl, hc3⟩⟩
      · skip
        refine zy_b (q := (33, [])) (mr := zm_m9) rfl rfl rfl ?_
        refine zy_n 1 (mr := zm_m9) (pc' := 34) (ls' := [(0, .ref 0), (1, .int a1), (2, .int a2), (3, .int a3)]) (st' := [.ref 0]) rfl rfl ?_
        refine zy_h (mr := zm_m9) rfl rfl (zh_get (v := .ref 36) (zp_o F 0 rfl) rfl) ?_
        refine zy_h (mr := zm_m9) rfl rfl (zh_get (v := .ref 37) (zp_o F 7 rfl) rfl) ?_
        refine zy_n 2 (mr := zm_m9) (pc' := 42) (ls' := [(0, .ref 0), (1, .int a1), (2, .int a2), (3, .int a3)]) (st' := [.int a2, .int a1, .ref 37]) rfl rfl ?_
        refine zy_h (mr := zm_m9) rfl rfl (zh_iast (zp_i F 25 rfl) (zl_in hc1 (by decide) (by decide))) ?_
        refine zy_n 1 (mr := zm_m9) (pc' := 44) (ls' := [(0, .ref 0), (1, .int a1), (2, .int a2), (3, .int a3)]) (st' := [.ref 0]) rfl rfl ?_
        refine zy_h (mr := zm_m9) rfl rfl (zh_get (v := .ref 36) (zs_ne (zp_o F 0 rfl) (by decide)) rfl) ?_
        refine zy_h (mr := zm_m9) rfl rfl (zh_get (v := .ref 38) (zs_ne (zp_o F 7 rfl) (by decide)) rfl) ?_
        refine zy_n 2 (mr := zm_m9) (pc' := 52) (ls' := [(0, .ref 0), (1, .int a1), (2, .int a2), (3, .int a3)]) (st' := [.int a3, .int a1, .ref 38]) rfl rfl ?_
        refine zy_h (mr := zm_m9) rfl rfl (zh_iast (zs_ne (zp_i F 26 rfl) (by decide)) (zl_in hc1 (by decide) (by decide))) ?_
        refine zy_n 1 (mr := zm_m9) (pc' := 54) (ls' := [(0, .ref 0), (1, .int a1), (2, .int a2), (3, .int a3)]) (st' := [.ref 0]) rfl rfl ?_
        refine zy_h (mr := zm_m9) rfl rfl (zh_get (v := .ref 36) (zs_ne (zs_ne (zp_o F 0 rfl) (by decide)) (by decide)) rfl) ?_
        refine zy_n 1 (mr := zm_m9) (pc' := 58) (ls' := [(0, .ref 0), (1, .int a1), (2, .int a2), (3, .int a3)]) (st' := [.int 0, .ref 36]) rfl rfl ?_
        refine zy_h (mr := zm_m9) rfl rfl (zh_put (zs_ne (zs_ne (zp_o F 7 rfl) (by decide)) (by decide)) rfl (by decide)) ?_
        refine zy_n 1 (mr := zm_m9) (pc' := 62) (ls' := [(0, .ref 0), (1, .int a1), (2, .int a2), (3, .int a3)]) (st' := [.int 0]) rfl rfl ?_
        refine zy_r (mr := zm_m9) rfl rfl rfl ?_
        refine ⟨⟨_, rfl, ?_⟩, fun k hk1 hk2 => ((List.getElem?_set_ne (by omega)).trans ((List.getElem?_set_ne (by omega)).trans ((List.getElem?_set_ne (by omega)).trans rfl))), by rw [(zs_lset (zs_lset (zs_lset (zp_len F).1)))]; decide, by rw [(zs_szset (zs_ne (zs_ne (zp_o F 7 rfl) (by decide)) (by decide)) rfl (zs_szset (zs_ne (zp_i F 26 rfl) (by decide)) rfl (zs_szset (zp_i F 25 rfl) rfl (zp_len F).2)))]; decide⟩
        simp [zf_0, hc1, hc2, hc3]
      · skip
        refine zy_b (q := (30, [])) (mr := zm_m9) rfl rfl rfl ?_
        refine zy_n 1 (mr := zm_m9) (pc' := 32) (ls' := [(0, .ref 0), (1, .int a1), (2, .int a2), (3, .int a3)]) (st' := [.int (-2)]) rfl rfl ?_
        refine zy_r (mr := zm_m9) rfl rfl rfl ?_
        refine ⟨⟨_, rfl, ?_⟩, fun k hk1 hk2 => rfl, by rw [(zp_len F).1]; decide, by rw [(zp_len F).2]; decide⟩
        simp [zf_0, hc1, hc2, hc3]
    · skip
      refine zy_b (q := (30, [])) (mr := zm_m9) rfl rfl rfl ?_
      refine zy_n 1 (mr := zm_m9) (pc' := 32) (ls' := [(0, .ref 0), (1, .int a1), (2, .int a2), (3, .int a3)]) (st' := [.int (-2)]) rfl rfl ?_
      refine zy_r (mr := zm_m9) rfl rfl rfl ?_
      refine ⟨⟨_, rfl, ?_⟩, fun k hk1 hk2 => rfl, by rw [(zp_len F).1]; decide, by rw [(zp_len F).2]; decide⟩
      simp [zf_0, hc1, hc2]
  · skip
    refine zy_b (q := (30, [])) (mr := zm_m9) rfl rfl rfl ?_
    refine zy_n 1 (mr := zm_m9) (pc' := 32) (ls' := [(0, .ref 0), (1, .int a1), (2, .int a2), (3, .int a3)]) (st' := [.int (-2)]) rfl rfl ?_
    refine zy_r (mr := zm_m9) rfl rfl rfl ?_
    refine ⟨⟨_, rfl, ?_⟩, fun k hk1 hk2 => rfl, by rw [(zp_len F).1]; decide, by rw [(zp_len F).2]; decide⟩
    simp [zf_0, hc1]
set_option maxHeartbeats 4000000 in
set_option maxRecDepth 20000 in
theorem zx_1 {og : Nat → Option zm_C} {h : zm_H} (F : zp_ck h = true) (a1 : Int32) (a2 : Int32) (a3 : Int32) (a4 : Int32) : zm_Y og 30 11 0 [(0, .ref 0), (1, .int a1), (2, .int a2), (3, .int a3), (4, .int a4)] [] h (fun r h1 => (∃ v, r = some (.int v) ∧ zf_1 a1 a2 a3 a4 v) ∧ (∀ k : Nat, 55 ≤ k → k < 117 → h1[k]? = h[k]?) ∧ h1.length ≤ 200 ∧ zm_szs h1 ≤ 90000) := by
  refine zy_n 3 (mr := zm_m11) (pc' := 5) (ls' := [(0, .ref 0), (1, .int a1), (2, .int a2), (3, .int a3), (4, .int a4)]) (st' := [.int 1000, .int 0, .int a1]) rfl rfl ?_
  refine zy_c (mc := zm_m10) (mr := zm_m11) rfl rfl rfl rfl rfl (zm_Y.mono (zk_within a1 0 1000) ?_)
  rintro r h1 ⟨rfl, ⟨rfl, hc1⟩ | ⟨rfl, hc1⟩⟩
  · skip
    refine zy_b (q := (11, [])) (mr := zm_m11) rfl rfl rfl ?_
    refine zy_n 3 (mr := zm_m11) (pc' := 16) (ls' := [(0, .ref 0), (1, .int a1), (2, .int a2), (3, .int a3), (4, .int a4)]) (st' := [.int 1000, .int 0, .int a2]) rfl rfl ?_
    refine zy_c (mc := zm_m10) (mr := zm_m11) rfl rfl rfl rfl rfl (zm_Y.mono (zk_within a2 0 1000) ?_)
    rintro r h1 ⟨rfl, ⟨rfl, hc2⟩ | ⟨rfl, hc2⟩⟩
    · skip
      refine zy_b (q := (22, [])) (mr := zm_m11) rfl rfl rfl ?_
      refine zy_n 3 (mr := zm_m11) (pc' := 26) (ls' := [(0, .ref 0), (1, .int a1), (2, .int a2), (3, .int a3), (4, .int a4)]) (st' := [.int 60, .int 0, .int a3]) rfl rfl ?_
      refine zy_c (mc := zm_m10) (mr := zm_m11) rfl rfl rfl rfl rfl (zm_Y.mono (zk_within a3 0 60) ?_)
      rintro r h1 ⟨rfl, ⟨rfl, hc3⟩ | ⟨rfl, hc3⟩⟩
      · skip
        refine zy_b (q := (32, [])) (mr := zm_m11) rfl rfl rfl ?_
        refine zy_n 3 (mr := zm_m11) (pc' := 37) (ls' := [(0, .ref 0), (1, .int a1), (2, .int a2), (3, .int a3), (4, .int a4)]) (st' := [.int 20, .int 0, .int a4]) rfl rfl ?_
        refine zy_c (mc := zm_m10) (mr := zm_m11) rfl rfl rfl rfl rfl (zm_Y.mono (zk_within a4 0 20) ?_)
        rintro r h1 ⟨rfl, ⟨rfl, hc4⟩ | ⟨rfl, hc4⟩⟩
        · skip
          refine zy_b (q := (46, [])) (mr := zm_m11) rfl rfl rfl ?_
          refine zy_n 1 (mr := zm_m11) (pc' := 47) (ls' := [(0, .ref 0), (1, .int a1), (2, .int a2), (3, .int a3), (4, .int a4)]) (st' := [.ref 0]) rfl rfl ?_
          refine zy_h (mr := zm_m11) rfl rfl (zh_get (v := .ref 36) (zp_o F 0 rfl) rfl) ?_
          refine zy_n 1 (mr := zm_m11) (pc' := 51) (ls' := [(0, .ref 0), (1, .int a1), (2, .int a2), (3, .int a3), (4, .int a4)]) (st' := [.int a1, .ref 36]) rfl rfl ?_
          refine zy_h (mr := zm_m11) rfl rfl (zh_put (zp_o F 7 rfl) rfl rfl) ?_
          refine zy_n 1 (mr := zm_m11) (pc' := 55) (ls' := [(0, .ref 0), (1, .int a1), (2, .int a2), (3, .int a3), (4, .int a4)]) (st' := [.ref 0]) rfl rfl ?_
          refine zy_h (mr := zm_m11) rfl rfl (zh_get (v := .ref 36) (zs_ne (zp_o F 0 rfl) (by decide)) rfl) ?_
          refine zy_n 1 (mr := zm_m11) (pc' := 59) (ls' := [(0, .ref 0), (1, .int a1), (2, .int a2), (3, .int a3), (4, .int a4)]) (st' := [.int a2, .ref 36]) rfl rfl ?_
          refine zy_h (mr := zm_m11) rfl rfl (zh_put (zs_eq (zp_o F 7 rfl)) rfl rfl) ?_
          refine zy_n 1 (mr := zm_m11) (pc' := 63) (ls' := [(0, .ref 0), (1, .int a1), (2, .int a2), (3, .int a3), (4, .int a4)]) (st' := [.ref 0]) rfl rfl ?_
          refine zy_h (mr := zm_m11) rfl rfl (zh_get (v := .ref 25) (zs_ne (zs_ne (zp_o F 0 rfl) (by decide)) (by decide)) rfl) ?_
          refine zy_n 1 (mr := zm_m11) (pc' := 67) (ls' := [(0, .ref 0), (1, .int a1), (2, .int a2), (3, .int a3), (4, .int a4)]) (st' := [.int a3, .ref 25]) rfl rfl ?_
          refine zy_h (mr := zm_m11) rfl rfl (zh_put (zs_ne (zs_ne (zp_o F 5 rfl) (by decide)) (by decide)) rfl rfl) ?_
          refine zy_n 2 (mr := zm_m11) (pc' := 73) (ls' := [(0, .ref 0), (1, .int a1), (2, .int a2), (3, .int a3), (4, .int a4)]) (st' := [.int a4, .ref 0]) rfl rfl ?_
          refine zy_h (mr := zm_m11) rfl rfl (zh_put (zs_ne (zs_ne (zs_ne (zp_o F 0 rfl) (by decide)) (by decide)) (by decide)) rfl rfl) ?_
          refine zy_n 1 (mr := zm_m11) (pc' := 77) (ls' := [(0, .ref 0), (1, .int a1), (2, .int a2), (3, .int a3), (4, .int a4)]) (st' := [.ref 0]) rfl rfl ?_
          refine zy_h (mr := zm_m11) rfl rfl (zh_get (v := .ref 36) (zs_eq (zs_ne (zs_ne (zs_ne (zp_o F 0 rfl) (by decide)) (by decide)) (by decide))) rfl) ?_
          refine zy_n 1 (mr := zm_m11) (pc' := 81) (ls' := [(0, .ref 0), (1, .int a1), (2, .int a2), (3, .int a3), (4, .int a4)]) (st' := [.int 0, .ref 36]) rfl rfl ?_
          refine zy_h (mr := zm_m11) rfl rfl (zh_put (zs_ne (zs_ne (zs_eq (zs_eq (zp_o F 7 rfl))) (by decide)) (by decide)) rfl (by decide)) ?_
          refine zy_n 1 (mr := zm_m11) (pc' := 85) (ls' := [(0, .ref 0), (1, .int a1), (2, .int a2), (3, .int a3), (4, .int a4)]) (st' := [.int 0]) rfl rfl ?_
          refine zy_r (mr := zm_m11) rfl rfl rfl ?_
          refine ⟨⟨_, rfl, ?_⟩, fun k hk1 hk2 => ((List.getElem?_set_ne (by omega)).trans ((List.getElem?_set_ne (by omega)).trans ((List.getElem?_set_ne (by omega)).trans ((List.getElem?_set_ne (by omega)).trans ((List.getElem?_set_ne (by omega)).trans rfl))))), by rw [(zs_lset (zs_lset (zs_lset (zs_lset (zs_lset (zp_len F).1)))))]; decide, by rw [(zs_szset (zs_ne (zs_ne (zs_eq (zs_eq (zp_o F 7 rfl))) (by decide)) (by decide)) rfl (zs_szset (zs_ne (zs_ne (zs_ne (zp_o F 0 rfl) (by decide)) (by decide)) (by decide)) rfl (zs_szset (zs_ne (zs_ne (zp_o F 5 rfl) (by decide)) (by decide)) rfl (zs_szset (zs_eq (zp_o F 7 rfl)) rfl (zs_szset (zp_o F 7 rfl) rfl (zp_len F).2)))))]; decide⟩
          simp [zf_1, hc1, hc2, hc3, hc4]
        · skip
          refine zy_b (q := (43, [])) (mr := zm_m11) rfl rfl rfl ?_
          refine zy_n 1 (mr := zm_m11) (pc' := 45) (ls' := [(0, .ref 0), (1, .int a1), (2, .int a2), (3, .int a3), (4, .int a4)]) (st' := [.int (-2)]) rfl rfl ?_
          refine zy_r (mr := zm_m11) rfl rfl rfl ?_
          refine ⟨⟨_, rfl, ?_⟩, fun k hk1 hk2 => rfl, by rw [(zp_len F).1]; decide, by rw [(zp_len F).2]; decide⟩
          simp [zf_1, hc1, hc2, hc3, hc4]
      · skip
        refine zy_b (q := (43, [])) (mr := zm_m11) rfl rfl rfl ?_
        refine zy_n 1 (mr := zm_m11) (pc' := 45) (ls' := [(0, .ref 0), (1, .int a1), (2, .int a2), (3, .int a3), (4, .int a4)]) (st' := [.int (-2)]) rfl rfl ?_
        refine zy_r (mr := zm_m11) rfl rfl rfl ?_
        refine ⟨⟨_, rfl, ?_⟩, fun k hk1 hk2 => rfl, by rw [(zp_len F).1]; decide, by rw [(zp_len F).2]; decide⟩
        simp [zf_1, hc1, hc2, hc3]
    · skip
      refine zy_b (q := (43, [])) (mr := zm_m11) rfl rfl rfl ?_
      refine zy_n 1 (mr := zm_m11) (pc' := 45) (ls' := [(0, .ref 0), (1, .int a1), (2, .int a2), (3, .int a3), (4, .int a4)]) (st' := [.int (-2)]) rfl rfl ?_
      refine zy_r (mr := zm_m11) rfl rfl rfl ?_
      refine ⟨⟨_, rfl, ?_⟩, fun k hk1 hk2 => rfl, by rw [(zp_len F).1]; decide, by rw [(zp_len F).2]; decide⟩
      simp [zf_1, hc1, hc2]
  · skip
    refine zy_b (q := (43, [])) (mr := zm_m11) rfl rfl rfl ?_
    refine zy_n 1 (mr := zm_m11) (pc' := 45) (ls' := [(0, .ref 0), (1, .int a1), (2, .int a2), (3, .int a3), (4, .int a4)]) (st' := [.int (-2)]) rfl rfl ?_
    refine zy_r (mr := zm_m11) rfl rfl rfl ?_
    refine ⟨⟨_, rfl, ?_⟩, fun k hk1 hk2 => rfl, by rw [(zp_len F).1]; decide, by rw [(zp_len F).2]; decide⟩
    simp [zf_1, hc1]
set_option maxHeartbeats 4000000 in
set_option maxRecDepth 20000 in
theorem zx_2 {og : Nat → Option zm_C} {h : zm_H} (F : zp_ck h = true) (a1 : Int32) (a2 : Int32) (a3 : Int32) (a4 : Int32) : zm_Y og 30 12 0 [(0, .ref 0), (1, .int a1), (2, .int a2), (3, .int a3), (4, .int a4)] [] h (fun r h1 => (∃ v, r = some (.int v) ∧ zf_2 a1 a2 a3 a4 v) ∧ (∀ k : Nat, 55 ≤ k → k < 117 → h1[k]? = h[k]?) ∧ h1.length ≤ 200 ∧ zm_szs h1 ≤ 90000) := by
  refine zy_n 3 (mr := zm_m12) (pc' := 3) (ls' := [(0, .ref 0), (1, .int a1), (2, .int a2), (3, .int a3), (4, .int a4)]) (st' := [.int 3, .int 0, .int a1]) rfl rfl ?_
  refine zy_c (mc := zm_m10) (mr := zm_m12) rfl rfl rfl rfl rfl (zm_Y.mono (zk_within a1 0 3) ?_)
  rintro r h1 ⟨rfl, ⟨rfl, hc1⟩ | ⟨rfl, hc1⟩⟩
  · skip
    refine zy_b (q := (9, [])) (mr := zm_m12) rfl rfl rfl ?_
    refine zy_n 1 (mr := zm_m12) (pc' := 10) (ls' := [(0, .ref 0), (1, .int a1), (2, .int a2), (3, .int a3), (4, .int a4)]) (st' := [.int a2]) rfl rfl ?_
    refine zy_c (mc := zm_m13) (mr := zm_m12) rfl rfl rfl rfl rfl ?_
    refine zy_n 3 (mr := zm_m13) (pc' := 5) (ls' := [(0, .int a2)]) (st' := [.int 10000, .int 0, .int a2]) rfl rfl ?_
    refine zy_c (mc := zm_m10) (mr := zm_m13) rfl rfl rfl rfl rfl (zm_Y.mono (zk_within a2 0 10000) ?_)
    rintro r h1 ⟨rfl, ⟨rfl, hc2⟩ | ⟨rfl, hc2⟩⟩
    · skip
      refine zy_r (mr := zm_m13) rfl rfl rfl ?_
      refine zy_b (q := (16, [])) (mr := zm_m12) rfl rfl rfl ?_
      refine zy_n 1 (mr := zm_m12) (pc' := 17) (ls' := [(0, .ref 0), (1, .int a1), (2, .int a2), (3, .int a3), (4, .int a4)]) (st' := [.int a3]) rfl rfl ?_
      refine zy_c (mc := zm_m14) (mr := zm_m12) rfl rfl rfl rfl rfl ?_
      refine zy_n 3 (mr := zm_m14) (pc' := 4) (ls' := [(0, .int a3)]) (st' := [.int 9, .int 1, .int a3]) rfl rfl ?_
      refine zy_c (mc := zm_m10) (mr := zm_m14) rfl rfl rfl rfl rfl (zm_Y.mono (zk_within a3 1 9) ?_)
      rintro r h1 ⟨rfl, ⟨rfl, hc3⟩ | ⟨rfl, hc3⟩⟩
      · skip
        refine zy_r (mr := zm_m14) rfl rfl rfl ?_
        refine zy_b (q := (23, [])) (mr := zm_m12) rfl rfl rfl ?_
        refine zy_n 3 (mr := zm_m12) (pc' := 28) (ls' := [(0, .ref 0), (1, .int a1), (2, .int a2), (3, .int a3), (4, .int a4)]) (st' := [.int 60, .int 1, .int a4]) rfl rfl ?_
        refine zy_c (mc := zm_m10) (mr := zm_m12) rfl rfl rfl rfl rfl (zm_Y.mono (zk_within a4 1 60) ?_)
        rintro r h1 ⟨rfl, ⟨rfl, hc4⟩ | ⟨rfl, hc4⟩⟩
        · skip
          refine zy_b (q := (37, [])) (mr := zm_m12) rfl rfl rfl ?_
          refine zy_n 1 (mr := zm_m12) (pc' := 38) (ls' := [(0, .ref 0), (1, .int a1), (2, .int a2), (3, .int a3), (4, .int a4)]) (st' := [.ref 0]) rfl rfl ?_
          refine zy_h (mr := zm_m12) rfl rfl (zh_get (v := .int 0) (zp_o F 0 rfl) rfl) ?_
          refine zy_n 1 (mr := zm_m12) (pc' := 43) (ls' := [(0, .ref 0), (1, .int a1), (2, .int a2), (3, .int a3), (4, .int a4)]) (st' := [.int 16, .int 0]) rfl rfl ?_
          refine zy_b (q := (49, [])) (mr := zm_m12) rfl rfl rfl ?_
          refine zy_n 1 (mr := zm_m12) (pc' := 50) (ls' := [(0, .ref 0), (1, .int a1), (2, .int a2), (3, .int a3), (4, .int a4)]) (st' := [.ref 0]) rfl rfl ?_
          refine zy_h (mr := zm_m12) rfl rfl (zh_get (v := .ref 1) (zp_o F 0 rfl) rfl) ?_
          refine zy_n 1 (mr := zm_m12) (pc' := 54) (ls' := [(0, .ref 0), (1, .int a1), (2, .int a2), (3, .int a3), (4, .int a4)]) (st' := [.ref 0, .ref 1]) rfl rfl ?_
          refine zy_h (mr := zm_m12) rfl rfl (zh_get (v := .int 0) (zp_o F 0 rfl) rfl) ?_
          refine zy_h (mr := zm_m12) rfl rfl (zh_new (zp_len F).1) ?_
          refine zy_n 7 (mr := zm_m12) (pc' := 68) (ls' := [(0, .ref 0), (1, .int a1), (2, .int a2), (3, .int a3), (4, .int a4)]) (st' := [.ref 0, .ref 0, .int a4, .int a3, .int a2, .int a1, .ref 117, .ref 117, .int 0, .ref 1]) rfl rfl ?_
          refine zy_h (mr := zm_m12) rfl rfl (zh_get (v := .int 0) (zs_app (zp_o F 0 rfl)) rfl) ?_
          refine zy_n 3 (mr := zm_m12) (pc' := 74) (ls' := [(0, .ref 0), (1, .int a1), (2, .int a2), (3, .int a3), (4, .int a4)]) (st' := [.int 1, .ref 0, .int 0, .int a4, .int a3, .int a2, .int a1, .ref 117, .ref 117, .int 0, .ref 1]) rfl rfl ?_
          refine zy_h (mr := zm_m12) rfl rfl (zh_put (zs_app (zp_o F 0 rfl)) rfl rfl) ?_
          refine zy_c (mc := zm_m15) (mr := zm_m12) rfl rfl rfl rfl rfl ?_
          refine zy_n 1 (mr := zm_m15) (pc' := 1) (ls' := [(0, .ref 117), (1, .int a1), (2, .int a2), (3, .int a3), (4, .int a4), (5, .int 0)]) (st' := [.ref 117]) rfl rfl ?_
          refine zy_h (mr := zm_m15) rfl rfl (zh_oinit) ?_
          refine zy_n 2 (mr := zm_m15) (pc' := 6) (ls' := [(0, .ref 117), (1, .int a1), (2, .int a2), (3, .int a3), (4, .int a4), (5, .int 0)]) (st' := [.int 0, .ref 117]) rfl rfl ?_
          refine zy_h (mr := zm_m15) rfl rfl (zh_put (zs_ne (zs_new (k := 0) (zp_len F).1 rfl) (by decide)) rfl rfl) ?_
          refine zy_n 2 (mr := zm_m15) (pc' := 12) (ls' := [(0, .ref 117), (1, .int a1), (2, .int a2), (3, .int a3), (4, .int a4), (5, .int 0)]) (st' := [.int 6, .ref 117]) rfl rfl ?_
          refine zy_h (mr := zm_m15) rfl rfl (zh_newa (N := 6) (zs_lset (zs_lset (zs_lapp (zp_len F).1 rfl))) (by decide) (by decide)) ?_
          refine zy_h (mr := zm_m15) rfl rfl (zh_put (zs_app (zs_eq (zs_ne (zs_new (k := 0) (zp_len F).1 rfl) (by decide)))) rfl rfl) ?_
          refine zy_n 2 (mr := zm_m15) (pc' := 19) (ls' := [(0, .ref 117), (1, .int a1), (2, .int a2), (3, .int a3), (4, .int a4), (5, .int 0)]) (st' := [.int 0, .ref 117]) rfl rfl ?_
          refine zy_h (mr := zm_m15) rfl rfl (zh_put (zs_eq (zs_app (zs_eq (zs_ne (zs_new (k := 0) (zp_len F).1 rfl) (by decide))))) rfl rfl) ?_
          refine zy_n 2 (mr := zm_m15) (pc' := 25) (ls' := [(0, .ref 117), (1, .int a1), (2, .int a2), (3, .int a3), (4, .int a4), (5, .int 0)]) (st' := [.int 10, .ref 117]) rfl rfl ?_
          refine zy_h (mr := zm_m15) rfl rfl (zh_anew (N := 10) (zs_lset (zs_lset (zs_lapp (zs_lset (zs_lset (zs_lapp (zp_len F).1 rfl))) rfl))) (by decide) (by decide)) ?_
          refine zy_h (mr := zm_m15) rfl rfl (zh_put (zs_app (zs_eq (zs_eq (zs_app (zs_eq (zs_ne (zs_new (k := 0) (zp_len F).1 rfl) (by decide))))))) rfl rfl) ?_
          refine zy_n 2 (mr := zm_m15) (pc' := 33) (ls' := [(0, .ref 117), (1, .int a1), (2, .int a2), (3, .int a3), (4, .int a4), (5, .int 0)]) (st' := [.int 0, .ref 117]) rfl rfl ?_
          refine zy_h (mr := zm_m15) rfl rfl (zh_put (zs_eq (zs_app (zs_eq (zs_eq (zs_app (zs_eq (zs_ne (zs_new (k := 0) (zp_len F).1 rfl) (by decide)))))))) rfl (by decide)) ?_
          refine zy_n 2 (mr := zm_m15) (pc' := 38) (ls' := [(0, .ref 117), (1, .int a1), (2, .int a2), (3, .int a3), (4, .int a4), (5, .int 0)]) (st' := [.long 0, .ref 117]) rfl rfl ?_
          refine zy_h (mr := zm_m15) rfl rfl (zh_put (zs_eq (zs_eq (zs_app (zs_eq (zs_eq (zs_app (zs_eq (zs_ne (zs_new (k := 0) (zp_len F).1 rfl) (by decide))))))))) rfl rfl) ?_
          refine zy_n 2 (mr := zm_m15) (pc' := 43) (ls' := [(0, .ref 117), (1, .int a1), (2, .int a2), (3, .int a3), (4, .int a4), (5, .int 0)]) (st' := [.int a1, .ref 117]) rfl rfl ?_
          refine zy_h (mr := zm_m15) rfl rfl (zh_put (zs_eq (zs_eq (zs_eq (zs_app (zs_eq (zs_eq (zs_app (zs_eq (zs_ne (zs_new (k := 0) (zp_len F).1 rfl) (by decide)))))))))) rfl rfl) ?_
          refine zy_n 2 (mr := zm_m15) (pc' := 48) (ls' := [(0, .ref 117), (1, .int a1), (2, .int a2), (3, .int a3), (4, .int a4), (5, .int 0)]) (st' := [.int a2, .ref 117]) rfl rfl ?_
          refine zy_h (mr := zm_m15) rfl rfl (zh_put (zs_eq (zs_eq (zs_eq (zs_eq (zs_app (zs_eq (zs_eq (zs_app (zs_eq (zs_ne (zs_new (k := 0) (zp_len F).1 rfl) (by decide))))))))))) rfl rfl) ?_
          refine zy_n 2 (mr := zm_m15) (pc' := 53) (ls' := [(0, .ref 117), (1, .int a1), (2, .int a2), (3, .int a3), (4, .int a4), (5, .int 0)]) (st' := [.int a3, .ref 117]) rfl rfl ?_
          refine zy_h (mr := zm_m15) rfl rfl (zh_put (zs_eq (zs_eq (zs_eq (zs_eq (zs_eq (zs_app (zs_eq (zs_eq (zs_app (zs_eq (zs_ne (zs_new (k := 0) (zp_len F).1 rfl) (by decide)))))))))))) rfl rfl) ?_
          refine zy_n 2 (mr := zm_m15) (pc' := 59) (ls' := [(0, .ref 117), (1, .int a1), (2, .int a2), (3, .int a3), (4, .int a4), (5, .int 0)]) (st' := [.int a4, .ref 117]) rfl rfl ?_
          refine zy_h (mr := zm_m15) rfl rfl (zh_put (zs_eq (zs_eq (zs_eq (zs_eq (zs_eq (zs_eq (zs_app (zs_eq (zs_eq (zs_app (zs_eq (zs_ne (zs_new (k := 0) (zp_len F).1 rfl) (by decide))))))))))))) rfl rfl) ?_
          refine zy_n 2 (mr := zm_m15) (pc' := 65) (ls' := [(0, .ref 117), (1, .int a1), (2, .int a2), (3, .int a3), (4, .int a4), (5, .int 0)]) (st' := [.int 0, .ref 117]) rfl rfl ?_
          refine zy_h (mr := zm_m15) rfl rfl (zh_put (zs_eq (zs_eq (zs_eq (zs_eq (zs_eq (zs_eq (zs_eq (zs_app (zs_eq (zs_eq (zs_app (zs_eq (zs_ne (zs_new (k := 0) (zp_len F).1 rfl) (by decide)))))))))))))) rfl rfl) ?_
          refine zy_r (mr := zm_m15) rfl rfl rfl ?_
          refine zy_h (mr := zm_m12) rfl rfl (zh_aast (zs_ne (zs_ne (zs_ne (zs_ne (zs_ne (zs_ne (zs_ne (zs_ne (zs_app (zs_ne (zs_ne (zs_app (zs_ne (zs_ne (zs_app (zp_r F 0 rfl)) (by decide)) (by decide))) (by decide)) (by decide))) (by decide)) (by decide)) (by decide)) (by decide)) (by decide)) (by decide)) (by decide)) (by decide)) (zs_eq (zs_eq (zs_eq (zs_eq (zs_eq (zs_eq (zs_eq (zs_eq (zs_app (zs_eq (zs_eq (zs_app (zs_eq (zs_ne (zs_new (k := 0) (zp_len F).1 rfl) (by decide))))))))))))))) rfl (by decide)) ?_
          refine zy_n 1 (mr := zm_m12) (pc' := 82) (ls' := [(0, .ref 0), (1, .int a1), (2, .int a2), (3, .int a3), (4, .int a4)]) (st' := [.ref 0]) rfl rfl ?_
          refine zy_h (mr := zm_m12) rfl rfl (zh_get (v := .ref 36) (zs_ne (zs_ne (zs_ne (zs_ne (zs_ne (zs_ne (zs_ne (zs_ne (zs_ne (zs_app (zs_ne (zs_ne (zs_app (zs_ne (zs_eq (zs_app (zp_o F 0 rfl))) (by decide))) (by decide)) (by decide))) (by decide)) (by decide)) (by decide)) (by decide)) (by decide)) (by decide)) (by decide)) (by decide)) (by decide)) rfl) ?_
          refine zy_n 1 (mr := zm_m12) (pc' := 86) (ls' := [(0, .ref 0), (1, .int a1), (2, .int a2), (3, .int a3), (4, .int a4)]) (st' := [.int 0, .ref 36]) rfl rfl ?_
          refine zy_h (mr := zm_m12) rfl rfl (zh_put (zs_ne (zs_ne (zs_ne (zs_ne (zs_ne (zs_ne (zs_ne (zs_ne (zs_ne (zs_app (zs_ne (zs_ne (zs_app (zs_ne (zs_ne (zs_app (zp_o F 7 rfl)) (by decide)) (by decide))) (by decide)) (by decide))) (by decide)) (by decide)) (by decide)) (by decide)) (by decide)) (by decide)) (by decide)) (by decide)) (by decide)) rfl (by decide)) ?_
          refine zy_n 2 (mr := zm_m12) (pc' := 91) (ls' := [(0, .ref 0), (1, .int a1), (2, .int a2), (3, .int a3), (4, .int a4)]) (st' := [.ref 0, .ref 0]) rfl rfl ?_
          refine zy_h (mr := zm_m12) rfl rfl (zh_get (v := .int 0) (zs_ne (zs_ne (zs_ne (zs_ne (zs_ne (zs_ne (zs_ne (zs_ne (zs_ne (zs_ne (zs_app (zs_ne (zs_ne (zs_app (zs_ne (zs_eq (zs_app (zp_o F 0 rfl))) (by decide))) (by decide)) (by decide))) (by decide)) (by decide)) (by decide)) (by decide)) (by decide)) (by decide)) (by decide)) (by decide)) (by decide)) (by decide)) rfl) ?_
          refine zy_n 3 (mr := zm_m12) (pc' := 97) (ls' := [(0, .ref 0), (1, .int a1), (2, .int a2), (3, .int a3), (4, .int a4)]) (st' := [.int 1, .ref 0, .int 0]) rfl rfl ?_
          refine zy_h (mr := zm_m12) rfl rfl (zh_put (zs_ne (zs_ne (zs_ne (zs_ne (zs_ne (zs_ne (zs_ne (zs_ne (zs_ne (zs_ne (zs_app (zs_ne (zs_ne (zs_app (zs_ne (zs_eq (zs_app (zp_o F 0 rfl))) (by decide))) (by decide)) (by decide))) (by decide)) (by decide)) (by decide)) (by decide)) (by decide)) (by decide)) (by decide)) (by decide)) (by decide)) (by decide)) rfl rfl) ?_
          refine zy_r (mr := zm_m12) rfl rfl rfl ?_
          refine ⟨⟨_, rfl, ?_⟩, fun k hk1 hk2 => ((List.getElem?_set_ne (by omega)).trans ((List.getElem?_set_ne (by omega)).trans ((List.getElem?_set_ne (by omega)).trans ((List.getElem?_set_ne (by omega)).trans ((List.getElem?_set_ne (by omega)).trans ((List.getElem?_set_ne (by omega)).trans ((List.getElem?_set_ne (by omega)).trans ((List.getElem?_set_ne (by omega)).trans ((List.getElem?_set_ne (by omega)).trans ((List.getElem?_set_ne (by omega)).trans ((List.getElem?_set_ne (by omega)).trans ((List.getElem?_append_left (by rw [(zs_lset (zs_lset (zs_lapp (zs_lset (zs_lset (zs_lapp (zp_len F).1 rfl))) rfl)))]; omega)).trans ((List.getElem?_set_ne (by omega)).trans ((List.getElem?_set_ne (by omega)).trans ((List.getElem?_append_left (by rw [(zs_lset (zs_lset (zs_lapp (zp_len F).1 rfl)))]; omega)).trans ((List.getElem?_set_ne (by omega)).trans ((List.getElem?_set_ne (by omega)).trans ((List.getElem?_append_left (by rw [(zp_len F).1]; omega)).trans rfl)))))))))))))))))), by rw [(zs_lset (zs_lset (zs_lset (zs_lset (zs_lset (zs_lset (zs_lset (zs_lset (zs_lset (zs_lset (zs_lset (zs_lapp (zs_lset (zs_lset (zs_lapp (zs_lset (zs_lset (zs_lapp (zp_len F).1 rfl))) rfl))) rfl))))))))))))]; decide, by rw [(zs_szset (zs_ne (zs_ne (zs_ne (zs_ne (zs_ne (zs_ne (zs_ne (zs_ne (zs_ne (zs_ne (zs_app (zs_ne (zs_ne (zs_app (zs_ne (zs_eq (zs_app (zp_o F 0 rfl))) (by decide))) (by decide)) (by decide))) (by decide)) (by decide)) (by decide)) (by decide)) (by decide)) (by decide)) (by decide)) (by decide)) (by decide)) (by decide)) rfl (zs_szset (zs_ne (zs_ne (zs_ne (zs_ne (zs_ne (zs_ne (zs_ne (zs_ne (zs_ne (zs_app (zs_ne (zs_ne (zs_app (zs_ne (zs_ne (zs_app (zp_o F 7 rfl)) (by decide)) (by decide))) (by decide)) (by decide))) (by decide)) (by decide)) (by decide)) (by decide)) (by decide)) (by decide)) (by decide)) (by decide)) (by decide)) rfl (zs_szset (zs_ne (zs_ne (zs_ne (zs_ne (zs_ne (zs_ne (zs_ne (zs_ne (zs_app (zs_ne (zs_ne (zs_app (zs_ne (zs_ne (zs_app (zp_r F 0 rfl)) (by decide)) (by decide))) (by decide)) (by decide))) (by decide)) (by decide)) (by decide)) (by decide)) (by decide)) (by decide)) (by decide)) (by decide)) rfl (zs_szset (zs_eq (zs_eq (zs_eq (zs_eq (zs_eq (zs_eq (zs_eq (zs_app (zs_eq (zs_eq (zs_app (zs_eq (zs_ne (zs_new (k := 0) (zp_len F).1 rfl) (by decide)))))))))))))) rfl (zs_szset (zs_eq (zs_eq (zs_eq (zs_eq (zs_eq (zs_eq (zs_app (zs_eq (zs_eq (zs_app (zs_eq (zs_ne (zs_new (k := 0) (zp_len F).1 rfl) (by decide))))))))))))) rfl (zs_szset (zs_eq (zs_eq (zs_eq (zs_eq (zs_eq (zs_app (zs_eq (zs_eq (zs_app (zs_eq (zs_ne (zs_new (k := 0) (zp_len F).1 rfl) (by decide)))))))))))) rfl (zs_szset (zs_eq (zs_eq (zs_eq (zs_eq (zs_app (zs_eq (zs_eq (zs_app (zs_eq (zs_ne (zs_new (k := 0) (zp_len F).1 rfl) (by decide))))))))))) rfl (zs_szset (zs_eq (zs_eq (zs_eq (zs_app (zs_eq (zs_eq (zs_app (zs_eq (zs_ne (zs_new (k := 0) (zp_len F).1 rfl) (by decide)))))))))) rfl (zs_szset (zs_eq (zs_eq (zs_app (zs_eq (zs_eq (zs_app (zs_eq (zs_ne (zs_new (k := 0) (zp_len F).1 rfl) (by decide))))))))) rfl (zs_szset (zs_eq (zs_app (zs_eq (zs_eq (zs_app (zs_eq (zs_ne (zs_new (k := 0) (zp_len F).1 rfl) (by decide)))))))) rfl (zs_szset (zs_app (zs_eq (zs_eq (zs_app (zs_eq (zs_ne (zs_new (k := 0) (zp_len F).1 rfl) (by decide))))))) rfl (zs_szapp (zs_szset (zs_eq (zs_app (zs_eq (zs_ne (zs_new (k := 0) (zp_len F).1 rfl) (by decide))))) rfl (zs_szset (zs_app (zs_eq (zs_ne (zs_new (k := 0) (zp_len F).1 rfl) (by decide)))) rfl (zs_szapp (zs_szset (zs_ne (zs_new (k := 0) (zp_len F).1 rfl) (by decide)) rfl (zs_szset (zs_app (zp_o F 0 rfl)) rfl (zs_szapp (zp_len F).2 rfl))) rfl))) rfl))))))))))))]; decide⟩
          simp [zf_2, hc1, hc2, hc3, hc4]
        · skip
          refine zy_b (q := (34, [])) (mr := zm_m12) rfl rfl rfl ?_
          refine zy_n 1 (mr := zm_m12) (pc' := 36) (ls' := [(0, .ref 0), (1, .int a1), (2, .int a2), (3, .int a3), (4, .int a4)]) (st' := [.int (-2)]) rfl rfl ?_
          refine zy_r (mr := zm_m12) rfl rfl rfl ?_
          refine ⟨⟨_, rfl, ?_⟩, fun k hk1 hk2 => rfl, by rw [(zp_len F).1]; decide, by rw [(zp_len F).2]; decide⟩
          simp [zf_2, hc1, hc2, hc3, hc4]
      · skip
        refine zy_r (mr := zm_m14) rfl rfl rfl ?_
        refine zy_b (q := (34, [])) (mr := zm_m12) rfl rfl rfl ?_
        refine zy_n 1 (mr := zm_m12) (pc' := 36) (ls' := [(0, .ref 0), (1, .int a1), (2, .int a2), (3, .int a3), (4, .int a4)]) (st' := [.int (-2)]) rfl rfl ?_
        refine zy_r (mr := zm_m12) rfl rfl rfl ?_
        refine ⟨⟨_, rfl, ?_⟩, fun k hk1 hk2 => rfl, by rw [(zp_len F).1]; decide, by rw [(zp_len F).2]; decide⟩
        simp [zf_2, hc1, hc2, hc3]
    · skip
      refine zy_r (mr := zm_m13) rfl rfl rfl ?_
      refine zy_b (q := (34, [])) (mr := zm_m12) rfl rfl rfl ?_
      refine zy_n 1 (mr := zm_m12) (pc' := 36) (ls' := [(0, .ref 0), (1, .int a1), (2, .int a2), (3, .int a3), (4, .int a4)]) (st' := [.int (-2)]) rfl rfl ?_
      refine zy_r (mr := zm_m12) rfl rfl rfl ?_
      refine ⟨⟨_, rfl, ?_⟩, fun k hk1 hk2 => rfl, by rw [(zp_len F).1]; decide, by rw [(zp_len F).2]; decide⟩
      simp [zf_2, hc1, hc2]
  · skip
    refine zy_b (q := (34, [])) (mr := zm_m12) rfl rfl rfl ?_
    refine zy_n 1 (mr := zm_m12) (pc' := 36) (ls' := [(0, .ref 0), (1, .int a1), (2, .int a2), (3, .int a3), (4, .int a4)]) (st' := [.int (-2)]) rfl rfl ?_
    refine zy_r (mr := zm_m12) rfl rfl rfl ?_
    refine ⟨⟨_, rfl, ?_⟩, fun k hk1 hk2 => rfl, by rw [(zp_len F).1]; decide, by rw [(zp_len F).2]; decide⟩
    simp [zf_2, hc1]
set_option maxHeartbeats 4000000 in
set_option maxRecDepth 20000 in
theorem zx_3 {og : Nat → Option zm_C} {h : zm_H} (F : zp_ck h = true) (a1 : Int32) (a2 : Int32) (a3 : Int32) (a4 : Int32) : zm_Y og 30 16 0 [(0, .ref 0), (1, .int a1), (2, .int a2), (3, .int a3), (4, .int a4)] [] h (fun r h1 => (∃ v, r = some (.int v) ∧ zf_3 a1 a2 a3 a4 v) ∧ (∀ k : Nat, 55 ≤ k → k < 117 → h1[k]? = h[k]?) ∧ h1.length ≤ 200 ∧ zm_szs h1 ≤ 90000) := by
  refine zy_n 2 (mr := zm_m16) (pc' := 2) (ls' := [(0, .ref 0), (1, .int a1), (2, .int a2), (3, .int a3), (4, .int a4)]) (st' := [.int a1, .ref 0]) rfl rfl ?_
  refine zy_c (mc := zm_m17) (mr := zm_m16) rfl rfl (zh_v rfl (zp_o F 0 rfl) rfl) rfl rfl ?_
  refine zy_n 2 (mr := zm_m17) (pc' := 2) (ls' := [(0, .ref 0), (1, .int a1)]) (st' := [.int a1, .ref 0]) rfl rfl ?_
  refine zy_c (mc := zm_m18) (mr := zm_m17) rfl rfl (zh_v rfl (zp_o F 0 rfl) rfl) rfl rfl ?_
  refine zy_n 3 (mr := zm_m18) (pc' := 3) (ls' := [(0, .ref 0), (1, .int a1)]) (st' := [.ref 0, .int 0, .int a1]) rfl rfl ?_
  refine zy_h (mr := zm_m18) rfl rfl (zh_get (v := .int 0) (zp_o F 0 rfl) rfl) ?_
  refine zy_n 2 (mr := zm_m18) (pc' := 8) (ls' := [(0, .ref 0), (1, .int a1)]) (st' := [.int (-1), .int 0, .int a1]) rfl rfl ?_
  refine zy_c (mc := zm_m10) (mr := zm_m18) rfl rfl rfl rfl rfl (zm_Y.mono (zk_within a1 0 (-1)) ?_)
  rintro r h1 ⟨rfl, ⟨rfl, hc1⟩ | ⟨rfl, hc1⟩⟩
  · exact absurd hc1 (zl_emp (by decide))
  refine zy_r (mr := zm_m18) rfl rfl rfl ?_
  refine zy_b (q := (24, [])) (mr := zm_m17) rfl rfl rfl ?_
  refine zy_n 1 (mr := zm_m17) (pc' := 25) (ls' := [(0, .ref 0), (1, .int a1)]) (st' := [.int 0]) rfl rfl ?_
  refine zy_r (mr := zm_m17) rfl rfl rfl ?_
  refine zy_b (q := (34, [])) (mr := zm_m16) rfl rfl rfl ?_
  refine zy_n 1 (mr := zm_m16) (pc' := 36) (ls' := [(0, .ref 0), (1, .int a1), (2, .int a2), (3, .int a3), (4, .int a4)]) (st' := [.int (-2)]) rfl rfl ?_
  refine zy_r (mr := zm_m16) rfl rfl rfl ?_
  refine ⟨⟨_, rfl, ?_⟩, fun k hk1 hk2 => rfl, by rw [(zp_len F).1]; decide, by rw [(zp_len F).2]; decide⟩
  simp [zf_3]
set_option maxHeartbeats 4000000 in
set_option maxRecDepth 20000 in
theorem zx_4 {og : Nat → Option zm_C} {h : zm_H} (F : zp_ck h = true) (a1 : Int32) (a2 : Int32) (a3 : Int32) : zm_Y og 30 26 0 [(0, .ref 0), (1, .int a1), (2, .int a2), (3, .int a3)] [] h (fun r h1 => (∃ v, r = some (.int v) ∧ zf_4 a1 a2 a3 v) ∧ (∀ k : Nat, 55 ≤ k → k < 117 → h1[k]? = h[k]?) ∧ h1.length ≤ 200 ∧ zm_szs h1 ≤ 90000) := by
  refine zy_n 2 (mr := zm_m26) (pc' := 2) (ls' := [(0, .ref 0), (1, .int a1), (2, .int a2), (3, .int a3)]) (st' := [.int a1, .ref 0]) rfl rfl ?_
  refine zy_c (mc := zm_m17) (mr := zm_m26) rfl rfl (zh_v rfl (zp_o F 0 rfl) rfl) rfl rfl ?_
  refine zy_n 2 (mr := zm_m17) (pc' := 2) (ls' := [(0, .ref 0), (1, .int a1)]) (st' := [.int a1, .ref 0]) rfl rfl ?_
  refine zy_c (mc := zm_m18) (mr := zm_m17) rfl rfl (zh_v rfl (zp_o F 0 rfl) rfl) rfl rfl ?_
  refine zy_n 3 (mr := zm_m18) (pc' := 3) (ls' := [(0, .ref 0), (1, .int a1)]) (st' := [.ref 0, .int 0, .int a1]) rfl rfl ?_
  refine zy_h (mr := zm_m18) rfl rfl (zh_get (v := .int 0) (zp_o F 0 rfl) rfl) ?_
  refine zy_n 2 (mr := zm_m18) (pc' := 8) (ls' := [(0, .ref 0), (1, .int a1)]) (st' := [.int (-1), .int 0, .int a1]) rfl rfl ?_
  refine zy_c (mc := zm_m10) (mr := zm_m18) rfl rfl rfl rfl rfl (zm_Y.mono (zk_within a1 0 (-1)) ?_)
  rintro r h1 ⟨rfl, ⟨rfl, hc1⟩ | ⟨rfl, hc1⟩⟩
  · exact absurd hc1 (zl_emp (by decide))
  refine zy_r (mr := zm_m18) rfl rfl rfl ?_
  refine zy_b (q := (24, [])) (mr := zm_m17) rfl rfl rfl ?_
  refine zy_n 1 (mr := zm_m17) (pc' := 25) (ls' := [(0, .ref 0), (1, .int a1)]) (st' := [.int 0]) rfl rfl ?_
  refine zy_r (mr := zm_m17) rfl rfl rfl ?_
  refine zy_b (q := (26, [])) (mr := zm_m26) rfl rfl rfl ?_
  refine zy_n 1 (mr := zm_m26) (pc' := 28) (ls' := [(0, .ref 0), (1, .int a1), (2, .int a2), (3, .int a3)]) (st' := [.int (-2)]) rfl rfl ?_
  refine zy_r (mr := zm_m26) rfl rfl rfl ?_
  refine ⟨⟨_, rfl, ?_⟩, fun k hk1 hk2 => rfl, by rw [(zp_len F).1]; decide, by rw [(zp_len F).2]; decide⟩
  simp [zf_4]
set_option maxHeartbeats 4000000 in
set_option maxRecDepth 20000 in
theorem zx_5 {og : Nat → Option zm_C} {h : zm_H} (F : zp_ck h = true) (a1 : Int32) (a2 : Int32) (a3 : Int32) : zm_Y og 30 28 0 [(0, .ref 0), (1, .int a1), (2, .int a2), (3, .int a3)] [] h (fun r h1 => (∃ v, r = some (.int v) ∧ zf_5 a1 a2 a3 v) ∧ (∀ k : Nat, 55 ≤ k → k < 117 → h1[k]? = h[k]?) ∧ h1.length ≤ 200 ∧ zm_szs h1 ≤ 90000) := by
  refine zy_n 2 (mr := zm_m28) (pc' := 2) (ls' := [(0, .ref 0), (1, .int a1), (2, .int a2), (3, .int a3)]) (st' := [.int a1, .ref 0]) rfl rfl ?_
  refine zy_c (mc := zm_m18) (mr := zm_m28) rfl rfl (zh_v rfl (zp_o F 0 rfl) rfl) rfl rfl ?_
  refine zy_n 3 (mr := zm_m18) (pc' := 3) (ls' := [(0, .ref 0), (1, .int a1)]) (st' := [.ref 0, .int 0, .int a1]) rfl rfl ?_
  refine zy_h (mr := zm_m18) rfl rfl (zh_get (v := .int 0) (zp_o F 0 rfl) rfl) ?_
  refine zy_n 2 (mr := zm_m18) (pc' := 8) (ls' := [(0, .ref 0), (1, .int a1)]) (st' := [.int (-1), .int 0, .int a1]) rfl rfl ?_
  refine zy_c (mc := zm_m10) (mr := zm_m18) rfl rfl rfl rfl rfl (zm_Y.mono (zk_within a1 0 (-1)) ?_)
  rintro r h1 ⟨rfl, ⟨rfl, hc1⟩ | ⟨rfl, hc1⟩⟩
  · exact absurd hc1 (zl_emp (by decide))
  refine zy_r (mr := zm_m18) rfl rfl rfl ?_
  refine zy_b (q := (22, [])) (mr := zm_m28) rfl rfl rfl ?_
  refine zy_n 1 (mr := zm_m28) (pc' := 24) (ls' := [(0, .ref 0), (1, .int a1), (2, .int a2), (3, .int a3)]) (st' := [.int (-2)]) rfl rfl ?_
  refine zy_r (mr := zm_m28) rfl rfl rfl ?_
  refine ⟨⟨_, rfl, ?_⟩, fun k hk1 hk2 => rfl, by rw [(zp_len F).1]; decide, by rw [(zp_len F).2]; decide⟩
  simp [zf_5]
set_option maxHeartbeats 4000000 in
set_option maxRecDepth 20000 in
theorem zx_6 {og : Nat → Option zm_C} {h : zm_H} (F : zp_ck h = true) (a1 : Int32) (a2 : Int32) : zm_Y og 30 29 0 [(0, .ref 0), (1, .int a1), (2, .int a2)] [] h (fun r h1 => (∃ v, r = some (.int v) ∧ zf_6 a1 a2 v) ∧ (∀ k : Nat, 55 ≤ k → k < 117 → h1[k]? = h[k]?) ∧ h1.length ≤ 200 ∧ zm_szs h1 ≤ 90000) := by
  refine zy_n 2 (mr := zm_m29) (pc' := 2) (ls' := [(0, .ref 0), (1, .int a1), (2, .int a2)]) (st' := [.int a1, .ref 0]) rfl rfl ?_
  refine zy_c (mc := zm_m17) (mr := zm_m29) rfl rfl (zh_v rfl (zp_o F 0 rfl) rfl) rfl rfl ?_
  refine zy_n 2 (mr := zm_m17) (pc' := 2) (ls' := [(0, .ref 0), (1, .int a1)]) (st' := [.int a1, .ref 0]) rfl rfl ?_
  refine zy_c (mc := zm_m18) (mr := zm_m17) rfl rfl (zh_v rfl (zp_o F 0 rfl) rfl) rfl rfl ?_
  refine zy_n 3 (mr := zm_m18) (pc' := 3) (ls' := [(0, .ref 0), (1, .int a1)]) (st' := [.ref 0, .int 0, .int a1]) rfl rfl ?_
  refine zy_h (mr := zm_m18) rfl rfl (zh_get (v := .int 0) (zp_o F 0 rfl) rfl) ?_
  refine zy_n 2 (mr := zm_m18) (pc' := 8) (ls' := [(0, .ref 0), (1, .int a1)]) (st' := [.int (-1), .int 0, .int a1]) rfl rfl ?_
  refine zy_c (mc := zm_m10) (mr := zm_m18) rfl rfl rfl rfl rfl (zm_Y.mono (zk_within a1 0 (-1)) ?_)
  rintro r h1 ⟨rfl, ⟨rfl, hc1⟩ | ⟨rfl, hc1⟩⟩
  · exact absurd hc1 (zl_emp (by decide))
  refine zy_r (mr := zm_m18) rfl rfl rfl ?_
  refine zy_b (q := (24, [])) (mr := zm_m17) rfl rfl rfl ?_
  refine zy_n 1 (mr := zm_m17) (pc' := 25) (ls' := [(0, .ref 0), (1, .int a1)]) (st' := [.int 0]) rfl rfl ?_
  refine zy_r (mr := zm_m17) rfl rfl rfl ?_
  refine zy_b (q := (21, [])) (mr := zm_m29) rfl rfl rfl ?_
  refine zy_n 1 (mr := zm_m29) (pc' := 23) (ls' := [(0, .ref 0), (1, .int a1), (2, .int a2)]) (st' := [.int (-2)]) rfl rfl ?_
  refine zy_r (mr := zm_m29) rfl rfl rfl ?_
  refine ⟨⟨_, rfl, ?_⟩, fun k hk1 hk2 => rfl, by rw [(zp_len F).1]; decide, by rw [(zp_len F).2]; decide⟩
  simp [zf_6]
set_option maxHeartbeats 4000000 in
set_option maxRecDepth 20000 in
theorem zx_7 {og : Nat → Option zm_C} {h : zm_H} (F : zp_ck h = true) (a1 : Int32) : zm_Y og 30 30 0 [(0, .ref 0), (1, .int a1)] [] h (fun r h1 => (∃ v, r = some (.int v) ∧ zf_7 a1 v) ∧ (∀ k : Nat, 55 ≤ k → k < 117 → h1[k]? = h[k]?) ∧ h1.length ≤ 200 ∧ zm_szs h1 ≤ 90000) := by
  refine zy_n 2 (mr := zm_m30) (pc' := 2) (ls' := [(0, .ref 0), (1, .int a1)]) (st' := [.int a1, .ref 0]) rfl rfl ?_
  refine zy_c (mc := zm_m17) (mr := zm_m30) rfl rfl (zh_v rfl (zp_o F 0 rfl) rfl) rfl rfl ?_
  refine zy_n 2 (mr := zm_m17) (pc' := 2) (ls' := [(0, .ref 0), (1, .int a1)]) (st' := [.int a1, .ref 0]) rfl rfl ?_
  refine zy_c (mc := zm_m18) (mr := zm_m17) rfl rfl (zh_v rfl (zp_o F 0 rfl) rfl) rfl rfl ?_
  refine zy_n 3 (mr := zm_m18) (pc' := 3) (ls' := [(0, .ref 0), (1, .int a1)]) (st' := [.ref 0, .int 0, .int a1]) rfl rfl ?_
  refine zy_h (mr := zm_m18) rfl rfl (zh_get (v := .int 0) (zp_o F 0 rfl) rfl) ?_
  refine zy_n 2 (mr := zm_m18) (pc' := 8) (ls' := [(0, .ref 0), (1, .int a1)]) (st' := [.int (-1), .int 0, .int a1]) rfl rfl ?_
  refine zy_c (mc := zm_m10) (mr := zm_m18) rfl rfl rfl rfl rfl (zm_Y.mono (zk_within a1 0 (-1)) ?_)
  rintro r h1 ⟨rfl, ⟨rfl, hc1⟩ | ⟨rfl, hc1⟩⟩
  · exact absurd hc1 (zl_emp (by decide))
  refine zy_r (mr := zm_m18) rfl rfl rfl ?_
  refine zy_b (q := (24, [])) (mr := zm_m17) rfl rfl rfl ?_
  refine zy_n 1 (mr := zm_m17) (pc' := 25) (ls' := [(0, .ref 0), (1, .int a1)]) (st' := [.int 0]) rfl rfl ?_
  refine zy_r (mr := zm_m17) rfl rfl rfl ?_
  refine zy_b (q := (8, [])) (mr := zm_m30) rfl rfl rfl ?_
  refine zy_n 1 (mr := zm_m30) (pc' := 9) (ls' := [(0, .ref 0), (1, .int a1)]) (st' := [.int 0]) rfl rfl ?_
  refine zy_r (mr := zm_m30) rfl rfl rfl ?_
  refine ⟨⟨_, rfl, ?_⟩, fun k hk1 hk2 => rfl, by rw [(zp_len F).1]; decide, by rw [(zp_len F).2]; decide⟩
  simp [zf_7]
set_option maxHeartbeats 4000000 in
set_option maxRecDepth 20000 in
theorem zx_8 {og : Nat → Option zm_C} {h : zm_H} (F : zp_ck h = true) (a1 : Int32) (a2 : Int32) (a3 : Int32) (a4 : Int32) (a5 : Int32) : zm_Y og 30 31 0 [(0, .ref 0), (1, .int a1), (2, .int a2), (3, .int a3), (4, .int a4), (5, .int a5)] [] h (fun r h1 => (∃ v, r = some (.int v) ∧ zf_8 a1 a2 a3 a4 a5 v) ∧ (∀ k : Nat, 55 ≤ k → k < 117 → h1[k]? = h[k]?) ∧ h1.length ≤ 200 ∧ zm_szs h1 ≤ 90000) := by
  refine zy_n 1 (mr := zm_m31) (pc' := 1) (ls' := [(0, .ref 0), (1, .int a1), (2, .int a2), (3, .int a3), (4, .int a4), (5, .int a5)]) (st' := [.ref 0]) rfl rfl ?_
  refine zy_h (mr := zm_m31) rfl rfl (zh_get (v := .ref 2) (zp_o F 0 rfl) rfl) ?_
  refine zy_n 1 (mr := zm_m31) (pc' := 6) (ls' := [(0, .ref 0), (1, .int a1), (2, .int a2), (3, .int a3), (4, .int a4), (5, .int a5)]) (st' := [.int 20, .ref 2]) rfl rfl ?_
  refine zy_c (mc := zm_m32) (mr := zm_m31) rfl rfl (zh_v rfl (zp_o F 1 rfl) rfl) rfl rfl ?_
  refine zy_n 1 (mr := zm_m32) (pc' := 1) (ls' := [(0, .ref 2), (1, .int 20)]) (st' := [.ref 2]) rfl rfl ?_
  refine zy_h (mr := zm_m32) rfl rfl (zh_get (v := .int 0) (zp_o F 1 rfl) rfl) ?_
  refine zy_n 3 (mr := zm_m32) (pc' := 9) (ls' := [(0, .ref 2), (1, .int 20)]) (st' := [.int 300, .int 20]) rfl rfl ?_
  refine zy_b (q := (12, [])) (mr := zm_m32) rfl rfl rfl ?_
  refine zy_n 2 (mr := zm_m32) (pc' := 17) (ls' := [(0, .ref 2), (1, .int 20)]) (st' := [.int 1]) rfl rfl ?_
  refine zy_r (mr := zm_m32) rfl rfl rfl ?_
  refine zy_b (q := (14, [])) (mr := zm_m31) rfl rfl rfl ?_
  refine zy_n 1 (mr := zm_m31) (pc' := 15) (ls' := [(0, .ref 0), (1, .int a1), (2, .int a2), (3, .int a3), (4, .int a4), (5, .int a5)]) (st' := [.ref 0]) rfl rfl ?_
  refine zy_h (mr := zm_m31) rfl rfl (zh_get (v := .ref 2) (zp_o F 0 rfl) rfl) ?_
  refine zy_n 1 (mr := zm_m31) (pc' := 19) (ls' := [(0, .ref 0), (1, .int a1), (2, .int a2), (3, .int a3), (4, .int a4), (5, .int a5)]) (st' := [.int a1, .ref 2]) rfl rfl ?_
  refine zy_c (mc := zm_m33) (mr := zm_m31) rfl rfl (zh_v rfl (zp_o F 1 rfl) rfl) rfl rfl ?_
  refine zy_n 3 (mr := zm_m33) (pc' := 4) (ls' := [(2, .int 24), (0, .ref 2), (1, .int a1)]) (st' := [.int 24]) rfl rfl ?_
  refine zy_b (q := (7, [])) (mr := zm_m33) rfl rfl rfl ?_
  refine zy_n 1 (mr := zm_m33) (pc' := 8) (ls' := [(2, .int 24), (0, .ref 2), (1, .int a1)]) (st' := [.ref 2]) rfl rfl ?_
  refine zy_h (mr := zm_m33) rfl rfl (zh_get (v := .int 0) (zp_o F 1 rfl) rfl) ?_
  refine zy_n 1 (mr := zm_m33) (pc' := 14) (ls' := [(2, .int 24), (0, .ref 2), (1, .int a1)]) (st' := [.int 300, .int 0]) rfl rfl ?_
  refine zy_b (q := (17, [])) (mr := zm_m33) rfl rfl rfl ?_
  refine zy_n 1 (mr := zm_m33) (pc' := 18) (ls' := [(2, .int 24), (0, .ref 2), (1, .int a1)]) (st' := [.ref 2]) rfl rfl ?_
  refine zy_h (mr := zm_m33) rfl rfl (zh_get (v := .ref 3) (zp_o F 1 rfl) rfl) ?_
  refine zy_n 2 (mr := zm_m33) (pc' := 23) (ls' := [(2, .int 24), (0, .ref 2), (1, .int a1)]) (st' := [.ref 2, .ref 2, .ref 3]) rfl rfl ?_
  refine zy_h (mr := zm_m33) rfl rfl (zh_get (v := .int 0) (zp_o F 1 rfl) rfl) ?_
  refine zy_n 3 (mr := zm_m33) (pc' := 29) (ls' := [(2, .int 24), (0, .ref 2), (1, .int a1)]) (st' := [.int 1, .ref 2, .int 0, .ref 3]) rfl rfl ?_
  refine zy_h (mr := zm_m33) rfl rfl (zh_put (zp_o F 1 rfl) rfl rfl) ?_
  refine zy_n 5 (mr := zm_m33) (pc' := 39) (ls' := [(2, .int 24), (0, .ref 2), (1, .int a1)]) (st' := [.int ((a1 >>> (24 &&& 31)) &&& 255), .int 0, .ref 3]) rfl rfl ?_
  refine zy_h (mr := zm_m33) rfl rfl (zh_iast (zs_ne (zp_i F 0 rfl) (by decide)) (by decide)) ?_
  refine zy_n 3 (mr := zm_m33) (pc' := 4) (ls' := [(2, .int 16), (0, .ref 2), (1, .int a1)]) (st' := [.int 16]) rfl rfl ?_
  refine zy_b (q := (7, [])) (mr := zm_m33) rfl rfl rfl ?_
  refine zy_n 1 (mr := zm_m33) (pc' := 8) (ls' := [(2, .int 16), (0, .ref 2), (1, .int a1)]) (st' := [.ref 2]) rfl rfl ?_
  refine zy_h (mr := zm_m33) rfl rfl (zh_get (v := .int 1) (zs_ne (zs_eq (zp_o F 1 rfl)) (by decide)) rfl) ?_
  refine zy_n 1 (mr := zm_m33) (pc' := 14) (ls' := [(2, .int 16), (0, .ref 2), (1, .int a1)]) (st' := [.int 300, .int 1]) rfl rfl ?_
  refine zy_b (q := (17, [])) (mr := zm_m33) rfl rfl rfl ?_
  refine zy_n 1 (mr := zm_m33) (pc' := 18) (ls' := [(2, .int 16), (0, .ref 2), (1, .int a1)]) (st' := [.ref 2]) rfl rfl ?_
  refine zy_h (mr := zm_m33) rfl rfl (zh_get (v := .ref 3) (zs_ne (zs_eq (zp_o F 1 rfl)) (by decide)) rfl) ?_
  refine zy_n 2 (mr := zm_m33) (pc' := 23) (ls' := [(2, .int 16), (0, .ref 2), (1, .int a1)]) (st' := [.ref 2, .ref 2, .ref 3]) rfl rfl ?_
  refine zy_h (mr := zm_m33) rfl rfl (zh_get (v := .int 1) (zs_ne (zs_eq (zp_o F 1 rfl)) (by decide)) rfl) ?_
  refine zy_n 3 (mr := zm_m33) (pc' := 29) (ls' := [(2, .int 16), (0, .ref 2), (1, .int a1)]) (st' := [.int 2, .ref 2, .int 1, .ref 3]) rfl rfl ?_
  refine zy_h (mr := zm_m33) rfl rfl (zh_put (zs_ne (zs_eq (zp_o F 1 rfl)) (by decide)) rfl rfl) ?_
  refine zy_n 5 (mr := zm_m33) (pc' := 39) (ls' := [(2, .int 16), (0, .ref 2), (1, .int a1)]) (st' := [.int ((a1 >>> (16 &&& 31)) &&& 255), .int 1, .ref 3]) rfl rfl ?_
  refine zy_h (mr := zm_m33) rfl rfl (zh_iast (zs_ne (zs_eq (zs_ne (zp_i F 0 rfl) (by decide))) (by decide)) (by decide)) ?_
  refine zy_n 3 (mr := zm_m33) (pc' := 4) (ls' := [(2, .int 8), (0, .ref 2), (1, .int a1)]) (st' := [.int 8]) rfl rfl ?_
  refine zy_b (q := (7, [])) (mr := zm_m33) rfl rfl rfl ?_
  refine zy_n 1 (mr := zm_m33) (pc' := 8) (ls' := [(2, .int 8), (0, .ref 2), (1, .int a1)]) (st' := [.ref 2]) rfl rfl ?_
  refine zy_h (mr := zm_m33) rfl rfl (zh_get (v := .int 2) (zs_ne (zs_eq (zs_ne (zs_eq (zp_o F 1 rfl)) (by decide))) (by decide)) rfl) ?_
  refine zy_n 1 (mr := zm_m33) (pc' := 14) (ls' := [(2, .int 8), (0, .ref 2), (1, .int a1)]) (st' := [.int 300, .int 2]) rfl rfl ?_
  refine zy_b (q := (17, [])) (mr := zm_m33) rfl rfl rfl ?_
  refine zy_n 1 (mr := zm_m33) (pc' := 18) (ls' := [(2, .int 8), (0, .ref 2), (1, .int a1)]) (st' := [.ref 2]) rfl rfl ?_
  refine zy_h (mr := zm_m33) rfl rfl (zh_get (v := .ref 3) (zs_ne (zs_eq (zs_ne (zs_eq (zp_o F 1 rfl)) (by decide))) (by decide)) rfl) ?_
  refine zy_n 2 (mr := zm_m33) (pc' := 23) (ls' := [(2, .int 8), (0, .ref 2), (1, .int a1)]) (st' := [.ref 2, .ref 2, .ref 3]) rfl rfl ?_
  refine zy_h (mr := zm_m33) rfl rfl (zh_get (v := .int 2) (zs_ne (zs_eq (zs_ne (zs_eq (zp_o F 1 rfl)) (by decide))) (by decide)) rfl) ?_
  refine zy_n 3 (mr := zm_m33) (pc' := 29) (ls' := [(2, .int 8), (0, .ref 2), (1, .int a1)]) (st' := [.int 3, .ref 2, .int 2, .ref 3]) rfl rfl ?_
  refine zy_h (mr := zm_m33) rfl rfl (zh_put (zs_ne (zs_eq (zs_ne (zs_eq (zp_o F 1 rfl)) (by decide))) (by decide)) rfl rfl) ?_
  refine zy_n 5 (mr := zm_m33) (pc' := 39) (ls' := [(2, .int 8), (0, .ref 2), (1, .int a1)]) (st' := [.int ((a1 >>> (8 &&& 31)) &&& 255), .int 2, .ref 3]) rfl rfl ?_
  refine zy_h (mr := zm_m33) rfl rfl (zh_iast (zs_ne (zs_eq (zs_ne (zs_eq (zs_ne (zp_i F 0 rfl) (by decide))) (by decide))) (by decide)) (by decide)) ?_
  refine zy_n 3 (mr := zm_m33) (pc' := 4) (ls' := [(2, .int 0), (0, .ref 2), (1, .int a1)]) (st' := [.int 0]) rfl rfl ?_
  refine zy_b (q := (7, [])) (mr := zm_m33) rfl rfl rfl ?_
  refine zy_n 1 (mr := zm_m33) (pc' := 8) (ls' := [(2, .int 0), (0, .ref 2), (1, .int a1)]) (st' := [.ref 2]) rfl rfl ?_
  refine zy_h (mr := zm_m33) rfl rfl (zh_get (v := .int 3) (zs_ne (zs_eq (zs_ne (zs_eq (zs_ne (zs_eq (zp_o F 1 rfl)) (by decide))) (by decide))) (by decide)) rfl) ?_
  refine zy_n 1 (mr := zm_m33) (pc' := 14) (ls' := [(2, .int 0), (0, .ref 2), (1, .int a1)]) (st' := [.int 300, .int 3]) rfl rfl ?_
  refine zy_b (q := (17, [])) (mr := zm_m33) rfl rfl rfl ?_
  refine zy_n 1 (mr := zm_m33) (pc' := 18) (ls' := [(2, .int 0), (0, .ref 2), (1, .int a1)]) (st' := [.ref 2]) rfl rfl ?_
  refine zy_h (mr := zm_m33) rfl rfl (zh_get (v := .ref 3) (zs_ne (zs_eq (zs_ne (zs_eq (zs_ne (zs_eq (zp_o F 1 rfl)) (by decide))) (by decide))) (by decide)) rfl) ?_
  refine zy_n 2 (mr := zm_m33) (pc' := 23) (ls' := [(2, .int 0), (0, .ref 2), (1, .int a1)]) (st' := [.ref 2, .ref 2, .ref 3]) rfl rfl ?_
  refine zy_h (mr := zm_m33) rfl rfl (zh_get (v := .int 3) (zs_ne (zs_eq (zs_ne (zs_eq (zs_ne (zs_eq (zp_o F 1 rfl)) (by decide))) (by decide))) (by decide)) rfl) ?_
  refine zy_n 3 (mr := zm_m33) (pc' := 29) (ls' := [(2, .int 0), (0, .ref 2), (1, .int a1)]) (st' := [.int 4, .ref 2, .int 3, .ref 3]) rfl rfl ?_
  refine zy_h (mr := zm_m33) rfl rfl (zh_put (zs_ne (zs_eq (zs_ne (zs_eq (zs_ne (zs_eq (zp_o F 1 rfl)) (by decide))) (by decide))) (by decide)) rfl rfl) ?_
  refine zy_n 5 (mr := zm_m33) (pc' := 39) (ls' := [(2, .int 0), (0, .ref 2), (1, .int a1)]) (st' := [.int ((a1 >>> (0 &&& 31)) &&& 255), .int 3, .ref 3]) rfl rfl ?_
  refine zy_h (mr := zm_m33) rfl rfl (zh_iast (zs_ne (zs_eq (zs_ne (zs_eq (zs_ne (zs_eq (zs_ne (zp_i F 0 rfl) (by decide))) (by decide))) (by decide))) (by decide)) (by decide)) ?_
  refine zy_n 3 (mr := zm_m33) (pc' := 4) (ls' := [(2, .int (-8)), (0, .ref 2), (1, .int a1)]) (st' := [.int (-8)]) rfl rfl ?_
  refine zy_b (q := (46, [])) (mr := zm_m33) rfl rfl rfl ?_
  refine zy_r (mr := zm_m33) rfl rfl rfl ?_
  refine zy_n 1 (mr := zm_m31) (pc' := 23) (ls' := [(0, .ref 0), (1, .int a1), (2, .int a2), (3, .int a3), (4, .int a4), (5, .int a5)]) (st' := [.ref 0]) rfl rfl ?_
  refine zy_h (mr := zm_m31) rfl rfl (zh_get (v := .ref 2) (zs_ne (zs_ne (zs_ne (zs_ne (zs_ne (zs_ne (zs_ne (zs_ne (zp_o F 0 rfl) (by decide)) (by decide)) (by decide)) (by decide)) (by decide)) (by decide)) (by decide)) (by decide)) rfl) ?_
  refine zy_n 1 (mr := zm_m31) (pc' := 27) (ls' := [(0, .ref 0), (1, .int a1), (2, .int a2), (3, .int a3), (4, .int a4), (5, .int a5)]) (st' := [.int a2, .ref 2]) rfl rfl ?_
  refine zy_c (mc := zm_m33) (mr := zm_m31) rfl rfl (zh_v rfl (zs_ne (zs_eq (zs_ne (zs_eq (zs_ne (zs_eq (zs_ne (zs_eq (zp_o F 1 rfl)) (by decide))) (by decide))) (by decide))) (by decide)) rfl) rfl rfl ?_
  refine zy_n 3 (mr := zm_m33) (pc' := 4) (ls' := [(2, .int 24), (0, .ref 2), (1, .int a2)]) (st' := [.int 24]) rfl rfl ?_
  refine zy_b (q := (7, [])) (mr := zm_m33) rfl rfl rfl ?_
  refine zy_n 1 (mr := zm_m33) (pc' := 8) (ls' := [(2, .int 24), (0, .ref 2), (1, .int a2)]) (st' := [.ref 2]) rfl rfl ?_
  refine zy_h (mr := zm_m33) rfl rfl (zh_get (v := .int 4) (zs_ne (zs_eq (zs_ne (zs_eq (zs_ne (zs_eq (zs_ne (zs_eq (zp_o F 1 rfl)) (by decide))) (by decide))) (by decide))) (by decide)) rfl) ?_
  refine zy_n 1 (mr := zm_m33) (pc' := 14) (ls' := [(2, .int 24), (0, .ref 2), (1, .int a2)]) (st' := [.int 300, .int 4]) rfl rfl ?_
  refine zy_b (q := (17, [])) (mr := zm_m33) rfl rfl rfl ?_
  refine zy_n 1 (mr := zm_m33) (pc' := 18) (ls' := [(2, .int 24), (0, .ref 2), (1, .int a2)]) (st' := [.ref 2]) rfl rfl ?_
  refine zy_h (mr := zm_m33) rfl rfl (zh_get (v := .ref 3) (zs_ne (zs_eq (zs_ne (zs_eq (zs_ne (zs_eq (zs_ne (zs_eq (zp_o F 1 rfl)) (by decide))) (by decide))) (by decide))) (by decide)) rfl) ?_
  refine zy_n 2 (mr := zm_m33) (pc' := 23) (ls' := [(2, .int 24), (0, .ref 2), (1, .int a2)]) (st' := [.ref 2, .ref 2, .ref 3]) rfl rfl ?_
  refine zy_h (mr := zm_m33) rfl rfl (zh_get (v := .int 4) (zs_ne (zs_eq (zs_ne (zs_eq (zs_ne (zs_eq (zs_ne (zs_eq (zp_o F 1 rfl)) (by decide))) (by decide))) (by decide))) (by decide)) rfl) ?_
  refine zy_n 3 (mr := zm_m33) (pc' := 29) (ls' := [(2, .int 24), (0, .ref 2), (1, .int a2)]) (st' := [.int 5, .ref 2, .int 4, .ref 3]) rfl rfl ?_
  refine zy_h (mr := zm_m33) rfl rfl (zh_put (zs_ne (zs_eq (zs_ne (zs_eq (zs_ne (zs_eq (zs_ne (zs_eq (zp_o F 1 rfl)) (by decide))) (by decide))) (by decide))) (by decide)) rfl rfl) ?_
  refine zy_n 5 (mr := zm_m33) (pc' := 39) (ls' := [(2, .int 24), (0, .ref 2), (1, .int a2)]) (st' := [.int ((a2 >>> (24 &&& 31)) &&& 255), .int 4, .ref 3]) rfl rfl ?_
  refine zy_h (mr := zm_m33) rfl rfl (zh_iast (zs_ne (zs_eq (zs_ne (zs_eq (zs_ne (zs_eq (zs_ne (zs_eq (zs_ne (zp_i F 0 rfl) (by decide))) (by decide))) (by decide))) (by decide))) (by decide)) (by decide)) ?_
  refine zy_n 3 (mr := zm_m33) (pc' := 4) (ls' := [(2, .int 16), (0, .ref 2), (1, .int a2)]) (st' := [.int 16]) rfl rfl ?_
  refine zy_b (q := (7, [])) (mr := zm_m33) rfl rfl rfl ?_
  refine zy_n 1 (mr := zm_m33) (pc' := 8) (ls' := [(2, .int 16), (0, .ref 2), (1, .int a2)]) (st' := [.ref 2]) rfl rfl ?_
  refine zy_h (mr := zm_m33) rfl rfl (zh_get (v := .int 5) (zs_ne (zs_eq (zs_ne (zs_eq (zs_ne (zs_eq (zs_ne (zs_eq (zs_ne (zs_eq (zp_o F 1 rfl)) (by decide))) (by decide))) (by decide))) (by decide))) (by decide)) rfl) ?_
  refine zy_n 1 (mr := zm_m33) (pc' := 14) (ls' := [(2, .int 16), (0, .ref 2), (1, .int a2)]) (st' := [.int 300, .int 5]) rfl rfl ?_
  refine zy_b (q := (17, [])) (mr := zm_m33) rfl rfl rfl ?_
  refine zy_n 1 (mr := zm_m33) (pc' := 18) (ls' := [(2, .int 16), (0, .ref 2), (1, .int a2)]) (st' := [.ref 2]) rfl rfl ?_
  refine zy_h (mr := zm_m33) rfl rfl (zh_get (v := .ref 3) (zs_ne (zs_eq (zs_ne (zs_eq (zs_ne (zs_eq (zs_ne (zs_eq (zs_ne (zs_eq (zp_o F 1 rfl)) (by decide))) (by decide))) (by decide))) (by decide))) (by decide)) rfl) ?_
  refine zy_n 2 (mr := zm_m33) (pc' := 23) (ls' := [(2, .int 16), (0, .ref 2), (1, .int a2)]) (st' := [.ref 2, .ref 2, .ref 3]) rfl rfl ?_
  refine zy_h (mr := zm_m33) rfl rfl (zh_get (v := .int 5) (zs_ne (zs_eq (zs_ne (zs_eq (zs_ne (zs_eq (zs_ne (zs_eq (zs_ne (zs_eq (zp_o F 1 rfl)) (by decide))) (by decide))) (by decide))) (by decide))) (by decide)) rfl) ?_
  refine zy_n 3 (mr := zm_m33) (pc' := 29) (ls' := [(2, .int 16), (0, .ref 2), (1, .int a2)]) (st' := [.int 6, .ref 2, .int 5, .ref 3]) rfl rfl ?_
  refine zy_h (mr := zm_m33) rfl rfl (zh_put (zs_ne (zs_eq (zs_ne (zs_eq (zs_ne (zs_eq (zs_ne (zs_eq (zs_ne (zs_eq (zp_o F 1 rfl)) (by decide))) (by decide))) (by decide))) (by decide))) (by decide)) rfl rfl) ?_
  refine zy_n 5 (mr := zm_m33) (pc' := 39) (ls' := [(2, .int 16), (0, .ref 2), (1, .int a2)]) (st' := [.int ((a2 >>> (16 &&& 31)) &&& 255), .int 5, .ref 3]) rfl rfl ?_
  refine zy_h (mr := zm_m33) rfl rfl (zh_iast (zs_ne (zs_eq (zs_ne (zs_eq (zs_ne (zs_eq (zs_ne (zs_eq (zs_ne (zs_eq (zs_ne (zp_i F 0 rfl) (by decide))) (by decide))) (by decide))) (by decide))) (by decide))) (by decide)) (by decide)) ?_
  refine zy_n 3 (mr := zm_m33) (pc' := 4) (ls' := [(2, .int 8), (0, .ref 2), (1, .int a2)]) (st' := [.int 8]) rfl rfl ?_
  refine zy_b (q := (7, [])) (mr := zm_m33) rfl rfl rfl ?_
  refine zy_n 1 (mr := zm_m33) (pc' := 8) (ls' := [(2, .int 8), (0, .ref 2), (1, .int a2)]) (st' := [.ref 2]) rfl rfl ?_
  refine zy_h (mr := zm_m33) rfl rfl (zh_get (v := .int 6) (zs_ne (zs_eq (zs_ne (zs_eq (zs_ne (zs_eq (zs_ne (zs_eq (zs_ne (zs_eq (zs_ne (zs_eq (zp_o F 1 rfl)) (by decide))) (by decide))) (by decide))) (by decide))) (by decide))) (by decide)) rfl) ?_
  refine zy_n 1 (mr := zm_m33) (pc' := 14) (ls' := [(2, .int 8), (0, .ref 2), (1, .int a2)]) (st' := [.int 300, .int 6]) rfl rfl ?_
  refine zy_b (q := (17, [])) (mr := zm_m33) rfl rfl rfl ?_
  refine zy_n 1 (mr := zm_m33) (pc' := 18) (ls' := [(2, .int 8), (0, .ref 2), (1, .int a2)]) (st' := [.ref 2]) rfl rfl ?_
  refine zy_h (mr := zm_m33) rfl rfl (zh_get (v := .ref 3) (zs_ne (zs_eq (zs_ne (zs_eq (zs_ne (zs_eq (zs_ne (zs_eq (zs_ne (zs_eq (zs_ne (zs_eq (zp_o F 1 rfl)) (by decide))) (by decide))) (by decide))) (by decide))) (by decide))) (by decide)) rfl) ?_
  refine zy_n 2 (mr := zm_m33) (pc' := 23) (ls' := [(2, .int 8), (0, .ref 2), (1, .int a2)]) (st' := [.ref 2, .ref 2, .ref 3]) rfl rfl ?_
  refine zy_h (mr := zm_m33) rfl rfl (zh_get (v := .int 6) (zs_ne (zs_eq (zs_ne (zs_eq (zs_ne (zs_eq (zs_ne (zs_eq (zs_ne (zs_eq (zs_ne (zs_eq (zp_o F 1 rfl)) (by decide))) (by decide))) (by decide))) (by decide))) (by decide))) (by decide)) rfl) ?_
  refine zy_n 3 (mr := zm_m33) (pc' := 29) (ls' := [(2, .int 8), (0, .ref 2), (1, .int a2)]) (st' := [.int 7, .ref 2, .int 6, .ref 3]) rfl rfl ?_
  refine zy_h (mr := zm_m33) rfl rfl (zh_put (zs_ne (zs_eq (zs_ne (zs_eq (zs_ne (zs_eq (zs_ne (zs_eq (zs_ne (zs_eq (zs_ne (zs_eq (zp_o F 1 rfl)) (by decide))) (by decide))) (by decide))) (by decide))) (by decide))) (by decide)) rfl rfl) ?_
  refine zy_n 5 (mr := zm_m33) (pc' := 39) (ls' := [(2, .int 8), (0, .ref 2), (1, .int a2)]) (st' := [.int ((a2 >>> (8 &&& 31)) &&& 255), .int 6, .ref 3]) rfl rfl ?_
  refine zy_h (mr := zm_m33) rfl rfl (zh_iast (zs_ne (zs_eq (zs_ne (zs_eq (zs_ne (zs_eq (zs_ne (zs_eq (zs_ne (zs_eq (zs_ne (zs_eq (zs_ne (zp_i F 0 rfl) (by decide))) (by decide))) (by decide))) (by decide))) (by decide))) (by decide))) (by decide)) (by decide)) ?_
  refine zy_n 3 (mr := zm_m33) (pc' := 4) (ls' := [(2, .int 0), (0, .ref 2), (1, .int a2)]) (st' := [.int 0]) rfl rfl ?_
  refine zy_b (q := (7, [])) (mr := zm_m33) rfl rfl rfl ?_
  refine zy_n 1 (mr := zm_m33) (pc' := 8) (ls' := [(2, .int 0), (0, .ref 2), (1, .int a2)]) (st' := [.ref 2]) rfl rfl ?_
  refine zy_h (mr := zm_m33) rfl rfl (zh_get (v := .int 7) (zs_ne (zs_eq (zs_ne (zs_eq (zs_ne (zs_eq (zs_ne (zs_eq (zs_ne (zs_eq (zs_ne (zs_eq (zs_ne (zs_eq (zp_o F 1 rfl)) (by decide))) (by decide))) (by decide))) (by decide))) (by decide))) (by decide))) (by decide)) rfl) ?_
  refine zy_n 1 (mr := zm_m33) (pc' := 14) (ls' := [(2, .int 0), (0, .ref 2), (1, .int a2)]) (st' := [.int 300, .int 7]) rfl rfl ?_
  refine zy_b (q := (17, [])) (mr := zm_m33) rfl rfl rfl ?_
  refine zy_n 1 (mr := zm_m33) (pc' := 18) (ls' := [(2, .int 0), (0, .ref 2), (1, .int a2)]) (st' := [.ref 2]) rfl rfl ?_
  refine zy_h (mr := zm_m33) rfl rfl (zh_get (v := .ref 3) (zs_ne (zs_eq (zs_ne (zs_eq (zs_ne (zs_eq (zs_ne (zs_eq (zs_ne (zs_eq (zs_ne (zs_eq (zs_ne (zs_eq (zp_o F 1 rfl)) (by decide))) (by decide))) (by decide))) (by decide))) (by decide))) (by decide))) (by decide)) rfl) ?_
  refine zy_n 2 (mr := zm_m33) (pc' := 23) (ls' := [(2, .int 0), (0, .ref 2), (1, .int a2)]) (st' := [.ref 2, .ref 2, .ref 3]) rfl rfl ?_
  refine zy_h (mr := zm_m33) rfl rfl (zh_get (v := .int 7) (zs_ne (zs_eq (zs_ne (zs_eq (zs_ne (zs_eq (zs_ne (zs_eq (zs_ne (zs_eq (zs_ne (zs_eq (zs_ne (zs_eq (zp_o F 1 rfl)) (by decide))) (by decide))) (by decide))) (by decide))) (by decide))) (by decide))) (by decide)) rfl) ?_
  refine zy_n 3 (mr := zm_m33) (pc' := 29) (ls' := [(2, .int 0), (0, .ref 2), (1, .int a2)]) (st' := [.int 8, .ref 2, .int 7, .ref 3]) rfl rfl ?_
  refine zy_h (mr := zm_m33) rfl rfl (zh_put (zs_ne (zs_eq (zs_ne (zs_eq (zs_ne (zs_eq (zs_ne (zs_eq (zs_ne (zs_eq (zs_ne (zs_eq (zs_ne (zs_eq (zp_o F 1 rfl)) (by decide))) (by decide))) (by decide))) (by decide))) (by decide))) (by decide))) (by decide)) rfl rfl) ?_
  refine zy_n 5 (mr := zm_m33) (pc' := 39) (ls' := [(2, .int 0), (0, .ref 2), (1, .int a2)]) (st' := [.int ((a2 >>> (0 &&& 31)) &&& 255), .int 7, .ref 3]) rfl rfl ?_
  refine zy_h (mr := zm_m33) rfl rfl (zh_iast (zs_ne (zs_eq (zs_ne (zs_eq (zs_ne (zs_eq (zs_ne (zs_eq (zs_ne (zs_eq (zs_ne (zs_eq (zs_ne (zs_eq (zs_ne (zp_i F 0 rfl) (by decide))) (by decide))) (by decide))) (by decide))) (by decide))) (by decide))) (by decide))) (by decide)) (by decide)) ?_
  refine zy_n 3 (mr := zm_m33) (pc' := 4) (ls' := [(2, .int (-8)), (0, .ref 2), (1, .int a2)]) (st' := [.int (-8)]) rfl rfl ?_
  refine zy_b (q := (46, [])) (mr := zm_m33) rfl rfl rfl ?_
  refine zy_r (mr := zm_m33) rfl rfl rfl ?_
  refine zy_n 1 (mr := zm_m31) (pc' := 31) (ls' := [(0, .ref 0), (1, .int a1), (2, .int a2), (3, .int a3), (4, .int a4), (5, .int a5)]) (st' := [.ref 0]) rfl rfl ?_
  refine zy_h (mr := zm_m31) rfl rfl (zh_get (v := .ref 2) (zs_ne (zs_ne (zs_ne (zs_ne (zs_ne (zs_ne (zs_ne (zs_ne (zs_ne (zs_ne (zs_ne (zs_ne (zs_ne (zs_ne (zs_ne (zs_ne (zp_o F 0 rfl) (by decide)) (by decide)) (by decide)) (by decide)) (by decide)) (by decide)) (by decide)) (by decide)) (by decide)) (by decide)) (by decide)) (by decide)) (by decide)) (by decide)) (by decide)) (by decide)) rfl) ?_
  refine zy_n 1 (mr := zm_m31) (pc' := 35) (ls' := [(0, .ref 0), (1, .int a1), (2, .int a2), (3, .int a3), (4, .int a4), (5, .int a5)]) (st' := [.int a3, .ref 2]) rfl rfl ?_
  refine zy_c (mc := zm_m33) (mr := zm_m31) rfl rfl (zh_v rfl (zs_ne (zs_eq (zs_ne (zs_eq (zs_ne (zs_eq (zs_ne (zs_eq (zs_ne (zs_eq (zs_ne (zs_eq (zs_ne (zs_eq (zs_ne (zs_eq (zp_o F 1 rfl)) (by decide))) (by decide))) (by decide))) (by decide))) (by decide))) (by decide))) (by decide))) (by decide)) rfl) rfl rfl ?_
  refine zy_n 3 (mr := zm_m33) (pc' := 4) (ls' := [(2, .int 24), (0, .ref 2), (1, .int a3)]) (st' := [.int 24]) rfl rfl ?_
  refine zy_b (q := (7, [])) (mr := zm_m33) rfl rfl rfl ?_
  refine zy_n 1 (mr := zm_m33) (pc' := 8) (ls' := [(2, .int 24), (0, .ref 2), (1, .int a3)]) (st' := [.ref 2]) rfl rfl ?_
  refine zy_h (mr := zm_m33) rfl rfl (zh_get (v := .int 8) (zs_ne (zs_eq (zs_ne (zs_eq (zs_ne (zs_eq (zs_ne (zs_eq (zs_ne (zs_eq (zs_ne (zs_eq (zs_ne (zs_eq (zs_ne (zs_eq (zp_o F 1 rfl)) (by decide))) (by decide))) (by decide))) (by decide))) (by decide))) (by decide))) (by decide))) (by decide)) rfl) ?_
  refine zy_n 1 (mr := zm_m33) (pc' := 14) (ls' := [(2, .int 24), (0, .ref 2), (1, .int a3)]) (st' := [.int 300, .int 8]) rfl rfl ?_
  refine zy_b (q := (17, [])) (mr := zm_m33) rfl rfl rfl ?_
  refine zy_n 1 (mr := zm_m33) (pc' := 18) (ls' := [(2, .int 24), (0, .ref 2), (1, .int a3)]) (st' := [.ref 2]) rfl rfl ?_
  refine zy_h (mr := zm_m33) rfl rfl (zh_get (v := .ref 3) (zs_ne (zs_eq (zs_ne (zs_eq (zs_ne (zs_eq (zs_ne (zs_eq (zs_ne (zs_eq (zs_ne (zs_eq (zs_ne (zs_eq (zs_ne (zs_eq (zp_o F 1 rfl)) (by decide))) (by decide))) (by decide))) (by decide))) (by decide))) (by decide))) (by decide))) (by decide)) rfl) ?_
  refine zy_n 2 (mr := zm_m33) (pc' := 23) (ls' := [(2, .int 24), (0, .ref 2), (1, .int a3)]) (st' := [.ref 2, .ref 2, .ref 3]) rfl rfl ?_
  refine zy_h (mr := zm_m33) rfl rfl (zh_get (v := .int 8) (zs_ne (zs_eq (zs_ne (zs_eq (zs_ne (zs_eq (zs_ne (zs_eq (zs_ne (zs_eq (zs_ne (zs_eq (zs_ne (zs_eq (zs_ne (zs_eq (zp_o F 1 rfl)) (by decide))) (by decide))) (by decide))) (by decide))) (by decide))) (by decide))) (by decide))) (by decide)) rfl) ?_
  refine zy_n 3 (mr := zm_m33) (pc' := 29) (ls' := [(2, .int 24), (0, .ref 2), (1, .int a3)]) (st' := [.int 9, .ref 2, .int 8, .ref 3]) rfl rfl ?_
  refine zy_h (mr := zm_m33) rfl rfl (zh_put (zs_ne (zs_eq (zs_ne (zs_eq (zs_ne (zs_eq (zs_ne (zs_eq (zs_ne (zs_eq (zs_ne (zs_eq (zs_ne (zs_eq (zs_ne (zs_eq (zp_o F 1 rfl)) (by decide))) (by decide))) (by decide))) (by decide))) (by decide))) (by decide))) (by decide))) (by decide)) rfl rfl) ?_
  refine zy_n 5 (mr := zm_m33) (pc' := 39) (ls' := [(2, .int 24), (0, .ref 2), (1, .int a3)]) (st' := [.int ((a3 >>> (24 &&& 31)) &&& 255), .int 8, .ref 3]) rfl rfl ?_
  refine zy_h (mr := zm_m33) rfl rfl (zh_iast (zs_ne (zs_eq (zs_ne (zs_eq (zs_ne (zs_eq (zs_ne (zs_eq (zs_ne (zs_eq (zs_ne (zs_eq (zs_ne (zs_eq (zs_ne (zs_eq (zs_ne (zp_i F 0 rfl) (by decide))) (by decide))) (by decide))) (by decide))) (by decide))) (by decide))) (by decide))) (by decide))) (by decide)) (by decide)) ?_
  refine zy_n 3 (mr := zm_m33) (pc' := 4) (ls' := [(2, .int 16), (0, .ref 2), (1, .int a3)]) (st' := [.int 16]) rfl rfl ?_
  refine zy_b (q := (7, [])) (mr := zm_m33) rfl rfl rfl ?_
  refine zy_n 1 (mr := zm_m33) (pc' := 8) (ls' := [(2, .int 16), (0, .ref 2), (1, .int a3)]) (st' := [.ref 2]) rfl rfl ?_
  refine zy_h (mr := zm_m33) rfl rfl (zh_get (v := .int 9) (zs_ne (zs_eq (zs_ne (zs_eq (zs_ne (zs_eq (zs_ne (zs_eq (zs_ne (zs_eq (zs_ne (zs_eq (zs_ne (zs_eq (zs_ne (zs_eq (zs_ne (zs_eq (zp_o F 1 rfl)) (by decide))) (by decide))) (by decide))) (by decide))) (by decide))) (by decide))) (by decide))) (by decide))) (by decide)) rfl) ?_
  refine zy_n 1 (mr := zm_m33) (pc' := 14) (ls' := [(2, .int 16), (0, .ref 2), (1, .int a3)]) (st' := [.int 300, .int 9]) rfl rfl ?_
  refine zy_b (q := (17, [])) (mr := zm_m33) rfl rfl rfl ?_
  refine zy_n 1 (mr := zm_m33) (pc' := 18) (ls' := [(2, .int 16), (0, .ref 2), (1, .int a3)]) (st' := [.ref 2]) rfl rfl ?_
  refine zy_h (mr := zm_m33) rfl rfl (zh_get (v := .ref 3) (zs_ne (zs_eq (zs_ne (zs_eq (zs_ne (zs_eq (zs_ne (zs_eq (zs_ne (zs_eq (zs_ne (zs_eq (zs_ne (zs_eq (zs_ne (zs_eq (zs_ne (zs_eq (zp_o F 1 rfl)) (by decide))) (by decide))) (by decide))) (by decide))) (by decide))) (by decide))) (by decide))) (by decide))) (by decide)) rfl) ?_
  refine zy_n 2 (mr := zm_m33) (pc' := 23) (ls' := [(2, .int 16), (0, .ref 2), (1, .int a3)]) (st' := [.ref 2, .ref 2, .ref 3]) rfl rfl ?_
  refine zy_h (mr := zm_m33) rfl rfl (zh_get (v := .int 9) (zs_ne (zs_eq (zs_ne (zs_eq (zs_ne (zs_eq (zs_ne (zs_eq (zs_ne (zs_eq (zs_ne (zs_eq (zs_ne (zs_eq (zs_ne (zs_eq (zs_ne (zs_eq (zp_o F 1 rfl)) (by decide))) (by decide))) (by decide))) (by decide))) (by decide))) (by decide))) (by decide))) (by decide))) (by decide)) rfl) ?_
  refine zy_n 3 (mr := zm_m33) (pc' := 29) (ls' := [(2, .int 16), (0, .ref 2), (1, .int a3)]) (st' := [.int 10, .ref 2, .int 9, .ref 3]) rfl rfl ?_
  refine zy_h (mr := zm_m33) rfl rfl (zh_put (zs_ne (zs_eq (zs_ne (zs_eq (zs_ne (zs_eq (zs_ne (zs_eq (zs_ne (zs_eq (zs_ne (zs_eq (zs_ne (zs_eq (zs_ne (zs_eq (zs_ne (zs_eq (zp_o F 1 rfl)) (by decide))) (by decide))) (by decide))) (by decide))) (by decide))) (by decide))) (by decide))) (by decide))) (by decide)) rfl rfl) ?_
  refine zy_n 5 (mr := zm_m33) (pc' := 39) (ls' := [(2, .int 16), (0, .ref 2), (1, .int a3)]) (st' := [.int ((a3 >>> (16 &&& 31)) &&& 255), .int 9, .ref 3]) rfl rfl ?_
  refine zy_h (mr := zm_m33) rfl rfl (zh_iast (zs_ne (zs_eq (zs_ne (zs_eq (zs_ne (zs_eq (zs_ne (zs_eq (zs_ne (zs_eq (zs_ne (zs_eq (zs_ne (zs_eq (zs_ne (zs_eq (zs_ne (zs_eq (zs_ne (zp_i F 0 rfl) (by decide))) (by decide))) (by decide))) (by decide))) (by decide))) (by decide))) (by decide))) (by decide))) (by decide))) (by decide)) (by decide)) ?_
  refine zy_n 3 (mr := zm_m33) (pc' := 4) (ls' := [(2, .int 8), (0, .ref 2), (1, .int a3)]) (st' := [.int 8]) rfl rfl ?_
  refine zy_b (q := (7, [])) (mr := zm_m33) rfl rfl rfl ?_
  refine zy_n 1 (mr := zm_m33) (pc' := 8) (ls' := [(2, .int 8), (0, .ref 2), (1, .int a3)]) (st' := [.ref 2]) rfl rfl ?_
  refine zy_h (mr := zm_m33) rfl rfl (zh_get (v := .int 10) (zs_ne (zs_eq (zs_ne (zs_eq (zs_ne (zs_eq (zs_ne (zs_eq (zs_ne (zs_eq (zs_ne (zs_eq (zs_ne (zs_eq (zs_ne (zs_eq (zs_ne (zs_eq (zs_ne (zs_eq (zp_o F 1 rfl)) (by decide))) (by decide))) (by decide))) (by decide))) (by decide))) (by decide))) (by decide))) (by decide))) (by decide))) (by decide)) rfl) ?_
  refine zy_n 1 (mr := zm_m33) (pc' := 14) (ls' := [(2, .int 8), (0, .ref 2), (1, .int a3)]) (st' := [.int 300, .int 10]) rfl rfl ?_
  refine zy_b (q := (17, [])) (mr := zm_m33) rfl rfl rfl ?_
  refine zy_n 1 (mr := zm_m33) (pc' := 18) (ls' := [(2, .int 8), (0, .ref 2), (1, .int a3)]) (st' := [.ref 2]) rfl rfl ?_
  refine zy_h (mr := zm_m33) rfl rfl (zh_get (v := .ref 3) (zs_ne (zs_eq (zs_ne (zs_eq (zs_ne (zs_eq (zs_ne (zs_eq (zs_ne (zs_eq (zs_ne (zs_eq (zs_ne (zs_eq (zs_ne (zs_eq (zs_ne (zs_eq (zs_ne (zs_eq (zp_o F 1 rfl)) (by decide))) (by decide))) (by decide))) (by decide))) (by decide))) (by decide))) (by decide))) (by decide))) (by decide))) (by decide)) rfl) ?_
  refine zy_n 2 (mr := zm_m33) (pc' := 23) (ls' := [(2, .int 8), (0, .ref 2), (1, .int a3)]) (st' := [.ref 2, .ref 2, .ref 3]) rfl rfl ?_
  refine zy_h (mr := zm_m33) rfl rfl (zh_get (v := .int 10) (zs_ne (zs_eq (zs_ne (zs_eq (zs_ne (zs_eq (zs_ne (zs_eq (zs_ne (zs_eq (zs_ne (zs_eq (zs_ne (zs_eq (zs_ne (zs_eq (zs_ne (zs_eq (zs_ne (zs_eq (zp_o F 1 rfl)) (by decide))) (by decide))) (by decide))) (by decide))) (by decide))) (by decide))) (by decide))) (by decide))) (by decide))) (by decide)) rfl) ?_
  refine zy_n 3 (mr := zm_m33) (pc' := 29) (ls' := [(2, .int 8), (0, .ref 2), (1, .int a3)]) (st' := [.int 11, .ref 2, .int 10, .ref 3]) rfl rfl ?_
  refine zy_h (mr := zm_m33) rfl rfl (zh_put (zs_ne (zs_eq (zs_ne (zs_eq (zs_ne (zs_eq (zs_ne (zs_eq (zs_ne (zs_eq (zs_ne (zs_eq (zs_ne (zs_eq (zs_ne (zs_eq (zs_ne (zs_eq (zs_ne (zs_eq (zp_o F 1 rfl)) (by decide))) (by decide))) (by decide))) (by decide))) (by decide))) (by decide))) (by decide))) (by decide))) (by decide))) (by decide)) rfl rfl) ?_
  refine zy_n 5 (mr := zm_m33) (pc' := 39) (ls' := [(2, .int 8), (0, .ref 2), (1, .int a3)]) (st' := [.int ((a3 >>> (8 &&& 31)) &&& 255), .int 10, .ref 3]) rfl rfl ?_
  refine zy_h (mr := zm_m33) rfl rfl (zh_iast (zs_ne (zs_eq (zs_ne (zs_eq (zs_ne (zs_eq (zs_ne (zs_eq (zs_ne (zs_eq (zs_ne (zs_eq (zs_ne (zs_eq (zs_ne (zs_eq (zs_ne (zs_eq (zs_ne (zs_eq (zs_ne (zp_i F 0 rfl) (by decide))) (by decide))) (by decide))) (by decide))) (by decide))) (by decide))) (by decide))) (by decide))) (by decide))) (by decide))) (by decide)) (by decide)) ?_
  refine zy_n 3 (mr := zm_m33) (pc' := 4) (ls' := [(2, .int 0), (0, .ref 2), (1, .int a3)]) (st' := [.int 0]) rfl rfl ?_
  refine zy_b (q := (7, [])) (mr := zm_m33) rfl rfl rfl ?_
  refine zy_n 1 (mr := zm_m33) (pc' := 8) (ls' := [(2, .int 0), (0, .ref 2), (1, .int a3)]) (st' := [.ref 2]) rfl rfl ?_
  refine zy_h (mr := zm_m33) rfl rfl (zh_get (v := .int 11) (zs_ne (zs_eq (zs_ne (zs_eq (zs_ne (zs_eq (zs_ne (zs_eq (zs_ne (zs_eq (zs_ne (zs_eq (zs_ne (zs_eq (zs_ne (zs_eq (zs_ne (zs_eq (zs_ne (zs_eq (zs_ne (zs_eq (zp_o F 1 rfl)) (by decide))) (by decide))) (by decide))) (by decide))) (by decide))) (by decide))) (by decide))) (by decide))) (by decide))) (by decide))) (by decide)) rfl) ?_
  refine zy_n 1 (mr := zm_m33) (pc' := 14) (ls' := [(2, .int 0), (0, .ref 2), (1, .int a3)]) (st' := [.int 300, .int 11]) rfl rfl ?_
  refine zy_b (q := (17, [])) (mr := zm_m33) rfl rfl rfl ?_
  refine zy_n 1 (mr := zm_m33) (pc' := 18) (ls' := [(2, .int 0), (0, .ref 2), (1, .int a3)]) (st' := [.ref 2]) rfl rfl ?_
  refine zy_h (mr := zm_m33) rfl rfl (zh_get (v := .ref 3) (zs_ne (zs_eq (zs_ne (zs_eq (zs_ne (zs_eq (zs_ne (zs_eq (zs_ne (zs_eq (zs_ne (zs_eq (zs_ne (zs_eq (zs_ne (zs_eq (zs_ne (zs_eq (zs_ne (zs_eq (zs_ne (zs_eq (zp_o F 1 rfl)) (by decide))) (by decide))) (by decide))) (by decide))) (by decide))) (by decide))) (by decide))) (by decide))) (by decide))) (by decide))) (by decide)) rfl) ?_
  refine zy_n 2 (mr := zm_m33) (pc' := 23) (ls' := [(2, .int 0), (0, .ref 2), (1, .int a3)]) (st' := [.ref 2, .ref 2, .ref 3]) rfl rfl ?_
  refine zy_h (mr := zm_m33) rfl rfl (zh_get (v := .int 11) (zs_ne (zs_eq (zs_ne (zs_eq (zs_ne (zs_eq (zs_ne (zs_eq (zs_ne (zs_eq (zs_ne (zs_eq (zs_ne (zs_eq (zs_ne (zs_eq (zs_ne (zs_eq (zs_ne (zs_eq (zs_ne (zs_eq (zp_o F 1 rfl)) (by decide))) (by decide))) (by decide))) (by decide))) (by decide))) (by decide))) (by decide))) (by decide))) (by decide))) (by decide))) (by decide)) rfl) ?_
  refine zy_n 3 (mr := zm_m33) (pc' := 29) (ls' := [(2, .int 0), (0, .ref 2), (1, .int a3)]) (st' := [.int 12, .ref 2, .int 11, .ref 3]) rfl rfl ?_
  refine zy_h (mr := zm_m33) rfl rfl (zh_put (zs_ne (zs_eq (zs_ne (zs_eq (zs_ne (zs_eq (zs_ne (zs_eq (zs_ne (zs_eq (zs_ne (zs_eq (zs_ne (zs_eq (zs_ne (zs_eq (zs_ne (zs_eq (zs_ne (zs_eq (zs_ne (zs_eq (zp_o F 1 rfl)) (by decide))) (by decide))) (by decide))) (by decide))) (by decide))) (by decide))) (by decide))) (by decide))) (by decide))) (by decide))) (by decide)) rfl rfl) ?_
  refine zy_n 5 (mr := zm_m33) (pc' := 39) (ls' := [(2, .int 0), (0, .ref 2), (1, .int a3)]) (st' := [.int ((a3 >>> (0 &&& 31)) &&& 255), .int 11, .ref 3]) rfl rfl ?_
  refine zy_h (mr := zm_m33) rfl rfl (zh_iast (zs_ne (zs_eq (zs_ne (zs_eq (zs_ne (zs_eq (zs_ne (zs_eq (zs_ne (zs_eq (zs_ne (zs_eq (zs_ne (zs_eq (zs_ne (zs_eq (zs_ne (zs_eq (zs_ne (zs_eq (zs_ne (zs_eq (zs_ne (zp_i F 0 rfl) (by decide))) (by decide))) (by decide))) (by decide))) (by decide))) (by decide))) (by decide))) (by decide))) (by decide))) (by decide))) (by decide))) (by decide)) (by decide)) ?_
  refine zy_n 3 (mr := zm_m33) (pc' := 4) (ls' := [(2, .int (-8)), (0, .ref 2), (1, .int a3)]) (st' := [.int (-8)]) rfl rfl ?_
  refine zy_b (q := (46, [])) (mr := zm_m33) rfl rfl rfl ?_
  refine zy_r (mr := zm_m33) rfl rfl rfl ?_
  refine zy_n 1 (mr := zm_m31) (pc' := 39) (ls' := [(0, .ref 0), (1, .int a1), (2, .int a2), (3, .int a3), (4, .int a4), (5, .int a5)]) (st' := [.ref 0]) rfl rfl ?_
  refine zy_h (mr := zm_m31) rfl rfl (zh_get (v := .ref 2) (zs_ne (zs_ne (zs_ne (zs_ne (zs_ne (zs_ne (zs_ne (zs_ne (zs_ne (zs_ne (zs_ne (zs_ne (zs_ne (zs_ne (zs_ne (zs_ne (zs_ne (zs_ne (zs_ne (zs_ne (zs_ne (zs_ne (zs_ne (zs_ne (zp_o F 0 rfl) (by decide)) (by decide)) (by decide)) (by decide)) (by decide)) (by decide)) (by decide)) (by decide)) (by decide)) (by decide)) (by decide)) (by decide)) (by decide)) (by decide)) (by decide)) (by decide)) (by decide)) (by decide)) (by decide)) (by decide)) (by decide)) (by decide)) (by decide)) (by decide)) rfl) ?_
  refine zy_n 1 (mr := zm_m31) (pc' := 44) (ls' := [(0, .ref 0), (1, .int a1), (2, .int a2), (3, .int a3), (4, .int a4), (5, .int a5)]) (st' := [.int a4, .ref 2]) rfl rfl ?_
  refine zy_c (mc := zm_m33) (mr := zm_m31) rfl rfl (zh_v rfl (zs_ne (zs_eq (zs_ne (zs_eq (zs_ne (zs_eq (zs_ne (zs_eq (zs_ne (zs_eq (zs_ne (zs_eq (zs_ne (zs_eq (zs_ne (zs_eq (zs_ne (zs_eq (zs_ne (zs_eq (zs_ne (zs_eq (zs_ne (zs_eq (zp_o F 1 rfl)) (by decide))) (by decide))) (by decide))) (by decide))) (by decide))) (by decide))) (by decide))) (by decide))) (by decide))) (by decide))) (by decide))) (by decide)) rfl) rfl rfl ?_
  refine zy_n 3 (mr := zm_m33) (pc' := 4) (ls' := [(2, .int 24), (0, .ref 2), (1, .int a4)]) (st' := [.int 24]) rfl rfl ?_
  refine zy_b (q := (7, [])) (mr := zm_m33) rfl rfl rfl ?_
  refine zy_n 1 (mr := zm_m33) (pc' := 8) (ls' := [(2, .int 24), (0, .ref 2), (1, .int a4)]) (st' := [.ref 2]) rfl rfl ?_
  refine zy_h (mr := zm_m33) rfl rfl (zh_get (v := .int 12) (zs_ne (zs_eq (zs_ne (zs_eq (zs_ne (zs_eq (zs_ne (zs_eq (zs_ne (zs_eq (zs_ne (zs_eq (zs_ne (zs_eq (zs_ne (zs_eq (zs_ne (zs_eq (zs_ne (zs_eq (zs_ne (zs_eq (zs_ne (zs_eq (zp_o F 1 rfl)) (by decide))) (by decide))) (by decide))) (by decide))) (by decide))) (by decide))) (by decide))) (by decide))) (by decide))) (by decide))) (by decide))) (by decide)) rfl) ?_
  refine zy_n 1 (mr := zm_m33) (pc' := 14) (ls' := [(2, .int 24), (0, .ref 2), (1, .int a4)]) (st' := [.int 300, .int 12]) rfl rfl ?_
  refine zy_b (q := (17, [])) (mr := zm_m33) rfl rfl rfl ?_
  refine zy_n 1 (mr := zm_m33) (pc' := 18) (ls' := [(2, .int 24), (0, .ref 2), (1, .int a4)]) (st' := [.ref 2]) rfl rfl ?_
  refine zy_h (mr := zm_m33) rfl rfl (zh_get (v := .ref 3) (zs_ne (zs_eq (zs_ne (zs_eq (zs_ne (zs_eq (zs_ne (zs_eq (zs_ne (zs_eq (zs_ne (zs_eq (zs_ne (zs_eq (zs_ne (zs_eq (zs_ne (zs_eq (zs_ne (zs_eq (zs_ne (zs_eq (zs_ne (zs_eq (zp_o F 1 rfl)) (by decide))) (by decide))) (by decide))) (by decide))) (by decide))) (by decide))) (by decide))) (by decide))) (by decide))) (by decide))) (by decide))) (by decide)) rfl) ?_
  refine zy_n 2 (mr := zm_m33) (pc' := 23) (ls' := [(2, .int 24), (0, .ref 2), (1, .int a4)]) (st' := [.ref 2, .ref 2, .ref 3]) rfl rfl ?_
  refine zy_h (mr := zm_m33) rfl rfl (zh_get (v := .int 12) (zs_ne (zs_eq (zs_ne (zs_eq (zs_ne (zs_eq (zs_ne (zs_eq (zs_ne (zs_eq (zs_ne (zs_eq (zs_ne (zs_eq (zs_ne (zs_eq (zs_ne (zs_eq (zs_ne (zs_eq (zs_ne (zs_eq (zs_ne (zs_eq (zp_o F 1 rfl)) (by decide))) (by decide))) (by decide))) (by decide))) (by decide))) (by decide))) (by decide))) (by decide))) (by decide))) (by decide))) (by decide))) (by decide)) rfl) ?_
  refine zy_n 3 (mr := zm_m33) (pc' := 29) (ls' := [(2, .int 24), (0, .ref 2), (1, .int a4)]) (st' := [.int 13, .ref 2, .int 12, .ref 3]) rfl rfl ?_
  refine zy_h (mr := zm_m33) rfl rfl (zh_put (zs_ne (zs_eq (zs_ne (zs_eq (zs_ne (zs_eq (zs_ne (zs_eq (zs_ne (zs_eq (zs_ne (zs_eq (zs_ne (zs_eq (zs_ne (zs_eq (zs_ne (zs_eq (zs_ne (zs_eq (zs_ne (zs_eq (zs_ne (zs_eq (zp_o F 1 rfl)) (by decide))) (by decide))) (by decide))) (by decide))) (by decide))) (by decide))) (by decide))) (by decide))) (by decide))) (by decide))) (by decide))) (by decide)) rfl rfl) ?_
  refine zy_n 5 (mr := zm_m33) (pc' := 39) (ls' := [(2, .int 24), (0, .ref 2), (1, .int a4)]) (st' := [.int ((a4 >>> (24 &&& 31)) &&& 255), .int 12, .ref 3]) rfl rfl ?_
  refine zy_h (mr := zm_m33) rfl rfl (zh_iast (zs_ne (zs_eq (zs_ne (zs_eq (zs_ne (zs_eq (zs_ne (zs_eq (zs_ne (zs_eq (zs_ne (zs_eq (zs_ne (zs_eq (zs_ne (zs_eq (zs_ne (zs_eq (zs_ne (zs_eq (zs_ne (zs_eq (zs_ne (zs_eq (zs_ne (zp_i F 0 rfl) (by decide))) (by decide))) (by decide))) (by decide))) (by decide))) (by decide))) (by decide))) (by decide))) (by decide))) (by decide))) (by decide))) (by decide))) (by decide)) (by decide)) ?_
  refine zy_n 3 (mr := zm_m33) (pc' := 4) (ls' := [(2, .int 16), (0, .ref 2), (1, .int a4)]) (st' := [.int 16]) rfl rfl ?_
  refine zy_b (q := (7, [])) (mr := zm_m33) rfl rfl rfl ?_
  refine zy_n 1 (mr := zm_m33) (pc' := 8) (ls' := [(2, .int 16), (0, .ref 2), (1, .int a4)]) (st' := [.ref 2]) rfl rfl ?_
  refine zy_h (mr := zm_m33) rfl rfl (zh_get (v := .int 13) (zs_ne (zs_eq (zs_ne (zs_eq (zs_ne (zs_eq (zs_ne (zs_eq (zs_ne (zs_eq (zs_ne (zs_eq (zs_ne (zs_eq (zs_ne (zs_eq (zs_ne (zs_eq (zs_ne (zs_eq (zs_ne (zs_eq (zs_ne (zs_eq (zs_ne (zs_eq (zp_o F 1 rfl)) (by decide))) (by decide))) (by decide))) (by decide))) (by decide))) (by decide))) (by decide))) (by decide))) (by decide))) (by decide))) (by decide))) (by decide))) (by decide)) rfl) ?_
  refine zy_n 1 (mr := zm_m33) (pc' := 14) (ls' := [(2, .int 16), (0, .ref 2), (1, .int a4)]) (st' := [.int 300, .int 13]) rfl rfl ?_
  refine zy_b (q := (17, [])) (mr := zm_m33) rfl rfl rfl ?_
  refine zy_n 1 (mr := zm_m33) (pc' := 18) (ls' := [(2, .int 16), (0, .ref 2), (1, .int a4)]) (st' := [.ref 2]) rfl rfl ?_
  refine zy_h (mr := zm_m33) rfl rfl (zh_get (v := .ref 3) (zs_ne (zs_eq (zs_ne (zs_eq (zs_ne (zs_eq (zs_ne (zs_eq (zs_ne (zs_eq (zs_ne (zs_eq (zs_ne (zs_eq (zs_ne (zs_eq (zs_ne (zs_eq (zs_ne (zs_eq (zs_ne (zs_eq (zs_ne (zs_eq (zs_ne (zs_eq (zp_o F 1 rfl)) (by decide))) (by decide))) (by decide))) (by decide))) (by decide))) (by decide))) (by decide))) (by decide))) (by decide))) (by decide))) (by decide))) (by decide))) (by decide)) rfl) ?_
  refine zy_n 2 (mr := zm_m33) (pc' := 23) (ls' := [(2, .int 16), (0, .ref 2), (1, .int a4)]) (st' := [.ref 2, .ref 2, .ref 3]) rfl rfl ?_
  refine zy_h (mr := zm_m33) rfl rfl (zh_get (v := .int 13) (zs_ne (zs_eq (zs_ne (zs_eq (zs_ne (zs_eq (zs_ne (zs_eq (zs_ne (zs_eq (zs_ne (zs_eq (zs_ne (zs_eq (zs_ne (zs_eq (zs_ne (zs_eq (zs_ne (zs_eq (zs_ne (zs_eq (zs_ne (zs_eq (zs_ne (zs_eq (zp_o F 1 rfl)) (by decide))) (by decide))) (by decide))) (by decide))) (by decide))) (by decide))) (by decide))) (by decide))) (by decide))) (by decide))) (by decide))) (by decide))) (by decide)) rfl) ?_
  refine zy_n 3 (mr := zm_m33) (pc' := 29) (ls' := [(2, .int 16), (0, .ref 2), (1, .int a4)]) (st' := [.int 14, .ref 2, .int 13, .ref 3]) rfl rfl ?_
  refine zy_h (mr := zm_m33) rfl rfl (zh_put (zs_ne (zs_eq (zs_ne (zs_eq (zs_ne (zs_eq (zs_ne (zs_eq (zs_ne (zs_eq (zs_ne (zs_eq (zs_ne (zs_eq (zs_ne (zs_eq (zs_ne (zs_eq (zs_ne (zs_eq (zs_ne (zs_eq (zs_ne (zs_eq (zs_ne (zs_eq (zp_o F 1 rfl)) (by decide))) (by decide))) (by decide))) (by decide))) (by decide))) (by decide))) (by decide))) (by decide))) (by decide))) (by decide))) (by decide))) (by decide))) (by decide)) rfl rfl) ?_
  refine zy_n 5 (mr := zm_m33) (pc' := 39) (ls' := [(2, .int 16), (0, .ref 2), (1, .int a4)]) (st' := [.int ((a4 >>> (16 &&& 31)) &&& 255), .int 13, .ref 3]) rfl rfl ?_
  refine zy_h (mr := zm_m33) rfl rfl (zh_iast (zs_ne (zs_eq (zs_ne (zs_eq (zs_ne (zs_eq (zs_ne (zs_eq (zs_ne (zs_eq (zs_ne (zs_eq (zs_ne (zs_eq (zs_ne (zs_eq (zs_ne (zs_eq (zs_ne (zs_eq (zs_ne (zs_eq (zs_ne (zs_eq (zs_ne (zs_eq (zs_ne (zp_i F 0 rfl) (by decide))) (by decide))) (by decide))) (by decide))) (by decide))) (by decide))) (by decide))) (by decide))) (by decide))) (by decide))) (by decide))) (by decide))) (by decide))) (by decide)) (by decide)) ?_
  refine zy_n 3 (mr := zm_m33) (pc' := 4) (ls' := [(2, .int 8), (0, .ref 2), (1, .int a4)]) (st' := [.int 8]) rfl rfl ?_
  refine zy_b (q := (7, [])) (mr := zm_m33) rfl rfl rfl ?_
  refine zy_n 1 (mr := zm_m33) (pc' := 8) (ls' := [(2, .int 8), (0, .ref 2), (1, .int a4)]) (st' := [.ref 2]) rfl rfl ?_
  refine zy_h (mr := zm_m33) rfl rfl (zh_get (v := .int 14) (zs_ne (zs_eq (zs_ne (zs_eq (zs_ne (zs_eq (zs_ne (zs_eq (zs_ne (zs_eq (zs_ne (zs_eq (zs_ne (zs_eq (zs_ne (zs_eq (zs_ne (zs_eq (zs_ne (zs_eq (zs_ne (zs_eq (zs_ne (zs_eq (zs_ne (zs_eq (zs_ne (zs_eq (zp_o F 1 rfl)) (by decide))) (by decide))) (by decide))) (by decide))) (by decide))) (by decide))) (by decide))) (by decide))) (by decide))) (by decide))) (by decide))) (by decide))) (by decide))) (by decide)) rfl) ?_
  refine zy_n 1 (mr := zm_m33) (pc' := 14) (ls' := [(2, .int 8), (0, .ref 2), (1, .int a4)]) (st' := [.int 300, .int 14]) rfl rfl ?_
  refine zy_b (q := (17, [])) (mr := zm_m33) rfl rfl rfl ?_
  refine zy_n 1 (mr := zm_m33) (pc' := 18) (ls' := [(2, .int 8), (0, .ref 2), (1, .int a4)]) (st' := [.ref 2]) rfl rfl ?_
  refine zy_h (mr := zm_m33) rfl rfl (zh_get (v := .ref 3) (zs_ne (zs_eq (zs_ne (zs_eq (zs_ne (zs_eq (zs_ne (zs_eq (zs_ne (zs_eq (zs_ne (zs_eq (zs_ne (zs_eq (zs_ne (zs_eq (zs_ne (zs_eq (zs_ne (zs_eq (zs_ne (zs_eq (zs_ne (zs_eq (zs_ne (zs_eq (zs_ne (zs_eq (zp_o F 1 rfl)) (by decide))) (by decide))) (by decide))) (by decide))) (by decide))) (by decide))) (by decide))) (by decide))) (by decide))) (by decide))) (by decide))) (by decide))) (by decide))) (by decide)) rfl) ?_
  refine zy_n 2 (mr := zm_m33) (pc' := 23) (ls' := [(2, .int 8), (0, .ref 2), (1, .int a4)]) (st' := [.ref 2, .ref 2, .ref 3]) rfl rfl ?_
  refine zy_h (mr := zm_m33) rfl rfl (zh_get (v := .int 14) (zs_ne (zs_eq (zs_ne (zs_eq (zs_ne (zs_eq (zs_ne (zs_eq (zs_ne (zs_eq (zs_ne (zs_eq (zs_ne (zs_eq (zs_ne (zs_eq (zs_ne (zs_eq (zs_ne (zs_eq (zs_ne (zs_eq (zs_ne (zs_eq (zs_ne (zs_eq (zs_ne (zs_eq (zp_o F 1 rfl)) (by decide))) (by decide))) (by decide))) (by decide))) (by decide))) (by decide))) (by decide))) (by decide))) (by decide))) (by decide))) (by decide))) (by decide))) (by decide))) (by decide)) rfl) ?_
  refine zy_n 3 (mr := zm_m33) (pc' := 29) (ls' := [(2, .int 8), (0, .ref 2), (1, .int a4)]) (st' := [.int 15, .ref 2, .int 14, .ref 3]) rfl rfl ?_
  refine zy_h (mr := zm_m33) rfl rfl (zh_put (zs_ne (zs_eq (zs_ne (zs_eq (zs_ne (zs_eq (zs_ne (zs_eq (zs_ne (zs_eq (zs_ne (zs_eq (zs_ne (zs_eq (zs_ne (zs_eq (zs_ne (zs_eq (zs_ne (zs_eq (zs_ne (zs_eq (zs_ne (zs_eq (zs_ne (zs_eq (zs_ne (zs_eq (zp_o F 1 rfl)) (by decide))) (by decide))) (by decide))) (by decide))) (by decide))) (by decide))) (by decide))) (by decide))) (by decide))) (by decide))) (by decide))) (by decide))) (by decide))) (by decide)) rfl rfl) ?_
  refine zy_n 5 (mr := zm_m33) (pc' := 39) (ls' := [(2, .int 8), (0, .ref 2), (1, .int a4)]) (st' := [.int ((a4 >>> (8 &&& 31)) &&& 255), .int 14, .ref 3]) rfl rfl ?_
  refine zy_h (mr := zm_m33) rfl rfl (zh_iast (zs_ne (zs_eq (zs_ne (zs_eq (zs_ne (zs_eq (zs_ne (zs_eq (zs_ne (zs_eq (zs_ne (zs_eq (zs_ne (zs_eq (zs_ne (zs_eq (zs_ne (zs_eq (zs_ne (zs_eq (zs_ne (zs_eq (zs_ne (zs_eq (zs_ne (zs_eq (zs_ne (zs_eq (zs_ne (zp_i F 0 rfl) (by decide))) (by decide))) (by decide))) (by decide))) (by decide))) (by decide))) (by decide))) (by decide))) (by decide))) (by decide))) (by decide))) (by decide))) (by decide))) (by decide))) (by decide)) (by decide)) ?_
  refine zy_n 3 (mr := zm_m33) (pc' := 4) (ls' := [(2, .int 0), (0, .ref 2), (1, .int a4)]) (st' := [.int 0]) rfl rfl ?_
  refine zy_b (q := (7, [])) (mr := zm_m33) rfl rfl rfl ?_
  refine zy_n 1 (mr := zm_m33) (pc' := 8) (ls' := [(2, .int 0), (0, .ref 2), (1, .int a4)]) (st' := [.ref 2]) rfl rfl ?_
  refine zy_h (mr := zm_m33) rfl rfl (zh_get (v := .int 15) (zs_ne (zs_eq (zs_ne (zs_eq (zs_ne (zs_eq (zs_ne (zs_eq (zs_ne (zs_eq (zs_ne (zs_eq (zs_ne (zs_eq (zs_ne (zs_eq (zs_ne (zs_eq (zs_ne (zs_eq (zs_ne (zs_eq (zs_ne (zs_eq (zs_ne (zs_eq (zs_ne (zs_eq (zs_ne (zs_eq (zp_o F 1 rfl)) (by decide))) (by decide))) (by decide))) (by decide))) (by decide))) (by decide))) (by decide))) (by decide))) (by decide))) (by decide))) (by decide))) (by decide))) (by decide))) (by decide))) (by decide)) rfl) ?_
  refine zy_n 1 (mr := zm_m33) (pc' := 14) (ls' := [(2, .int 0), (0, .ref 2), (1, .int a4)]) (st' := [.int 300, .int 15]) rfl rfl ?_
  refine zy_b (q := (17, [])) (mr := zm_m33) rfl rfl rfl ?_
  refine zy_n 1 (mr := zm_m33) (pc' := 18) (ls' := [(2, .int 0), (0, .ref 2), (1, .int a4)]) (st' := [.ref 2]) rfl rfl ?_
  refine zy_h (mr := zm_m33) rfl rfl (zh_get (v := .ref 3) (zs_ne (zs_eq (zs_ne (zs_eq (zs_ne (zs_eq (zs_ne (zs_eq (zs_ne (zs_eq (zs_ne (zs_eq (zs_ne (zs_eq (zs_ne (zs_eq (zs_ne (zs_eq (zs_ne (zs_eq (zs_ne (zs_eq (zs_ne (zs_eq (zs_ne (zs_eq (zs_ne (zs_eq (zs_ne (zs_eq (zp_o F 1 rfl)) (by decide))) (by decide))) (by decide))) (by decide))) (by decide))) (by decide))) (by decide))) (by decide))) (by decide))) (by decide))) (by decide))) (by decide))) (by decide))) (by decide))) (by decide)) rfl) ?_
  refine zy_n 2 (mr := zm_m33) (pc' := 23) (ls' := [(2, .int 0), (0, .ref 2), (1, .int a4)]) (st' := [.ref 2, .ref 2, .ref 3]) rfl rfl ?_
  refine zy_h (mr := zm_m33) rfl rfl (zh_get (v := .int 15) (zs_ne (zs_eq (zs_ne (zs_eq (zs_ne (zs_eq (zs_ne (zs_eq (zs_ne (zs_eq (zs_ne (zs_eq (zs_ne (zs_eq (zs_ne (zs_eq (zs_ne (zs_eq (zs_ne (zs_eq (zs_ne (zs_eq (zs_ne (zs_eq (zs_ne (zs_eq (zs_ne (zs_eq (zs_ne (zs_eq (zp_o F 1 rfl)) (by decide))) (by decide))) (by decide))) (by decide))) (by decide))) (by decide))) (by decide))) (by decide))) (by decide))) (by decide))) (by decide))) (by decide))) (by decide))) (by decide))) (by decide)) rfl) ?_
  refine zy_n 3 (mr := zm_m33) (pc' := 29) (ls' := [(2, .int 0), (0, .ref 2), (1, .int a4)]) (st' := [.int 16, .ref 2, .int 15, .ref 3]) rfl rfl ?_
  refine zy_h (mr := zm_m33) rfl rfl (zh_put (zs_ne (zs_eq (zs_ne (zs_eq (zs_ne (zs_eq (zs_ne (zs_eq (zs_ne (zs_eq (zs_ne (zs_eq (zs_ne (zs_eq (zs_ne (zs_eq (zs_ne (zs_eq (zs_ne (zs_eq (zs_ne (zs_eq (zs_ne (zs_eq (zs_ne (zs_eq (zs_ne (zs_eq (zs_ne (zs_eq (zp_o F 1 rfl)) (by decide))) (by decide))) (by decide))) (by decide))) (by decide))) (by decide))) (by decide))) (by decide))) (by decide))) (by decide))) (by decide))) (by decide))) (by decide))) (by decide))) (by decide)) rfl rfl) ?_
  refine zy_n 5 (mr := zm_m33) (pc' := 39) (ls' := [(2, .int 0), (0, .ref 2), (1, .int a4)]) (st' := [.int ((a4 >>> (0 &&& 31)) &&& 255), .int 15, .ref 3]) rfl rfl ?_
  refine zy_h (mr := zm_m33) rfl rfl (zh_iast (zs_ne (zs_eq (zs_ne (zs_eq (zs_ne (zs_eq (zs_ne (zs_eq (zs_ne (zs_eq (zs_ne (zs_eq (zs_ne (zs_eq (zs_ne (zs_eq (zs_ne (zs_eq (zs_ne (zs_eq (zs_ne (zs_eq (zs_ne (zs_eq (zs_ne (zs_eq (zs_ne (zs_eq (zs_ne (zs_eq (zs_ne (zp_i F 0 rfl) (by decide))) (by decide))) (by decide))) (by decide))) (by decide))) (by decide))) (by decide))) (by decide))) (by decide))) (by decide))) (by decide))) (by decide))) (by decide))) (by decide))) (by decide))) (by decide)) (by decide)) ?_
  refine zy_n 3 (mr := zm_m33) (pc' := 4) (ls' := [(2, .int (-8)), (0, .ref 2), (1, .int a4)]) (st' := [.int (-8)]) rfl rfl ?_
  refine zy_b (q := (46, [])) (mr := zm_m33) rfl rfl rfl ?_
  refine zy_r (mr := zm_m33) rfl rfl rfl ?_
  refine zy_n 1 (mr := zm_m31) (pc' := 48) (ls' := [(0, .ref 0), (1, .int a1), (2, .int a2), (3, .int a3), (4, .int a4), (5, .int a5)]) (st' := [.ref 0]) rfl rfl ?_
  refine zy_h (mr := zm_m31) rfl rfl (zh_get (v := .ref 2) (zs_ne (zs_ne (zs_ne (zs_ne (zs_ne (zs_ne (zs_ne (zs_ne (zs_ne (zs_ne (zs_ne (zs_ne (zs_ne (zs_ne (zs_ne (zs_ne (zs_ne (zs_ne (zs_ne (zs_ne (zs_ne (zs_ne (zs_ne (zs_ne (zs_ne (zs_ne (zs_ne (zs_ne (zs_ne (zs_ne (zs_ne (zs_ne (zp_o F 0 rfl) (by decide)) (by decide)) (by decide)) (by decide)) (by decide)) (by decide)) (by decide)) (by decide)) (by decide)) (by decide)) (by decide)) (by decide)) (by decide)) (by decide)) (by decide)) (by decide)) (by decide)) (by decide)) (by decide)) (by decide)) (by decide)) (by decide)) (by decide)) (by decide)) (by decide)) (by decide)) (by decide)) (by decide)) (by decide)) (by decide)) (by decide)) (by decide)) rfl) ?_
  refine zy_n 1 (mr := zm_m31) (pc' := 53) (ls' := [(0, .ref 0), (1, .int a1), (2, .int a2), (3, .int a3), (4, .int a4), (5, .int a5)]) (st' := [.int a5, .ref 2]) rfl rfl ?_
  refine zy_c (mc := zm_m33) (mr := zm_m31) rfl rfl (zh_v rfl (zs_ne (zs_eq (zs_ne (zs_eq (zs_ne (zs_eq (zs_ne (zs_eq (zs_ne (zs_eq (zs_ne (zs_eq (zs_ne (zs_eq (zs_ne (zs_eq (zs_ne (zs_eq (zs_ne (zs_eq (zs_ne (zs_eq (zs_ne (zs_eq (zs_ne (zs_eq (zs_ne (zs_eq (zs_ne (zs_eq (zs_ne (zs_eq (zp_o F 1 rfl)) (by decide))) (by decide))) (by decide))) (by decide))) (by decide))) (by decide))) (by decide))) (by decide))) (by decide))) (by decide))) (by decide))) (by decide))) (by decide))) (by decide))) (by decide))) (by decide)) rfl) rfl rfl ?_
  refine zy_n 3 (mr := zm_m33) (pc' := 4) (ls' := [(2, .int 24), (0, .ref 2), (1, .int a5)]) (st' := [.int 24]) rfl rfl ?_
  refine zy_b (q := (7, [])) (mr := zm_m33) rfl rfl rfl ?_
  refine zy_n 1 (mr := zm_m33) (pc' := 8) (ls' := [(2, .int 24), (0, .ref 2), (1, .int a5)]) (st' := [.ref 2]) rfl rfl ?_
  refine zy_h (mr := zm_m33) rfl rfl (zh_get (v := .int 16) (zs_ne (zs_eq (zs_ne (zs_eq (zs_ne (zs_eq (zs_ne (zs_eq (zs_ne (zs_eq (zs_ne (zs_eq (zs_ne (zs_eq (zs_ne (zs_eq (zs_ne (zs_eq (zs_ne (zs_eq (zs_ne (zs_eq (zs_ne (zs_eq (zs_ne (zs_eq (zs_ne (zs_eq (zs_ne (zs_eq (zs_ne (zs_eq (zp_o F 1 rfl)) (by decide))) (by decide))) (by decide))) (by decide))) (by decide))) (by decide))) (by decide))) (by decide))) (by decide))) (by decide))) (by decide))) (by decide))) (by decide))) (by decide))) (by decide))) (by decide)) rfl) ?_
  refine zy_n 1 (mr := zm_m33) (pc' := 14) (ls' := [(2, .int 24), (0, .ref 2), (1, .int a5)]) (st' := [.int 300, .int 16]) rfl rfl ?_
  refine zy_b (q := (17, [])) (mr := zm_m33) rfl rfl rfl ?_
  refine zy_n 1 (mr := zm_m33) (pc' := 18) (ls' := [(2, .int 24), (0, .ref 2), (1, .int a5)]) (st' := [.ref 2]) rfl rfl ?_
  refine zy_h (mr := zm_m33) rfl rfl (zh_get (v := .ref 3) (zs_ne (zs_eq (zs_ne (zs_eq (zs_ne (zs_eq (zs_ne (zs_eq (zs_ne (zs_eq (zs_ne (zs_eq (zs_ne (zs_eq (zs_ne (zs_eq (zs_ne (zs_eq (zs_ne (zs_eq (zs_ne (zs_eq (zs_ne (zs_eq (zs_ne (zs_eq (zs_ne (zs_eq (zs_ne (zs_eq (zs_ne (zs_eq (zp_o F 1 rfl)) (by decide))) (by decide))) (by decide))) (by decide))) (by decide))) (by decide))) (by decide))) (by decide))) (by decide))) (by decide))) (by decide))) (by decide))) (by decide))) (by decide))) (by decide))) (by decide)) rfl) ?_
  refine zy_n 2 (mr := zm_m33) (pc' := 23) (ls' := [(2, .int 24), (0, .ref 2), (1, .int a5)]) (st' := [.ref 2, .ref 2, .ref 3]) rfl rfl ?_
  refine zy_h (mr := zm_m33) rfl rfl (zh_get (v := .int 16) (zs_ne (zs_eq (zs_ne (zs_eq (zs_ne (zs_eq (zs_ne (zs_eq (zs_ne (zs_eq (zs_ne (zs_eq (zs_ne (zs_eq (zs_ne (zs_eq (zs_ne (zs_eq (zs_ne (zs_eq (zs_ne (zs_eq (zs_ne (zs_eq (zs_ne (zs_eq (zs_ne (zs_eq (zs_ne (zs_eq (zs_ne (zs_eq (zp_o F 1 rfl)) (by decide))) (by decide))) (by decide))) (by decide))) (by decide))) (by decide))) (by decide))) (by decide))) (by decide))) (by decide))) (by decide))) (by decide))) (by decide))) (by decide))) (by decide))) (by decide)) rfl) ?_
  refine zy_n 3 (mr := zm_m33) (pc' := 29) (ls' := [(2, .int 24), (0, .ref 2), (1, .int a5)]) (st' := [.int 17, .ref 2, .int 16, .ref 3]) rfl rfl ?_
  refine zy_h (mr := zm_m33) rfl rfl (zh_put (zs_ne (zs_eq (zs_ne (zs_eq (zs_ne (zs_eq (zs_ne (zs_eq (zs_ne (zs_eq (zs_ne (zs_eq (zs_ne (zs_eq (zs_ne (zs_eq (zs_ne (zs_eq (zs_ne (zs_eq (zs_ne (zs_eq (zs_ne (zs_eq (zs_ne (zs_eq (zs_ne (zs_eq (zs_ne (zs_eq (zs_ne (zs_eq (zp_o F 1 rfl)) (by decide))) (by decide))) (by decide))) (by decide))) (by decide))) (by decide))) (by decide))) (by decide))) (by decide))) (by decide))) (by decide))) (by decide))) (by decide))) (by decide))) (by decide))) (by decide)) rfl rfl) ?_
  refine zy_n 5 (mr := zm_m33) (pc' := 39) (ls' := [(2, .int 24), (0, .ref 2), (1, .int a5)]) (st' := [.int ((a5 >>> (24 &&& 31)) &&& 255), .int 16, .ref 3]) rfl rfl ?_
  refine zy_h (mr := zm_m33) rfl rfl (zh_iast (zs_ne (zs_eq (zs_ne (zs_eq (zs_ne (zs_eq (zs_ne (zs_eq (zs_ne (zs_eq (zs_ne (zs_eq (zs_ne (zs_eq (zs_ne (zs_eq (zs_ne (zs_eq (zs_ne (zs_eq (zs_ne (zs_eq (zs_ne (zs_eq (zs_ne (zs_eq (zs_ne (zs_eq (zs_ne (zs_eq (zs_ne (zs_eq (zs_ne (zp_i F 0 rfl) (by decide))) (by decide))) (by decide))) (by decide))) (by decide))) (by decide))) (by decide))) (by decide))) (by decide))) (by decide))) (by decide))) (by decide))) (by decide))) (by decide))) (by decide))) (by decide))) (by decide)) (by decide)) ?_
  refine zy_n 3 (mr := zm_m33) (pc' := 4) (ls' := [(2, .int 16), (0, .ref 2), (1, .int a5)]) (st' := [.int 16]) rfl rfl ?_
  refine zy_b (q := (7, [])) (mr := zm_m33) rfl rfl rfl ?_
  refine zy_n 1 (mr := zm_m33) (pc' := 8) (ls' := [(2, .int 16), (0, .ref 2), (1, .int a5)]) (st' := [.ref 2]) rfl rfl ?_
  refine zy_h (mr := zm_m33) rfl rfl (zh_get (v := .int 17) (zs_ne (zs_eq (zs_ne (zs_eq (zs_ne (zs_eq (zs_ne (zs_eq (zs_ne (zs_eq (zs_ne (zs_eq (zs_ne (zs_eq (zs_ne (zs_eq (zs_ne (zs_eq (zs_ne (zs_eq (zs_ne (zs_eq (zs_ne (zs_eq (zs_ne (zs_eq (zs_ne (zs_eq (zs_ne (zs_eq (zs_ne (zs_eq (zs_ne (zs_eq (zp_o F 1 rfl)) (by decide))) (by decide))) (by decide))) (by decide))) (by decide))) (by decide))) (by decide))) (by decide))) (by decide))) (by decide))) (by decide))) (by decide))) (by decide))) (by decide))) (by decide))) (by decide))) (by decide)) rfl) ?_
  refine zy_n 1 (mr := zm_m33) (pc' := 14) (ls' := [(2, .int 16), (0, .ref 2), (1, .int a5)]) (st' := [.int 300, .int 17]) rfl rfl ?_
  refine zy_b (q := (17, [])) (mr := zm_m33) rfl rfl rfl ?_
  refine zy_n 1 (mr := zm_m33) (pc' := 18) (ls' := [(2, .int 16), (0, .ref 2), (1, .int a5)]) (st' := [.ref 2]) rfl rfl ?_
  refine zy_h (mr := zm_m33) rfl rfl (zh_get (v := .ref 3) (zs_ne (zs_eq (zs_ne (zs_eq (zs_ne (zs_eq (zs_ne (zs_eq (zs_ne (zs_eq (zs_ne (zs_eq (zs_ne (zs_eq (zs_ne (zs_eq (zs_ne (zs_eq (zs_ne (zs_eq (zs_ne (zs_eq (zs_ne (zs_eq (zs_ne (zs_eq (zs_ne (zs_eq (zs_ne (zs_eq (zs_ne (zs_eq (zs_ne (zs_eq (zp_o F 1 rfl)) (by decide))) (by decide))) (by decide))) (by decide))) (by decide))) (by decide))) (by decide))) (by decide))) (by decide))) (by decide))) (by decide))) (by decide))) (by decide))) (by decide))) (by decide))) (by decide))) (by decide)) rfl) ?_
  refine zy_n 2 (mr := zm_m33) (pc' := 23) (ls' := [(2, .int 16), (0, .ref 2), (1, .int a5)]) (st' := [.ref 2, .ref 2, .ref 3]) rfl rfl ?_
  refine zy_h (mr := zm_m33) rfl rfl (zh_get (v := .int 17) (zs_ne (zs_eq (zs_ne (zs_eq (zs_ne (zs_eq (zs_ne (zs_eq (zs_ne (zs_eq (zs_ne (zs_eq (zs_ne (zs_eq (zs_ne (zs_eq (zs_ne (zs_eq (zs_ne (zs_eq (zs_ne (zs_eq (zs_ne (zs_eq (zs_ne (zs_eq (zs_ne (zs_eq (zs_ne (zs_eq (zs_ne (zs_eq (zs_ne (zs_eq (zp_o F 1 rfl)) (by decide))) (by decide))) (by decide))) (by decide))) (by decide))) (by decide))) (by decide))) (by decide))) (by decide))) (by decide))) (by decide))) (by decide))) (by decide))) (by decide))) (by decide))) (by decide))) (by decide)) rfl) ?_
  refine zy_n 3 (mr := zm_m33) (pc' := 29) (ls' := [(2, .int 16), (0, .ref 2), (1, .int a5)]) (st' := [.int 18, .ref 2, .int 17, .ref 3]) rfl rfl ?_
  refine zy_h (mr := zm_m33) rfl rfl (zh_put (zs_ne (zs_eq (zs_ne (zs_eq (zs_ne (zs_eq (zs_ne (zs_eq (zs_ne (zs_eq (zs_ne (zs_eq (zs_ne (zs_eq (zs_ne (zs_eq (zs_ne (zs_eq (zs_ne (zs_eq (zs_ne (zs_eq (zs_ne (zs_eq (zs_ne (zs_eq (zs_ne (zs_eq (zs_ne (zs_eq (zs_ne (zs_eq (zs_ne (zs_eq (zp_o F 1 rfl)) (by decide))) (by decide))) (by decide))) (by decide))) (by decide))) (by decide))) (by decide))) (by decide))) (by decide))) (by decide))) (by decide))) (by decide))) (by decide))) (by decide))) (by decide))) (by decide))) (by decide)) rfl rfl) ?_
  refine zy_n 5 (mr := zm_m33) (pc' := 39) (ls' := [(2, .int 16), (0, .ref 2), (1, .int a5)]) (st' := [.int ((a5 >>> (16 &&& 31)) &&& 255), .int 17, .ref 3]) rfl rfl ?_
  refine zy_h (mr := zm_m33) rfl rfl (zh_iast (zs_ne (zs_eq (zs_ne (zs_eq (zs_ne (zs_eq (zs_ne (zs_eq (zs_ne (zs_eq (zs_ne (zs_eq (zs_ne (zs_eq (zs_ne (zs_eq (zs_ne (zs_eq (zs_ne (zs_eq (zs_ne (zs_eq (zs_ne (zs_eq (zs_ne (zs_eq (zs_ne (zs_eq (zs_ne (zs_eq (zs_ne (zs_eq (zs_ne (zs_eq (zs_ne (zp_i F 0 rfl) (by decide))) (by decide))) (by decide))) (by decide))) (by decide))) (by decide))) (by decide))) (by decide))) (by decide))) (by decide))) (by decide))) (by decide))) (by decide))) (by decide))) (by decide))) (by decide))) (by decide))) (by decide)) (by decide)) ?_
  refine zy_n 3 (mr := zm_m33) (pc' := 4) (ls' := [(2, .int 8), (0, .ref 2), (1, .int a5)]) (st' := [.int 8]) rfl rfl ?_
  refine zy_b (q := (7, [])) (mr := zm_m33) rfl rfl rfl ?_
  refine zy_n 1 (mr := zm_m33) (pc' := 8) (ls' := [(2, .int 8), (0, .ref 2), (1, .int a5)]) (st' := [.ref 2]) rfl rfl ?_
  refine zy_h (mr := zm_m33) rfl rfl (zh_get (v := .int 18) (zs_ne (zs_eq (zs_ne (zs_eq (zs_ne (zs_eq (zs_ne (zs_eq (zs_ne (zs_eq (zs_ne (zs_eq (zs_ne (zs_eq (zs_ne (zs_eq (zs_ne (zs_eq (zs_ne (zs_eq (zs_ne (zs_eq (zs_ne (zs_eq (zs_ne (zs_eq (zs_ne (zs_eq (zs_ne (zs_eq (zs_ne (zs_eq (zs_ne (zs_eq (zs_ne (zs_eq (zp_o F 1 rfl)) (by decide))) (by decide))) (by decide))) (by decide))) (by decide))) (by decide))) (by decide))) (by decide))) (by decide))) (by decide))) (by decide))) (by decide))) (by decide))) (by decide))) (by decide))) (by decide))) (by decide))) (by decide)) rfl) ?_
  refine zy_n 1 (mr := zm_m33) (pc' := 14) (ls' := [(2, .int 8), (0, .ref 2), (1, .int a5)]) (st' := [.int 300, .int 18]) rfl rfl ?_
  refine zy_b (q := (17, [])) (mr := zm_m33) rfl rfl rfl ?_
  refine zy_n 1 (mr := zm_m33) (pc' := 18) (ls' := [(2, .int 8), (0, .ref 2), (1, .int a5)]) (st' := [.ref 2]) rfl rfl ?_
  refine zy_h (mr := zm_m33) rfl rfl (zh_get (v := .ref 3) (zs_ne (zs_eq (zs_ne (zs_eq (zs_ne (zs_eq (zs_ne (zs_eq (zs_ne (zs_eq (zs_ne (zs_eq (zs_ne (zs_eq (zs_ne (zs_eq (zs_ne (zs_eq (zs_ne (zs_eq (zs_ne (zs_eq (zs_ne (zs_eq (zs_ne (zs_eq (zs_ne (zs_eq (zs_ne (zs_eq (zs_ne (zs_eq (zs_ne (zs_eq (zs_ne (zs_eq (zp_o F 1 rfl)) (by decide))) (by decide))) (by decide))) (by decide))) (by decide))) (by decide))) (by decide))) (by decide))) (by decide))) (by decide))) (by decide))) (by decide))) (by decide))) (by decide))) (by decide))) (by decide))) (by decide))) (by decide)) rfl) ?_
  refine zy_n 2 (mr := zm_m33) (pc' := 23) (ls' := [(2, .int 8), (0, .ref 2), (1, .int a5)]) (st' := [.ref 2, .ref 2, .ref 3]) rfl rfl ?_
  refine zy_h (mr := zm_m33) rfl rfl (zh_get (v := .int 18) (zs_ne (zs_eq (zs_ne (zs_eq (zs_ne (zs_eq (zs_ne (zs_eq (zs_ne (zs_eq (zs_ne (zs_eq (zs_ne (zs_eq (zs_ne (zs_eq (zs_ne (zs_eq (zs_ne (zs_eq (zs_ne (zs_eq (zs_ne (zs_eq (zs_ne (zs_eq (zs_ne (zs_eq (zs_ne (zs_eq (zs_ne (zs_eq (zs_ne (zs_eq (zs_ne (zs_eq (zp_o F 1 rfl)) (by decide))) (by decide))) (by decide))) (by decide))) (by decide))) (by decide))) (by decide))) (by decide))) (by decide))) (by decide))) (by decide))) (by decide))) (by decide))) (by decide))) (by decide))) (by decide))) (by decide))) (by decide)) rfl) ?_
  refine zy_n 3 (mr := zm_m33) (pc' := 29) (ls' := [(2, .int 8), (0, .ref 2), (1, .int a5)]) (st' := [.int 19, .ref 2, .int 18, .ref 3]) rfl rfl ?_
  refine zy_h (mr := zm_m33) rfl rfl (zh_put (zs_ne (zs_eq (zs_ne (zs_eq (zs_ne (zs_eq (zs_ne (zs_eq (zs_ne (zs_eq (zs_ne (zs_eq (zs_ne (zs_eq (zs_ne (zs_eq (zs_ne (zs_eq (zs_ne (zs_eq (zs_ne (zs_eq (zs_ne (zs_eq (zs_ne (zs_eq (zs_ne (zs_eq (zs_ne (zs_eq (zs_ne (zs_eq (zs_ne (zs_eq (zs_ne (zs_eq (zp_o F 1 rfl)) (by decide))) (by decide))) (by decide))) (by decide))) (by decide))) (by decide))) (by decide))) (by decide))) (by decide))) (by decide))) (by decide))) (by decide))) (by decide))) (by decide))) (by decide))) (by decide))) (by decide))) (by decide)) rfl rfl) ?_
  refine zy_n 5 (mr := zm_m33) (pc' := 39) (ls' := [(2, .int 8), (0, .ref 2), (1, .int a5)]) (st' := [.int ((a5 >>> (8 &&& 31)) &&& 255), .int 18, .ref 3]) rfl rfl ?_
  refine zy_h (mr := zm_m33) rfl rfl (zh_iast (zs_ne (zs_eq (zs_ne (zs_eq (zs_ne (zs_eq (zs_ne (zs_eq (zs_ne (zs_eq (zs_ne (zs_eq (zs_ne (zs_eq (zs_ne (zs_eq (zs_ne (zs_eq (zs_ne (zs_eq (zs_ne (zs_eq (zs_ne (zs_eq (zs_ne (zs_eq (zs_ne (zs_eq (zs_ne (zs_eq (zs_ne (zs_eq (zs_ne (zs_eq (zs_ne (zs_eq (zs_ne (zp_i F 0 rfl) (by decide))) (by decide))) (by decide))) (by decide))) (by decide))) (by decide))) (by decide))) (by decide))) (by decide))) (by decide))) (by decide))) (by decide))) (by decide))) (by decide))) (by decide))) (by decide))) (by decide))) (by decide))) (by decide)) (by decide)) ?_
  refine zy_n 3 (mr := zm_m33) (pc' := 4) (ls' := [(2, .int 0), (0, .ref 2), (1, .int a5)]) (st' := [.int 0]) rfl rfl ?_
  refine zy_b (q := (7, [])) (mr := zm_m33) rfl rfl rfl ?_
  refine zy_n 1 (mr := zm_m33) (pc' := 8) (ls' := [(2, .int 0), (0, .ref 2), (1, .int a5)]) (st' := [.ref 2]) rfl rfl ?_
  refine zy_h (mr := zm_m33) rfl rfl (zh_get (v := .int 19) (zs_ne (zs_eq (zs_ne (zs_eq (zs_ne (zs_eq (zs_ne (zs_eq (zs_ne (zs_eq (zs_ne (zs_eq (zs_ne (zs_eq (zs_ne (zs_eq (zs_ne (zs_eq (zs_ne (zs_eq (zs_ne (zs_eq (zs_ne (zs_eq (zs_ne (zs_eq (zs_ne (zs_eq (zs_ne (zs_eq (zs_ne (zs_eq (zs_ne (zs_eq (zs_ne (zs_eq (zs_ne (zs_eq (zp_o F 1 rfl)) (by decide))) (by decide))) (by decide))) (by decide))) (by decide))) (by decide))) (by decide))) (by decide))) (by decide))) (by decide))) (by decide))) (by decide))) (by decide))) (by decide))) (by decide))) (by decide))) (by decide))) (by decide))) (by decide)) rfl) ?_
  refine zy_n 1 (mr := zm_m33) (pc' := 14) (ls' := [(2, .int 0), (0, .ref 2), (1, .int a5)]) (st' := [.int 300, .int 19]) rfl rfl ?_
  refine zy_b (q := (17, [])) (mr := zm_m33) rfl rfl rfl ?_
  refine zy_n 1 (mr := zm_m33) (pc' := 18) (ls' := [(2, .int 0), (0, .ref 2), (1, .int a5)]) (st' := [.ref 2]) rfl rfl ?_
  refine zy_h (mr := zm_m33) rfl rfl (zh_get (v := .ref 3) (zs_ne (zs_eq (zs_ne (zs_eq (zs_ne (zs_eq (zs_ne (zs_eq (zs_ne (zs_eq (zs_ne (zs_eq (zs_ne (zs_eq (zs_ne (zs_eq (zs_ne (zs_eq (zs_ne (zs_eq (zs_ne (zs_eq (zs_ne (zs_eq (zs_ne (zs_eq (zs_ne (zs_eq (zs_ne (zs_eq (zs_ne (zs_eq (zs_ne (zs_eq (zs_ne (zs_eq (zs_ne (zs_eq (zp_o F 1 rfl)) (by decide))) (by decide))) (by decide))) (by decide))) (by decide))) (by decide))) (by decide))) (by decide))) (by decide))) (by decide))) (by decide))) (by decide))) (by decide))) (by decide))) (by decide))) (by decide))) (by decide))) (by decide))) (by decide)) rfl) ?_
  refine zy_n 2 (mr := zm_m33) (pc' := 23) (ls' := [(2, .int 0), (0, .ref 2), (1, .int a5)]) (st' := [.ref 2, .ref 2, .ref 3]) rfl rfl ?_
  refine zy_h (mr := zm_m33) rfl rfl (zh_get (v := .int 19) (zs_ne (zs_eq (zs_ne (zs_eq (zs_ne (zs_eq (zs_ne (zs_eq (zs_ne (zs_eq (zs_ne (zs_eq (zs_ne (zs_eq (zs_ne (zs_eq (zs_ne (zs_eq (zs_ne (zs_eq (zs_ne (zs_eq (zs_ne (zs_eq (zs_ne (zs_eq (zs_ne (zs_eq (zs_ne (zs_eq (zs_ne (zs_eq (zs_ne (zs_eq (zs_ne (zs_eq (zs_ne (zs_eq (zp_o F 1 rfl)) (by decide))) (by decide))) (by decide))) (by decide))) (by decide))) (by decide))) (by decide))) (by decide))) (by decide))) (by decide))) (by decide))) (by decide))) (by decide))) (by decide))) (by decide))) (by decide))) (by decide))) (by decide))) (by decide)) rfl) ?_
  refine zy_n 3 (mr := zm_m33) (pc' := 29) (ls' := [(2, .int 0), (0, .ref 2), (1, .int a5)]) (st' := [.int 20, .ref 2, .int 19, .ref 3]) rfl rfl ?_
  refine zy_h (mr := zm_m33) rfl rfl (zh_put (zs_ne (zs_eq (zs_ne (zs_eq (zs_ne (zs_eq (zs_ne (zs_eq (zs_ne (zs_eq (zs_ne (zs_eq (zs_ne (zs_eq (zs_ne (zs_eq (zs_ne (zs_eq (zs_ne (zs_eq (zs_ne (zs_eq (zs_ne (zs_eq (zs_ne (zs_eq (zs_ne (zs_eq (zs_ne (zs_eq (zs_ne (zs_eq (zs_ne (zs_eq (zs_ne (zs_eq (zs_ne (zs_eq (zp_o F 1 rfl)) (by decide))) (by decide))) (by decide))) (by decide))) (by decide))) (by decide))) (by decide))) (by decide))) (by decide))) (by decide))) (by decide))) (by decide))) (by decide))) (by decide))) (by decide))) (by decide))) (by decide))) (by decide))) (by decide)) rfl rfl) ?_
  refine zy_n 5 (mr := zm_m33) (pc' := 39) (ls' := [(2, .int 0), (0, .ref 2), (1, .int a5)]) (st' := [.int ((a5 >>> (0 &&& 31)) &&& 255), .int 19, .ref 3]) rfl rfl ?_
  refine zy_h (mr := zm_m33) rfl rfl (zh_iast (zs_ne (zs_eq (zs_ne (zs_eq (zs_ne (zs_eq (zs_ne (zs_eq (zs_ne (zs_eq (zs_ne (zs_eq (zs_ne (zs_eq (zs_ne (zs_eq (zs_ne (zs_eq (zs_ne (zs_eq (zs_ne (zs_eq (zs_ne (zs_eq (zs_ne (zs_eq (zs_ne (zs_eq (zs_ne (zs_eq (zs_ne (zs_eq (zs_ne (zs_eq (zs_ne (zs_eq (zs_ne (zs_eq (zs_ne (zp_i F 0 rfl) (by decide))) (by decide))) (by decide))) (by decide))) (by decide))) (by decide))) (by decide))) (by decide))) (by decide))) (by decide))) (by decide))) (by decide))) (by decide))) (by decide))) (by decide))) (by decide))) (by decide))) (by decide))) (by decide))) (by decide)) (by decide)) ?_
  refine zy_n 3 (mr := zm_m33) (pc' := 4) (ls' := [(2, .int (-8)), (0, .ref 2), (1, .int a5)]) (st' := [.int (-8)]) rfl rfl ?_
  refine zy_b (q := (46, [])) (mr := zm_m33) rfl rfl rfl ?_
  refine zy_r (mr := zm_m33) rfl rfl rfl ?_
  refine zy_n 1 (mr := zm_m31) (pc' := 57) (ls' := [(0, .ref 0), (1, .int a1), (2, .int a2), (3, .int a3), (4, .int a4), (5, .int a5)]) (st' := [.ref 0]) rfl rfl ?_
  refine zy_h (mr := zm_m31) rfl rfl (zh_get (v := .ref 2) (zs_ne (zs_ne (zs_ne (zs_ne (zs_ne (zs_ne (zs_ne (zs_ne (zs_ne (zs_ne (zs_ne (zs_ne (zs_ne (zs_ne (zs_ne (zs_ne (zs_ne (zs_ne (zs_ne (zs_ne (zs_ne (zs_ne (zs_ne (zs_ne (zs_ne (zs_ne (zs_ne (zs_ne (zs_ne (zs_ne (zs_ne (zs_ne (zs_ne (zs_ne (zs_ne (zs_ne (zs_ne (zs_ne (zs_ne (zs_ne (zp_o F 0 rfl) (by decide)) (by decide)) (by decide)) (by decide)) (by decide)) (by decide)) (by decide)) (by decide)) (by decide)) (by decide)) (by decide)) (by decide)) (by decide)) (by decide)) (by decide)) (by decide)) (by decide)) (by decide)) (by decide)) (by decide)) (by decide)) (by decide)) (by decide)) (by decide)) (by decide)) (by decide)) (by decide)) (by decide)) (by decide)) (by decide)) (by decide)) (by decide)) (by decide)) (by decide)) (by decide)) (by decide)) (by decide)) (by decide)) (by decide)) (by decide)) rfl) ?_
  refine zy_h (mr := zm_m31) rfl rfl (zh_get (v := .int 20) (zs_ne (zs_eq (zs_ne (zs_eq (zs_ne (zs_eq (zs_ne (zs_eq (zs_ne (zs_eq (zs_ne (zs_eq (zs_ne (zs_eq (zs_ne (zs_eq (zs_ne (zs_eq (zs_ne (zs_eq (zs_ne (zs_eq (zs_ne (zs_eq (zs_ne (zs_eq (zs_ne (zs_eq (zs_ne (zs_eq (zs_ne (zs_eq (zs_ne (zs_eq (zs_ne (zs_eq (zs_ne (zs_eq (zs_ne (zs_eq (zp_o F 1 rfl)) (by decide))) (by decide))) (by decide))) (by decide))) (by decide))) (by decide))) (by decide))) (by decide))) (by decide))) (by decide))) (by decide))) (by decide))) (by decide))) (by decide))) (by decide))) (by decide))) (by decide))) (by decide))) (by decide))) (by decide)) rfl) ?_
  refine zy_r (mr := zm_m31) rfl rfl rfl ?_
  refine ⟨⟨_, rfl, ?_⟩, fun k hk1 hk2 => ((List.getElem?_set_ne (by omega)).trans ((List.getElem?_set_ne (by omega)).trans ((List.getElem?_set_ne (by omega)).trans ((List.getElem?_set_ne (by omega)).trans ((List.getElem?_set_ne (by omega)).trans ((List.getElem?_set_ne (by omega)).trans ((List.getElem?_set_ne (by omega)).trans ((List.getElem?_set_ne (by omega)).trans ((List.getElem?_set_ne (by omega)).trans ((List.getElem?_set_ne (by omega)).trans ((List.getElem?_set_ne (by omega)).trans ((List.getElem?_set_ne (by omega)).trans ((List.getElem?_set_ne (by omega)).trans ((List.getElem?_set_ne (by omega)).trans ((List.getElem?_set_ne (by omega)).trans ((List.getElem?_set_ne (by omega)).trans ((List.getElem?_set_ne (by omega)).trans ((List.getElem?_set_ne (by omega)).trans ((List.getElem?_set_ne (by omega)).trans ((List.getElem?_set_ne (by omega)).trans ((List.getElem?_set_ne (by omega)).trans ((List.getElem?_set_ne (by omega)).trans ((List.getElem?_set_ne (by omega)).trans ((List.getElem?_set_ne (by omega)).trans ((List.getElem?_set_ne (by omega)).trans ((List.getElem?_set_ne (by omega)).trans ((List.getElem?_set_ne (by omega)).trans ((List.getElem?_set_ne (by omega)).trans ((List.getElem?_set_ne (by omega)).trans ((List.getElem?_set_ne (by omega)).trans ((List.getElem?_set_ne (by omega)).trans ((List.getElem?_set_ne (by omega)).trans ((List.getElem?_set_ne (by omega)).trans ((List.getElem?_set_ne (by omega)).trans ((List.getElem?_set_ne (by omega)).trans ((List.getElem?_set_ne (by omega)).trans ((List.getElem?_set_ne (by omega)).trans ((List.getElem?_set_ne (by omega)).trans ((List.getElem?_set_ne (by omega)).trans ((List.getElem?_set_ne (by omega)).trans rfl)))))))))))))))))))))))))))))))))))))))), by rw [(zs_lset (zs_lset (zs_lset (zs_lset (zs_lset (zs_lset (zs_lset (zs_lset (zs_lset (zs_lset (zs_lset (zs_lset (zs_lset (zs_lset (zs_lset (zs_lset (zs_lset (zs_lset (zs_lset (zs_lset (zs_lset (zs_lset (zs_lset (zs_lset (zs_lset (zs_lset (zs_lset (zs_lset (zs_lset (zs_lset (zs_lset (zs_lset (zs_lset (zs_lset (zs_lset (zs_lset (zs_lset (zs_lset (zs_lset (zs_lset (zp_len F).1))))))))))))))))))))))))))))))))))))))))]; decide, by rw [(zs_szset (zs_ne (zs_eq (zs_ne (zs_eq (zs_ne (zs_eq (zs_ne (zs_eq (zs_ne (zs_eq (zs_ne (zs_eq (zs_ne (zs_eq (zs_ne (zs_eq (zs_ne (zs_eq (zs_ne (zs_eq (zs_ne (zs_eq (zs_ne (zs_eq (zs_ne (zs_eq (zs_ne (zs_eq (zs_ne (zs_eq (zs_ne (zs_eq (zs_ne (zs_eq (zs_ne (zs_eq (zs_ne (zs_eq (zs_ne (zp_i F 0 rfl) (by decide))) (by decide))) (by decide))) (by decide))) (by decide))) (by decide))) (by decide))) (by decide))) (by decide))) (by decide))) (by decide))) (by decide))) (by decide))) (by decide))) (by decide))) (by decide))) (by decide))) (by decide))) (by decide))) (by decide)) rfl (zs_szset (zs_ne (zs_eq (zs_ne (zs_eq (zs_ne (zs_eq (zs_ne (zs_eq (zs_ne (zs_eq (zs_ne (zs_eq (zs_ne (zs_eq (zs_ne (zs_eq (zs_ne (zs_eq (zs_ne (zs_eq (zs_ne (zs_eq (zs_ne (zs_eq (zs_ne (zs_eq (zs_ne (zs_eq (zs_ne (zs_eq (zs_ne (zs_eq (zs_ne (zs_eq (zs_ne (zs_eq (zs_ne (zs_eq (zp_o F 1 rfl)) (by decide))) (by decide))) (by decide))) (by decide))) (by decide))) (by decide))) (by decide))) (by decide))) (by decide))) (by decide))) (by decide))) (by decide))) (by decide))) (by decide))) (by decide))) (by decide))) (by decide))) (by decide))) (by decide)) rfl (zs_szset (zs_ne (zs_eq (zs_ne (zs_eq (zs_ne (zs_eq (zs_ne (zs_eq (zs_ne (zs_eq (zs_ne (zs_eq (zs_ne (zs_eq (zs_ne (zs_eq (zs_ne (zs_eq (zs_ne (zs_eq (zs_ne (zs_eq (zs_ne (zs_eq (zs_ne (zs_eq (zs_ne (zs_eq (zs_ne (zs_eq (zs_ne (zs_eq (zs_ne (zs_eq (zs_ne (zs_eq (zs_ne (zp_i F 0 rfl) (by decide))) (by decide))) (by decide))) (by decide))) (by decide))) (by decide))) (by decide))) (by decide))) (by decide))) (by decide))) (by decide))) (by decide))) (by decide))) (by decide))) (by decide))) (by decide))) (by decide))) (by decide))) (by decide)) rfl (zs_szset (zs_ne (zs_eq (zs_ne (zs_eq (zs_ne (zs_eq (zs_ne (zs_eq (zs_ne (zs_eq (zs_ne (zs_eq (zs_ne (zs_eq (zs_ne (zs_eq (zs_ne (zs_eq (zs_ne (zs_eq (zs_ne (zs_eq (zs_ne (zs_eq (zs_ne (zs_eq (zs_ne (zs_eq (zs_ne (zs_eq (zs_ne (zs_eq (zs_ne (zs_eq (zs_ne (zs_eq (zp_o F 1 rfl)) (by decide))) (by decide))) (by decide))) (by decide))) (by decide))) (by decide))) (by decide))) (by decide))) (by decide))) (by decide))) (by decide))) (by decide))) (by decide))) (by decide))) (by decide))) (by decide))) (by decide))) (by decide)) rfl (zs_szset (zs_ne (zs_eq (zs_ne (zs_eq (zs_ne (zs_eq (zs_ne (zs_eq (zs_ne (zs_eq (zs_ne (zs_eq (zs_ne (zs_eq (zs_ne (zs_eq (zs_ne (zs_eq (zs_ne (zs_eq (zs_ne (zs_eq (zs_ne (zs_eq (zs_ne (zs_eq (zs_ne (zs_eq (zs_ne (zs_eq (zs_ne (zs_eq (zs_ne (zs_eq (zs_ne (zp_i F 0 rfl) (by decide))) (by decide))) (by decide))) (by decide))) (by decide))) (by decide))) (by decide))) (by decide))) (by decide))) (by decide))) (by decide))) (by decide))) (by decide))) (by decide))) (by decide))) (by decide))) (by decide))) (by decide)) rfl (zs_szset (zs_ne (zs_eq (zs_ne (zs_eq (zs_ne (zs_eq (zs_ne (zs_eq (zs_ne (zs_eq (zs_ne (zs_eq (zs_ne (zs_eq (zs_ne (zs_eq (zs_ne (zs_eq (zs_ne (zs_eq (zs_ne (zs_eq (zs_ne (zs_eq (zs_ne (zs_eq (zs_ne (zs_eq (zs_ne (zs_eq (zs_ne (zs_eq (zs_ne (zs_eq (zp_o F 1 rfl)) (by decide))) (by decide))) (by decide))) (by decide))) (by decide))) (by decide))) (by decide))) (by decide))) (by decide))) (by decide))) (by decide))) (by decide))) (by decide))) (by decide))) (by decide))) (by decide))) (by decide)) rfl (zs_szset (zs_ne (zs_eq (zs_ne (zs_eq (zs_ne (zs_eq (zs_ne (zs_eq (zs_ne (zs_eq (zs_ne (zs_eq (zs_ne (zs_eq (zs_ne (zs_eq (zs_ne (zs_eq (zs_ne (zs_eq (zs_ne (zs_eq (zs_ne (zs_eq (zs_ne (zs_eq (zs_ne (zs_eq (zs_ne (zs_eq (zs_ne (zs_eq (zs_ne (zp_i F 0 rfl) (by decide))) (by decide))) (by decide))) (by decide))) (by decide))) (by decide))) (by decide))) (by decide))) (by decide))) (by decide))) (by decide))) (by decide))) (by decide))) (by decide))) (by decide))) (by decide))) (by decide)) rfl (zs_szset (zs_ne (zs_eq (zs_ne (zs_eq (zs_ne (zs_eq (zs_ne (zs_eq (zs_ne (zs_eq (zs_ne (zs_eq (zs_ne (zs_eq (zs_ne (zs_eq (zs_ne (zs_eq (zs_ne (zs_eq (zs_ne (zs_eq (zs_ne (zs_eq (zs_ne (zs_eq (zs_ne (zs_eq (zs_ne (zs_eq (zs_ne (zs_eq (zp_o F 1 rfl)) (by decide))) (by decide))) (by decide))) (by decide))) (by decide))) (by decide))) (by decide))) (by decide))) (by decide))) (by decide))) (by decide))) (by decide))) (by decide))) (by decide))) (by decide))) (by decide)) rfl (zs_szset (zs_ne (zs_eq (zs_ne (zs_eq (zs_ne (zs_eq (zs_ne (zs_eq (zs_ne (zs_eq (zs_ne (zs_eq (zs_ne (zs_eq (zs_ne (zs_eq (zs_ne (zs_eq (zs_ne (zs_eq (zs_ne (zs_eq (zs_ne (zs_eq (zs_ne (zs_eq (zs_ne (zs_eq (zs_ne (zs_eq (zs_ne (zp_i F 0 rfl) (by decide))) (by decide))) (by decide))) (by decide))) (by decide))) (by decide))) (by decide))) (by decide))) (by decide))) (by decide))) (by decide))) (by decide))) (by decide))) (by decide))) (by decide))) (by decide)) rfl (zs_szset (zs_ne (zs_eq (zs_ne (zs_eq (zs_ne (zs_eq (zs_ne (zs_eq (zs_ne (zs_eq (zs_ne (zs_eq (zs_ne (zs_eq (zs_ne (zs_eq (zs_ne (zs_eq (zs_ne (zs_eq (zs_ne (zs_eq (zs_ne (zs_eq (zs_ne (zs_eq (zs_ne (zs_eq (zs_ne (zs_eq (zp_o F 1 rfl)) (by decide))) (by decide))) (by decide))) (by decide))) (by decide))) (by decide))) (by decide))) (by decide))) (by decide))) (by decide))) (by decide))) (by decide))) (by decide))) (by decide))) (by decide)) rfl (zs_szset (zs_ne (zs_eq (zs_ne (zs_eq (zs_ne (zs_eq (zs_ne (zs_eq (zs_ne (zs_eq (zs_ne (zs_eq (zs_ne (zs_eq (zs_ne (zs_eq (zs_ne (zs_eq (zs_ne (zs_eq (zs_ne (zs_eq (zs_ne (zs_eq (zs_ne (zs_eq (zs_ne (zs_eq (zs_ne (zp_i F 0 rfl) (by decide))) (by decide))) (by decide))) (by decide))) (by decide))) (by decide))) (by decide))) (by decide))) (by decide))) (by decide))) (by decide))) (by decide))) (by decide))) (by decide))) (by decide)) rfl (zs_szset (zs_ne (zs_eq (zs_ne (zs_eq (zs_ne (zs_eq (zs_ne (zs_eq (zs_ne (zs_eq (zs_ne (zs_eq (zs_ne (zs_eq (zs_ne (zs_eq (zs_ne (zs_eq (zs_ne (zs_eq (zs_ne (zs_eq (zs_ne (zs_eq (zs_ne (zs_eq (zs_ne (zs_eq (zp_o F 1 rfl)) (by decide))) (by decide))) (by decide))) (by decide))) (by decide))) (by decide))) (by decide))) (by decide))) (by decide))) (by decide))) (by decide))) (by decide))) (by decide))) (by decide)) rfl (zs_szset (zs_ne (zs_eq (zs_ne (zs_eq (zs_ne (zs_eq (zs_ne (zs_eq (zs_ne (zs_eq (zs_ne (zs_eq (zs_ne (zs_eq (zs_ne (zs_eq (zs_ne (zs_eq (zs_ne (zs_eq (zs_ne (zs_eq (zs_ne (zs_eq (zs_ne (zs_eq (zs_ne (zp_i F 0 rfl) (by decide))) (by decide))) (by decide))) (by decide))) (by decide))) (by decide))) (by decide))) (by decide))) (by decide))) (by decide))) (by decide))) (by decide))) (by decide))) (by decide)) rfl (zs_szset (zs_ne (zs_eq (zs_ne (zs_eq (zs_ne (zs_eq (zs_ne (zs_eq (zs_ne (zs_eq (zs_ne (zs_eq (zs_ne (zs_eq (zs_ne (zs_eq (zs_ne (zs_eq (zs_ne (zs_eq (zs_ne (zs_eq (zs_ne (zs_eq (zs_ne (zs_eq (zp_o F 1 rfl)) (by decide))) (by decide))) (by decide))) (by decide))) (by decide))) (by decide))) (by decide))) (by decide))) (by decide))) (by decide))) (by decide))) (by decide))) (by decide)) rfl (zs_szset (zs_ne (zs_eq (zs_ne (zs_eq (zs_ne (zs_eq (zs_ne (zs_eq (zs_ne (zs_eq (zs_ne (zs_eq (zs_ne (zs_eq (zs_ne (zs_eq (zs_ne (zs_eq (zs_ne (zs_eq (zs_ne (zs_eq (zs_ne (zs_eq (zs_ne (zp_i F 0 rfl) (by decide))) (by decide))) (by decide))) (by decide))) (by decide))) (by decide))) (by decide))) (by decide))) (by decide))) (by decide))) (by decide))) (by decide))) (by decide)) rfl (zs_szset (zs_ne (zs_eq (zs_ne (zs_eq (zs_ne (zs_eq (zs_ne (zs_eq (zs_ne (zs_eq (zs_ne (zs_eq (zs_ne (zs_eq (zs_ne (zs_eq (zs_ne (zs_eq (zs_ne (zs_eq (zs_ne (zs_eq (zs_ne (zs_eq (zp_o F 1 rfl)) (by decide))) (by decide))) (by decide))) (by decide))) (by decide))) (by decide))) (by decide))) (by decide))) (by decide))) (by decide))) (by decide))) (by decide)) rfl (zs_szset (zs_ne (zs_eq (zs_ne (zs_eq (zs_ne (zs_eq (zs_ne (zs_eq (zs_ne (zs_eq (zs_ne (zs_eq (zs_ne (zs_eq (zs_ne (zs_eq (zs_ne (zs_eq (zs_ne (zs_eq (zs_ne (zs_eq (zs_ne (zp_i F 0 rfl) (by decide))) (by decide))) (by decide))) (by decide))) (by decide))) (by decide))) (by decide))) (by decide))) (by decide))) (by decide))) (by decide))) (by decide)) rfl (zs_szset (zs_ne (zs_eq (zs_ne (zs_eq (zs_ne (zs_eq (zs_ne (zs_eq (zs_ne (zs_eq (zs_ne (zs_eq (zs_ne (zs_eq (zs_ne (zs_eq (zs_ne (zs_eq (zs_ne (zs_eq (zs_ne (zs_eq (zp_o F 1 rfl)) (by decide))) (by decide))) (by decide))) (by decide))) (by decide))) (by decide))) (by decide))) (by decide))) (by decide))) (by decide))) (by decide)) rfl (zs_szset (zs_ne (zs_eq (zs_ne (zs_eq (zs_ne (zs_eq (zs_ne (zs_eq (zs_ne (zs_eq (zs_ne (zs_eq (zs_ne (zs_eq (zs_ne (zs_eq (zs_ne (zs_eq (zs_ne (zs_eq (zs_ne (zp_i F 0 rfl) (by decide))) (by decide))) (by decide))) (by decide))) (by decide))) (by decide))) (by decide))) (by decide))) (by decide))) (by decide))) (by decide)) rfl (zs_szset (zs_ne (zs_eq (zs_ne (zs_eq (zs_ne (zs_eq (zs_ne (zs_eq (zs_ne (zs_eq (zs_ne (zs_eq (zs_ne (zs_eq (zs_ne (zs_eq (zs_ne (zs_eq (zs_ne (zs_eq (zp_o F 1 rfl)) (by decide))) (by decide))) (by decide))) (by decide))) (by decide))) (by decide))) (by decide))) (by decide))) (by decide))) (by decide)) rfl (zs_szset (zs_ne (zs_eq (zs_ne (zs_eq (zs_ne (zs_eq (zs_ne (zs_eq (zs_ne (zs_eq (zs_ne (zs_eq (zs_ne (zs_eq (zs_ne (zs_eq (zs_ne (zs_eq (zs_ne (zp_i F 0 rfl) (by decide))) (by decide))) (by decide))) (by decide))) (by decide))) (by decide))) (by decide))) (by decide))) (by decide))) (by decide)) rfl (zs_szset (zs_ne (zs_eq (zs_ne (zs_eq (zs_ne (zs_eq (zs_ne (zs_eq (zs_ne (zs_eq (zs_ne (zs_eq (zs_ne (zs_eq (zs_ne (zs_eq (zs_ne (zs_eq (zp_o F 1 rfl)) (by decide))) (by decide))) (by decide))) (by decide))) (by decide))) (by decide))) (by decide))) (by decide))) (by decide)) rfl (zs_szset (zs_ne (zs_eq (zs_ne (zs_eq (zs_ne (zs_eq (zs_ne (zs_eq (zs_ne (zs_eq (zs_ne (zs_eq (zs_ne (zs_eq (zs_ne (zs_eq (zs_ne (zp_i F 0 rfl) (by decide))) (by decide))) (by decide))) (by decide))) (by decide))) (by decide))) (by decide))) (by decide))) (by decide)) rfl (zs_szset (zs_ne (zs_eq (zs_ne (zs_eq (zs_ne (zs_eq (zs_ne (zs_eq (zs_ne (zs_eq (zs_ne (zs_eq (zs_ne (zs_eq (zs_ne (zs_eq (zp_o F 1 rfl)) (by decide))) (by decide))) (by decide))) (by decide))) (by decide))) (by decide))) (by decide))) (by decide)) rfl (zs_szset (zs_ne (zs_eq (zs_ne (zs_eq (zs_ne (zs_eq (zs_ne (zs_eq (zs_ne (zs_eq (zs_ne (zs_eq (zs_ne (zs_eq (zs_ne (zp_i F 0 rfl) (by decide))) (by decide))) (by decide))) (by decide))) (by decide))) (by decide))) (by decide))) (by decide)) rfl (zs_szset (zs_ne (zs_eq (zs_ne (zs_eq (zs_ne (zs_eq (zs_ne (zs_eq (zs_ne (zs_eq (zs_ne (zs_eq (zs_ne (zs_eq (zp_o F 1 rfl)) (by decide))) (by decide))) (by decide))) (by decide))) (by decide))) (by decide))) (by decide)) rfl (zs_szset (zs_ne (zs_eq (zs_ne (zs_eq (zs_ne (zs_eq (zs_ne (zs_eq (zs_ne (zs_eq (zs_ne (zs_eq (zs_ne (zp_i F 0 rfl) (by decide))) (by decide))) (by decide))) (by decide))) (by decide))) (by decide))) (by decide)) rfl (zs_szset (zs_ne (zs_eq (zs_ne (zs_eq (zs_ne (zs_eq (zs_ne (zs_eq (zs_ne (zs_eq (zs_ne (zs_eq (zp_o F 1 rfl)) (by decide))) (by decide))) (by decide))) (by decide))) (by decide))) (by decide)) rfl (zs_szset (zs_ne (zs_eq (zs_ne (zs_eq (zs_ne (zs_eq (zs_ne (zs_eq (zs_ne (zs_eq (zs_ne (zp_i F 0 rfl) (by decide))) (by decide))) (by decide))) (by decide))) (by decide))) (by decide)) rfl (zs_szset (zs_ne (zs_eq (zs_ne (zs_eq (zs_ne (zs_eq (zs_ne (zs_eq (zs_ne (zs_eq (zp_o F 1 rfl)) (by decide))) (by decide))) (by decide))) (by decide))) (by decide)) rfl (zs_szset (zs_ne (zs_eq (zs_ne (zs_eq (zs_ne (zs_eq (zs_ne (zs_eq (zs_ne (zp_i F 0 rfl) (by decide))) (by decide))) (by decide))) (by decide))) (by decide)) rfl (zs_szset (zs_ne (zs_eq (zs_ne (zs_eq (zs_ne (zs_eq (zs_ne (zs_eq (zp_o F 1 rfl)) (by decide))) (by decide))) (by decide))) (by decide)) rfl (zs_szset (zs_ne (zs_eq (zs_ne (zs_eq (zs_ne (zs_eq (zs_ne (zp_i F 0 rfl) (by decide))) (by decide))) (by decide))) (by decide)) rfl (zs_szset (zs_ne (zs_eq (zs_ne (zs_eq (zs_ne (zs_eq (zp_o F 1 rfl)) (by decide))) (by decide))) (by decide)) rfl (zs_szset (zs_ne (zs_eq (zs_ne (zs_eq (zs_ne (zp_i F 0 rfl) (by decide))) (by decide))) (by decide)) rfl (zs_szset (zs_ne (zs_eq (zs_ne (zs_eq (zp_o F 1 rfl)) (by decide))) (by decide)) rfl (zs_szset (zs_ne (zs_eq (zs_ne (zp_i F 0 rfl) (by decide))) (by decide)) rfl (zs_szset (zs_ne (zs_eq (zp_o F 1 rfl)) (by decide)) rfl (zs_szset (zs_ne (zp_i F 0 rfl) (by decide)) rfl (zs_szset (zp_o F 1 rfl) rfl (zp_len F).2))))))))))))))))))))))))))))))))))))))))]; decide⟩
  simp [zf_8]
set_option maxHeartbeats 4000000 in
set_option maxRecDepth 20000 in
theorem zx_9 {og : Nat → Option zm_C} {h : zm_H} (F : zp_ck h = true) (a1 : Int32) : zm_Y og 30 34 0 [(0, .ref 0), (1, .int a1)] [] h (fun r h1 => (∃ v, r = some (.int v) ∧ zf_9 a1 v) ∧ (∀ k : Nat, 55 ≤ k → k < 117 → h1[k]? = h[k]?) ∧ h1.length ≤ 200 ∧ zm_szs h1 ≤ 90000) := by
  refine zy_n 3 (mr := zm_m34) (pc' := 3) (ls' := [(0, .ref 0), (1, .int a1)]) (st' := [.ref 0, .int 0, .int a1]) rfl rfl ?_
  refine zy_h (mr := zm_m34) rfl rfl (zh_get (v := .ref 2) (zp_o F 0 rfl) rfl) ?_
  refine zy_h (mr := zm_m34) rfl rfl (zh_get (v := .int 0) (zp_o F 1 rfl) rfl) ?_
  refine zy_c (mc := zm_m10) (mr := zm_m34) rfl rfl rfl rfl rfl (zm_Y.mono (zk_within a1 0 0) ?_)
  rintro r h1 ⟨rfl, ⟨rfl, hc1⟩ | ⟨rfl, hc1⟩⟩
  · skip
    refine zy_b (q := (17, [])) (mr := zm_m34) rfl rfl rfl ?_
    refine zy_n 1 (mr := zm_m34) (pc' := 18) (ls' := [(0, .ref 0), (1, .int a1)]) (st' := [.ref 0]) rfl rfl ?_
    refine zy_h (mr := zm_m34) rfl rfl (zh_get (v := .ref 2) (zp_o F 0 rfl) rfl) ?_
    refine zy_n 1 (mr := zm_m34) (pc' := 22) (ls' := [(0, .ref 0), (1, .int a1)]) (st' := [.int a1, .ref 2]) rfl rfl ?_
    refine zy_h (mr := zm_m34) rfl rfl (zh_put (zp_o F 1 rfl) rfl rfl) ?_
    refine zy_n 1 (mr := zm_m34) (pc' := 26) (ls' := [(0, .ref 0), (1, .int a1)]) (st' := [.int a1]) rfl rfl ?_
    refine zy_r (mr := zm_m34) rfl rfl rfl ?_
    refine ⟨⟨_, rfl, ?_⟩, fun k hk1 hk2 => ((List.getElem?_set_ne (by omega)).trans rfl), by rw [(zs_lset (zp_len F).1)]; decide, by rw [(zs_szset (zp_o F 1 rfl) rfl (zp_len F).2)]; decide⟩
    simp [zf_9, hc1]
  · skip
    refine zy_b (q := (15, [])) (mr := zm_m34) rfl rfl rfl ?_
    refine zy_n 1 (mr := zm_m34) (pc' := 16) (ls' := [(0, .ref 0), (1, .int a1)]) (st' := [.int (-1)]) rfl rfl ?_
    refine zy_r (mr := zm_m34) rfl rfl rfl ?_
    refine ⟨⟨_, rfl, ?_⟩, fun k hk1 hk2 => rfl, by rw [(zp_len F).1]; decide, by rw [(zp_len F).2]; decide⟩
    simp [zf_9, hc1]
