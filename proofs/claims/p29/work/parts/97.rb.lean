/-! Houses, years, lines: piece 1 (made by a program) -/
section XC1
variable {og : Nat → Option zm_C} {τ τ' : List Nat} {h h' : zm_H} {ms : List (Nat × Nat)} {ad : Nat → Nat} {n : Nat} {st dn rf : Nat → Int32} {nr y L : Int32} {wk : Nat → Int32}
theorem zh_exE {d : Nat} {a : Int32} (hH : xHI xKT xSG τ h) (hn : n ≤ 16) (f1 : xfd h 0 1 = some (.int (Int32.ofNat n))) : zm_Y og (d + 1) 18 0 [(0, .ref 0), (1, .int a)] [] h (fun r h' => h' = h ∧ r = some (.int (if 0 ≤ a.toInt ∧ a.toInt < (n : Int) then 1 else 0))) := by
  refine zy_n 3 (mr := zm_m18) rfl (show _ = some (3, [(0, .ref 0), (1, .int a)], [.ref 0, .int 0, .int a]) from rfl) ?_
  refine zk_get (mr := zm_m18) rfl rfl hH (hH.2.2 0 rfl) rfl f1 ?_
  refine zy_n 2 (mr := zm_m18) rfl (show _ = some (8, [(0, .ref 0), (1, .int a)], [.int ((Int32.ofNat n) - 1), .int 0, .int a]) from rfl) ?_
  refine zy_c (mr := zm_m18) (mc := zm_m10) rfl rfl rfl rfl rfl ?_
  refine (zh_withinE).mono (fun q h' hq => ?_)
  obtain ⟨hez, rfl⟩ := hq
  rw [hez]
  have e1 := xsubN hn
  have e0 : (0 : Int32).toInt = 0 := rfl
  rw [e1, e0]
  by_cases c : 0 ≤ a.toInt ∧ a.toInt < (n : Int)
  · rw [if_pos c, if_pos ⟨c.1, by omega⟩]
    exact zy_r (mr := zm_m18) rfl rfl rfl ⟨rfl, rfl⟩
  · rw [if_neg c, if_neg (fun z => c ⟨z.1, by omega⟩)]
    exact zy_r (mr := zm_m18) rfl rfl rfl ⟨rfl, rfl⟩
theorem zh_stE {d : Nat} {a : Int32} (hH : xHI xKT xSG τ h) (hc : xCXa ad τ h n st dn rf nr y L wk) : zm_Y og (d + 2) 17 0 [(0, .ref 0), (1, .int a)] [] h (fun r h' => h' = h ∧ r = some (.int (if xupb n dn a then 1 else 0))) := by
  obtain ⟨hn, f1, f2, f3, f4, hw, hh, hi⟩ := id hc
  by_cases c : 0 ≤ a.toInt ∧ a.toInt < (n : Int)
  · have hla : a.toInt.toNat < n := by omega
    have hja := xnat a (c).1
    obtain ⟨hn, f1, f2, f3, f4, hw, hh, hi⟩ := id hc
    obtain ⟨g1a, g2a, g3a, g4a, g5a⟩ := hh _ hla
    refine zy_n 2 (mr := zm_m17) rfl (show _ = some (2, [(0, .ref 0), (1, .int a)], [.int a, .ref 0]) from rfl) ?_
    refine zy_c (mr := zm_m17) (mc := zm_m18) rfl rfl (zk_cx (A := [.int a]) hH rfl rfl) rfl rfl ?_
    refine (zh_exE hH hn f1).mono (fun q h' hq => ?_)
    obtain ⟨hez, rfl⟩ := hq
    rw [hez]
    rw [if_pos c]
    refine zy_b (mr := zm_m17) rfl rfl (show _ = some (8, []) from rfl) ?_
    refine zy_n 1 (mr := zm_m17) rfl (show _ = some (9, [(0, .ref 0), (1, .int a)], [.ref 0]) from rfl) ?_
    refine zk_get (mr := zm_m17) rfl rfl hH (hH.2.2 0 rfl) rfl (xfo_ref (k := 0) (f := 0) (a := 1) hH rfl rfl rfl) ?_
    refine zy_n 1 (mr := zm_m17) rfl (show _ = some (13, [(0, .ref 0), (1, .int a)], [.int a, .ref 1]) from rfl) ?_
    refine zk_ald (mr := zm_m17) rfl rfl hH (hH.2.2 1 rfl) rfl rfl g1a hja ?_
    refine zk_get (mr := zm_m17) rfl rfl hH g2a rfl g5a ?_
    refine zy_b (mr := zm_m17) rfl rfl (show _ = some (zm_if .ne (dn a.toInt.toNat) 24 20, []) from rfl) ?_
    refine zi_ne (fun c2 => ?_) (fun c2 => ?_)
    · refine zy_n 1 (mr := zm_m17) rfl (show _ = some (25, [(0, .ref 0), (1, .int a)], [.int 0]) from rfl) ?_
      refine zy_r (mr := zm_m17) rfl rfl (show _ = some (some (.int 0)) from rfl) ⟨rfl, by rw [if_neg (fun z => c2 z.2.2)]⟩
    · refine zy_n 2 (mr := zm_m17) rfl (show _ = some (25, [(0, .ref 0), (1, .int a)], [.int 1]) from rfl) ?_
      refine zy_r (mr := zm_m17) rfl rfl (show _ = some (some (.int 1)) from rfl) ⟨rfl, by rw [if_pos ⟨c.1, c.2, c2⟩]⟩
  · refine zy_n 2 (mr := zm_m17) rfl (show _ = some (2, [(0, .ref 0), (1, .int a)], [.int a, .ref 0]) from rfl) ?_
    refine zy_c (mr := zm_m17) (mc := zm_m18) rfl rfl (zk_cx (A := [.int a]) hH rfl rfl) rfl rfl ?_
    refine (zh_exE hH hn f1).mono (fun q h' hq => ?_)
    obtain ⟨hez, rfl⟩ := hq
    rw [hez]
    rw [if_neg c]
    refine zy_b (mr := zm_m17) rfl rfl (show _ = some (24, []) from rfl) ?_
    refine zy_n 1 (mr := zm_m17) rfl (show _ = some (25, [(0, .ref 0), (1, .int a)], [.int 0]) from rfl) ?_
    refine zy_r (mr := zm_m17) rfl rfl (show _ = some (some (.int 0)) from rfl) ⟨rfl, by rw [if_neg (fun z => c ⟨z.1, z.2.1⟩)]⟩
theorem zh_inE {d : Nat} {a s : Int32} (hH : xHI xKT xSG τ h) (hc : xCXa ad τ h n st dn rf nr y L wk) : zm_Y og (d + 3) 122 0 [(0, .ref 0), (1, .int a), (2, .int s)] [] h (fun r h' => h' = h ∧ r = some (.int (if xupb n dn a ∧ st a.toInt.toNat = s then 1 else 0))) := by
  obtain ⟨hn, f1, f2, f3, f4, hw, hh, hi⟩ := id hc
  by_cases c : xupb n dn a
  · have hla : a.toInt.toNat < n := by omega
    have hja := xnat a (c).1
    obtain ⟨hn, f1, f2, f3, f4, hw, hh, hi⟩ := id hc
    obtain ⟨g1a, g2a, g3a, g4a, g5a⟩ := hh _ hla
    refine zy_n 2 (mr := zm_m122) rfl (show _ = some (2, [(0, .ref 0), (1, .int a), (2, .int s)], [.int a, .ref 0]) from rfl) ?_
    refine zy_c (mr := zm_m122) (mc := zm_m17) rfl rfl (zk_cx (A := [.int a]) hH rfl rfl) rfl rfl ?_
    refine (zh_stE hH hc).mono (fun q h' hq => ?_)
    obtain ⟨hez, rfl⟩ := hq
    rw [hez]
    rw [if_pos c]
    refine zy_b (mr := zm_m122) rfl rfl (show _ = some (8, []) from rfl) ?_
    refine zy_n 1 (mr := zm_m122) rfl (show _ = some (9, [(0, .ref 0), (1, .int a), (2, .int s)], [.ref 0]) from rfl) ?_
    refine zk_get (mr := zm_m122) rfl rfl hH (hH.2.2 0 rfl) rfl (xfo_ref (k := 0) (f := 0) (a := 1) hH rfl rfl rfl) ?_
    refine zy_n 1 (mr := zm_m122) rfl (show _ = some (13, [(0, .ref 0), (1, .int a), (2, .int s)], [.int a, .ref 1]) from rfl) ?_
    refine zk_ald (mr := zm_m122) rfl rfl hH (hH.2.2 1 rfl) rfl rfl g1a hja ?_
    refine zk_get (mr := zm_m122) rfl rfl hH g2a rfl g3a ?_
    refine zy_n 1 (mr := zm_m122) rfl (show _ = some (18, [(0, .ref 0), (1, .int a), (2, .int s)], [.int s, .int (st a.toInt.toNat)]) from rfl) ?_
    refine zy_b (mr := zm_m122) rfl rfl (show _ = some (zm_ic .ne (st a.toInt.toNat) s 25 21, []) from rfl) ?_
    refine zc_ne (fun c2 => ?_) (fun c2 => ?_)
    · refine zy_n 1 (mr := zm_m122) rfl (show _ = some (26, [(0, .ref 0), (1, .int a), (2, .int s)], [.int 0]) from rfl) ?_
      refine zy_r (mr := zm_m122) rfl rfl (show _ = some (some (.int 0)) from rfl) ⟨rfl, by rw [if_neg (fun z => c2 z.2)]⟩
    · refine zy_n 2 (mr := zm_m122) rfl (show _ = some (26, [(0, .ref 0), (1, .int a), (2, .int s)], [.int 1]) from rfl) ?_
      refine zy_r (mr := zm_m122) rfl rfl (show _ = some (some (.int 1)) from rfl) ⟨rfl, by rw [if_pos ⟨c, c2⟩]⟩
  · refine zy_n 2 (mr := zm_m122) rfl (show _ = some (2, [(0, .ref 0), (1, .int a), (2, .int s)], [.int a, .ref 0]) from rfl) ?_
    refine zy_c (mr := zm_m122) (mc := zm_m17) rfl rfl (zk_cx (A := [.int a]) hH rfl rfl) rfl rfl ?_
    refine (zh_stE hH hc).mono (fun q h' hq => ?_)
    obtain ⟨hez, rfl⟩ := hq
    rw [hez]
    rw [if_neg c]
    refine zy_b (mr := zm_m122) rfl rfl (show _ = some (25, []) from rfl) ?_
    refine zy_n 1 (mr := zm_m122) rfl (show _ = some (26, [(0, .ref 0), (1, .int a), (2, .int s)], [.int 0]) from rfl) ?_
    refine zy_r (mr := zm_m122) rfl rfl (show _ = some (some (.int 0)) from rfl) ⟨rfl, by rw [if_neg (fun z => c z.1)]⟩
theorem zh_mhE {d : Nat} {a : Int32} (hH : xHI xKT xSG τ h) (hn : n ≤ 16) (f1 : xfd h 55 6 = some (.int (Int32.ofNat n))) : zm_Y og (d + 1) 193 0 [(0, .ref 55), (1, .int a)] [] h (fun r h' => h' = h ∧ r = some (.int (if 0 ≤ a.toInt ∧ a.toInt < (n : Int) then 1 else 0))) := by
  refine zy_n 4 (mr := zm_m193) rfl (show _ = some (4, [(0, .ref 55), (1, .int a)], [.ref 55, .long 0, .long a.toInt64]) from rfl) ?_
  refine zk_get (mr := zm_m193) rfl rfl hH (hH.2.2 55 rfl) rfl f1 ?_
  refine zy_n 3 (mr := zm_m193) rfl (show _ = some (10, [(0, .ref 55), (1, .int a)], [.long (((Int32.ofNat n) - 1).toInt64), .long 0, .long a.toInt64]) from rfl) ?_
  refine zy_c (mr := zm_m193) (mc := zm_m183) rfl rfl rfl rfl rfl ?_
  refine (zh_minE).mono (fun q h' hq => ?_)
  obtain ⟨hez, rfl⟩ := hq
  rw [hez]
  have e1 := xsubN hn
  have e0 : (0 : Int64).toInt = 0 := rfl
  rw [Int32.toInt_toInt64, Int32.toInt_toInt64, e1, e0]
  by_cases c : 0 ≤ a.toInt ∧ a.toInt < (n : Int)
  · rw [if_pos c, if_pos ⟨c.1, by omega⟩]
    exact zy_r (mr := zm_m193) rfl rfl rfl ⟨rfl, rfl⟩
  · rw [if_neg c, if_neg (fun z => c ⟨z.1, by omega⟩)]
    exact zy_r (mr := zm_m193) rfl rfl rfl ⟨rfl, rfl⟩
theorem zh_muE {d : Nat} {a : Int32} (hH : xHI xKT xSG τ h) (hc : xCM h n st dn rf nr y L wk) : zm_Y og (d + 2) 192 0 [(0, .ref 55), (1, .int a)] [] h (fun r h' => h' = h ∧ r = some (.int (if xupb n dn a then 1 else 0))) := by
  obtain ⟨hn, f1, f2, f3, f4, hw, hh, hz⟩ := id hc
  by_cases c : 0 ≤ a.toInt ∧ a.toInt < (n : Int)
  · have hla : a.toInt.toNat < n := by omega
    have hja := xnat a (c).1
    obtain ⟨hn, f1, f2, f3, f4, hw, hh, hz⟩ := id hc
    obtain ⟨g1a, g2a, g3a⟩ := hh _ hla
    refine zy_n 2 (mr := zm_m192) rfl (show _ = some (2, [(0, .ref 55), (1, .int a)], [.int a, .ref 55]) from rfl) ?_
    refine zy_c (mr := zm_m192) (mc := zm_m193) rfl rfl (zk_cm (A := [.int a]) hH rfl rfl) rfl rfl ?_
    refine (zh_mhE hH hn f1).mono (fun q h' hq => ?_)
    obtain ⟨hez, rfl⟩ := hq
    rw [hez]
    rw [if_pos c]
    refine zy_b (mr := zm_m192) rfl rfl (show _ = some (8, []) from rfl) ?_
    refine zy_n 1 (mr := zm_m192) rfl (show _ = some (9, [(0, .ref 55), (1, .int a)], [.ref 55]) from rfl) ?_
    refine zk_get (mr := zm_m192) rfl rfl hH (hH.2.2 55 rfl) rfl (xfo_ref (k := 55) (f := 24) (a := 69) hH rfl rfl rfl) ?_
    refine zy_n 1 (mr := zm_m192) rfl (show _ = some (13, [(0, .ref 55), (1, .int a)], [.int a, .ref 69]) from rfl) ?_
    refine zk_zld (mr := zm_m192) rfl rfl hH (hH.2.2 69 rfl) rfl g3a hja ?_
    refine zy_b (mr := zm_m192) rfl rfl (show _ = some (zm_if .ne (dn a.toInt.toNat) 21 17, []) from rfl) ?_
    refine zi_ne (fun c2 => ?_) (fun c2 => ?_)
    · refine zy_n 1 (mr := zm_m192) rfl (show _ = some (22, [(0, .ref 55), (1, .int a)], [.int 0]) from rfl) ?_
      refine zy_r (mr := zm_m192) rfl rfl (show _ = some (some (.int 0)) from rfl) ⟨rfl, by rw [if_neg (fun z => c2 z.2.2)]⟩
    · refine zy_n 2 (mr := zm_m192) rfl (show _ = some (22, [(0, .ref 55), (1, .int a)], [.int 1]) from rfl) ?_
      refine zy_r (mr := zm_m192) rfl rfl (show _ = some (some (.int 1)) from rfl) ⟨rfl, by rw [if_pos ⟨c.1, c.2, c2⟩]⟩
  · refine zy_n 2 (mr := zm_m192) rfl (show _ = some (2, [(0, .ref 55), (1, .int a)], [.int a, .ref 55]) from rfl) ?_
    refine zy_c (mr := zm_m192) (mc := zm_m193) rfl rfl (zk_cm (A := [.int a]) hH rfl rfl) rfl rfl ?_
    refine (zh_mhE hH hn f1).mono (fun q h' hq => ?_)
    obtain ⟨hez, rfl⟩ := hq
    rw [hez]
    rw [if_neg c]
    refine zy_b (mr := zm_m192) rfl rfl (show _ = some (21, []) from rfl) ?_
    refine zy_n 1 (mr := zm_m192) rfl (show _ = some (22, [(0, .ref 55), (1, .int a)], [.int 0]) from rfl) ?_
    refine zy_r (mr := zm_m192) rfl rfl (show _ = some (some (.int 0)) from rfl) ⟨rfl, by rw [if_neg (fun z => c ⟨z.1, z.2.1⟩)]⟩
theorem xd_x1 {d : Nat} {a : Int32} (hH : xHI xKT xSG τ h) (hX : xX τ h) (hc : xCXa ad τ h n st dn rf nr y L wk) (hu : xupb n dn a) : zm_Y og (d + 3) 30 0 [(0, .ref 0), (1, .int a)] [] h (xCO τ h 0 [(0, 2), (36, 9), (207, 4), (207, 9)] (fun r => r = some (.int 1)) (fun τ1 h1 => xCX τ1 h1 n st (upd dn a.toInt.toNat 1) (upd rf a.toInt.toNat nr) (nr + 1) y L wk)) := by
  obtain ⟨hn, f1, f2, f3, f4, hw, hh, hi⟩ := id hc
  have hla : a.toInt.toNat < n := by omega
  have hja := xnat a (hu).1
  obtain ⟨hn, f1, f2, f3, f4, hw, hh, hi⟩ := id hc
  obtain ⟨g1a, g2a, g3a, g4a, g5a⟩ := hh _ hla
  refine zy_n 2 (mr := zm_m30) rfl (show _ = some (2, [(0, .ref 0), (1, .int a)], [.int a, .ref 0]) from rfl) ?_
  refine zy_c (mr := zm_m30) (mc := zm_m17) rfl rfl (zk_cx (A := [.int a]) hH rfl rfl) rfl rfl ?_
  refine (zh_stE hH hc).mono (fun q h' hq => ?_)
  obtain ⟨hez, rfl⟩ := hq
  rw [hez]
  rw [if_pos hu]
  refine zy_b (mr := zm_m30) rfl rfl (show _ = some (10, []) from rfl) ?_
  refine zy_n 1 (mr := zm_m30) rfl (show _ = some (11, [(0, .ref 0), (1, .int a)], [.ref 0]) from rfl) ?_
  refine zk_get (mr := zm_m30) rfl rfl hH (hH.2.2 0 rfl) rfl (xfo_ref (k := 0) (f := 0) (a := 1) hH rfl rfl rfl) ?_
  refine zy_n 1 (mr := zm_m30) rfl (show _ = some (15, [(0, .ref 0), (1, .int a)], [.int a, .ref 1]) from rfl) ?_
  refine zk_ald (mr := zm_m30) rfl rfl hH (hH.2.2 1 rfl) rfl rfl g1a hja ?_
  refine zy_n 1 (mr := zm_m30) rfl (show _ = some (17, [(0, .ref 0), (1, .int a)], [.int 1, .ref ((ad a.toInt.toNat))]) from rfl) ?_
  refine zk_put (mr := zm_m30) rfl rfl hH hX g2a rfl rfl rfl rfl ⟨_, List.mem_cons_self, ⟨_, rfl, by decide, by decide⟩⟩ ?_
  intro h1 hH1 hX1 hW1 hs1 hg1 hF1
  have hc := xCXa_dn hH hc hla hg1 hs1
  obtain ⟨hn, f1, f2, f3, f4, hw, hh, hi⟩ := id hc
  obtain ⟨g1a, g2a, g3a, g4a, g5a⟩ := hh _ hla
  refine zy_n 1 (mr := zm_m30) rfl (show _ = some (21, [(0, .ref 0), (1, .int a)], [.ref 0]) from rfl) ?_
  refine zk_get (mr := zm_m30) rfl rfl hH1 (hH1.2.2 0 rfl) rfl (xfo_ref (k := 0) (f := 0) (a := 1) hH1 rfl rfl rfl) ?_
  refine zy_n 1 (mr := zm_m30) rfl (show _ = some (25, [(0, .ref 0), (1, .int a)], [.int a, .ref 1]) from rfl) ?_
  refine zk_ald (mr := zm_m30) rfl rfl hH1 (hH1.2.2 1 rfl) rfl rfl g1a hja ?_
  refine zy_n 2 (mr := zm_m30) rfl (show _ = some (28, [(0, .ref 0), (1, .int a)], [.ref 0, .ref 0, .ref ((ad a.toInt.toNat))]) from rfl) ?_
  refine zk_get (mr := zm_m30) rfl rfl hH1 (hH1.2.2 0 rfl) rfl f2 ?_
  refine zy_n 3 (mr := zm_m30) rfl (show _ = some (34, [(0, .ref 0), (1, .int a)], [.int (nr + 1), .ref 0, .int nr, .ref ((ad a.toInt.toNat))]) from rfl) ?_
  refine zk_put (mr := zm_m30) rfl rfl hH1 hX1 (hH1.2.2 0 rfl) rfl rfl rfl rfl ⟨_, List.mem_cons_self, ⟨_, rfl, (xb_rng _).1, (xb_rng _).2⟩⟩ ?_
  intro h2 hH2 hX2 hW2 hs2 hg2 hF2
  have hc := xCXa_nr hH1 hc hg2 hs2
  obtain ⟨hn, f1, f2, f3, f4, hw, hh, hi⟩ := id hc
  obtain ⟨g1a, g2a, g3a, g4a, g5a⟩ := hh _ hla
  refine zk_put (mr := zm_m30) rfl rfl hH2 hX2 g2a rfl rfl rfl rfl ⟨_, List.mem_cons_self, ⟨_, rfl, (xb_rng _).1, (xb_rng _).2⟩⟩ ?_
  intro h3 hH3 hX3 hW3 hs3 hg3 hF3
  have hc := xCXa_rf hH2 hc hla hg3 hs3
  obtain ⟨hn, f1, f2, f3, f4, hw, hh, hi⟩ := id hc
  obtain ⟨g1a, g2a, g3a, g4a, g5a⟩ := hh _ hla
  refine zy_n 1 (mr := zm_m30) rfl (show _ = some (41, [(0, .ref 0), (1, .int a)], [.ref 0]) from rfl) ?_
  refine zk_get (mr := zm_m30) rfl rfl hH3 (hH3.2.2 0 rfl) rfl (xfo_ref (k := 0) (f := 10) (a := 36) hH3 rfl rfl rfl) ?_
  refine zy_n 1 (mr := zm_m30) rfl (show _ = some (45, [(0, .ref 0), (1, .int a)], [.int 0, .ref 36]) from rfl) ?_
  refine zk_put (mr := zm_m30) rfl rfl hH3 hX3 (hH3.2.2 36 rfl) rfl rfl rfl rfl ⟨_, List.mem_cons_self, ⟨_, rfl, by decide, by decide⟩⟩ ?_
  intro h4 hH4 hX4 hW4 hs4 hg4 hF4
  have hc := xCXa_F hH3 (hF4 [(36, 9)] rfl) rfl hc
  obtain ⟨hn, f1, f2, f3, f4, hw, hh, hi⟩ := id hc
  obtain ⟨g1a, g2a, g3a, g4a, g5a⟩ := hh _ hla
  refine zy_n 1 (mr := zm_m30) rfl (show _ = some (49, [(0, .ref 0), (1, .int a)], [.int 1]) from rfl) ?_
  refine zy_r (mr := zm_m30) rfl rfl (show _ = some (some (.int 1)) from rfl) ⟨rfl, τ, hH4, hX4, by omega, (xF_trans (hF1 _ rfl) (xF_trans (hF2 _ rfl) (xF_trans (hF3 _ rfl) (hF4 _ rfl)))), ⟨ad, hc⟩⟩
theorem xd_x0 {d : Nat} {a : Int32} (hH : xHI xKT xSG τ h) (hX : xX τ h) (hc : xCXa ad τ h n st dn rf nr y L wk) (hu : ¬ xupb n dn a) : zm_Y og (d + 3) 30 0 [(0, .ref 0), (1, .int a)] [] h (xCO τ h 0 [(0, 2), (36, 9), (207, 4), (207, 9)] (fun r => r = some (.int 0)) (fun τ1 h1 => xCX τ1 h1 n st dn rf nr y L wk)) := by
  obtain ⟨hn, f1, f2, f3, f4, hw, hh, hi⟩ := id hc
  refine zy_n 2 (mr := zm_m30) rfl (show _ = some (2, [(0, .ref 0), (1, .int a)], [.int a, .ref 0]) from rfl) ?_
  refine zy_c (mr := zm_m30) (mc := zm_m17) rfl rfl (zk_cx (A := [.int a]) hH rfl rfl) rfl rfl ?_
  refine (zh_stE hH hc).mono (fun q h' hq => ?_)
  obtain ⟨hez, rfl⟩ := hq
  rw [hez]
  rw [if_neg hu]
  refine zy_b (mr := zm_m30) rfl rfl (show _ = some (8, []) from rfl) ?_
  refine zy_n 1 (mr := zm_m30) rfl (show _ = some (9, [(0, .ref 0), (1, .int a)], [.int 0]) from rfl) ?_
  refine zy_r (mr := zm_m30) rfl rfl (show _ = some (some (.int 0)) from rfl) ⟨rfl, τ, hH, hX, Nat.le_add_right _ _, xF_refl _ _ _, ⟨ad, hc⟩⟩
theorem xd_m1 {d : Nat} {a : Int32} (hH : xHI xKT xSG τ h) (hX : xX τ h) (hc : xCM h n st dn rf nr y L wk) (hu : xupb n dn a) : zm_Y og (d + 3) 198 0 [(0, .ref 55), (1, .int a)] [] h (xCO τ h 0 [(55, 0), (55, 10), (55, 82), (68, 0), (69, 0)] (fun r => r = some (.int 1)) (fun τ1 h1 => xCM h1 n st (upd dn a.toInt.toNat 1) (upd rf a.toInt.toNat nr) (nr + 1) y L wk)) := by
  obtain ⟨hn, f1, f2, f3, f4, hw, hh, hz⟩ := id hc
  have hla : a.toInt.toNat < n := by omega
  have hja := xnat a (hu).1
  obtain ⟨hn, f1, f2, f3, f4, hw, hh, hz⟩ := id hc
  obtain ⟨g1a, g2a, g3a⟩ := hh _ hla
  refine zy_n 2 (mr := zm_m198) rfl (show _ = some (2, [(0, .ref 55), (1, .int a)], [.int 0, .ref 55]) from rfl) ?_
  refine zk_put (mr := zm_m198) rfl rfl hH hX (hH.2.2 55 rfl) rfl rfl rfl rfl ⟨_, List.mem_cons_self, ⟨_, rfl, by decide, by decide⟩⟩ ?_
  intro h1 hH1 hX1 hW1 hs1 hg1 hF1
  have hc := xCM_F hH (hF1 [(55, 0)] rfl) rfl hc
  obtain ⟨hn, f1, f2, f3, f4, hw, hh, hz⟩ := id hc
  obtain ⟨g1a, g2a, g3a⟩ := hh _ hla
  refine zy_n 2 (mr := zm_m198) rfl (show _ = some (7, [(0, .ref 55), (1, .int a)], [.int a, .ref 55]) from rfl) ?_
  refine zy_c (mr := zm_m198) (mc := zm_m192) rfl rfl (zk_cm (A := [.int a]) hH1 rfl rfl) rfl rfl ?_
  refine (zh_muE hH1 hc).mono (fun q h' hq => ?_)
  obtain ⟨hez, rfl⟩ := hq
  rw [hez]
  rw [if_pos hu]
  refine zy_b (mr := zm_m198) rfl rfl (show _ = some (15, []) from rfl) ?_
  refine zy_n 1 (mr := zm_m198) rfl (show _ = some (16, [(0, .ref 55), (1, .int a)], [.ref 55]) from rfl) ?_
  refine zk_get (mr := zm_m198) rfl rfl hH1 (hH1.2.2 55 rfl) rfl (xfo_ref (k := 55) (f := 24) (a := 69) hH1 rfl rfl rfl) ?_
  refine zy_n 2 (mr := zm_m198) rfl (show _ = some (21, [(0, .ref 55), (1, .int a)], [.int 1, .int a, .ref 69]) from rfl) ?_
  refine zk_zst (mr := zm_m198) rfl rfl hH1 hX1 (hH1.2.2 69 rfl) rfl rfl hja (by omega) rfl List.mem_cons_self ⟨_, rfl, by decide, by decide⟩ ⟨by show (0 : Int) ≤ _; omega, by show _ ≤ (15 : Int); omega, Or.inl rfl⟩ ?_
  intro h2 hH2 hX2 hW2 hs2 hg2 hF2
  have hc := xCM_dn hc hla hg2 hs2
  obtain ⟨hn, f1, f2, f3, f4, hw, hh, hz⟩ := id hc
  obtain ⟨g1a, g2a, g3a⟩ := hh _ hla
  refine zy_n 1 (mr := zm_m198) rfl (show _ = some (23, [(0, .ref 55), (1, .int a)], [.ref 55]) from rfl) ?_
  refine zk_get (mr := zm_m198) rfl rfl hH2 (hH2.2.2 55 rfl) rfl (xfo_ref (k := 55) (f := 23) (a := 68) hH2 rfl rfl rfl) ?_
  refine zy_n 2 (mr := zm_m198) rfl (show _ = some (28, [(0, .ref 55), (1, .int a)], [.ref 55, .int a, .ref 68]) from rfl) ?_
  refine zk_get (mr := zm_m198) rfl rfl hH2 (hH2.2.2 55 rfl) rfl f2 ?_
  refine zk_ist (mr := zm_m198) rfl rfl hH2 hX2 (hH2.2.2 68 rfl) rfl rfl hja (by omega) List.mem_cons_self ⟨_, rfl, (xb_rng _).1, (xb_rng _).2⟩ ⟨by show (0 : Int) ≤ _; omega, by show _ ≤ (15 : Int); omega, Or.inl rfl⟩ ?_
  intro h3 hH3 hX3 hW3 hs3 hg3 hF3
  have hc := xCM_rf hc hg3 hs3
  obtain ⟨hn, f1, f2, f3, f4, hw, hh, hz⟩ := id hc
  obtain ⟨g1a, g2a, g3a⟩ := hh _ hla
  refine zy_n 2 (mr := zm_m198) rfl (show _ = some (34, [(0, .ref 55), (1, .int a)], [.ref 55, .ref 55]) from rfl) ?_
  refine zk_get (mr := zm_m198) rfl rfl hH3 (hH3.2.2 55 rfl) rfl f2 ?_
  refine zy_n 2 (mr := zm_m198) rfl (show _ = some (39, [(0, .ref 55), (1, .int a)], [.int (nr + 1), .ref 55]) from rfl) ?_
  refine zk_put (mr := zm_m198) rfl rfl hH3 hX3 (hH3.2.2 55 rfl) rfl rfl rfl rfl ⟨_, List.mem_cons_self, ⟨_, rfl, (xb_rng _).1, (xb_rng _).2⟩⟩ ?_
  intro h4 hH4 hX4 hW4 hs4 hg4 hF4
  have hc := xCM_nr hc hg4 hs4
  obtain ⟨hn, f1, f2, f3, f4, hw, hh, hz⟩ := id hc
  obtain ⟨g1a, g2a, g3a⟩ := hh _ hla
  refine zy_n 2 (mr := zm_m198) rfl (show _ = some (44, [(0, .ref 55), (1, .int a)], [.int 0, .ref 55]) from rfl) ?_
  refine zk_put (mr := zm_m198) rfl rfl hH4 hX4 (hH4.2.2 55 rfl) rfl rfl rfl rfl ⟨_, List.mem_cons_self, ⟨_, rfl, by decide, by decide⟩⟩ ?_
  intro h5 hH5 hX5 hW5 hs5 hg5 hF5
  have hc := xCM_F hH4 (hF5 [(55, 82)] rfl) rfl hc
  obtain ⟨hn, f1, f2, f3, f4, hw, hh, hz⟩ := id hc
  obtain ⟨g1a, g2a, g3a⟩ := hh _ hla
  refine zy_n 1 (mr := zm_m198) rfl (show _ = some (48, [(0, .ref 55), (1, .int a)], [.int 1]) from rfl) ?_
  refine zy_r (mr := zm_m198) rfl rfl (show _ = some (some (.int 1)) from rfl) ⟨rfl, τ, hH5, hX5, by omega, (xF_trans (hF1 _ rfl) (xF_trans (hF2 _ rfl) (xF_trans (hF3 _ rfl) (xF_trans (hF4 _ rfl) (hF5 _ rfl))))), hc⟩
theorem xd_m0 {d : Nat} {a : Int32} (hH : xHI xKT xSG τ h) (hX : xX τ h) (hc : xCM h n st dn rf nr y L wk) (hu : ¬ xupb n dn a) : zm_Y og (d + 3) 198 0 [(0, .ref 55), (1, .int a)] [] h (xCO τ h 0 [(55, 0), (55, 10), (55, 82), (68, 0), (69, 0)] (fun r => r = some (.int 0)) (fun τ1 h1 => xCM h1 n st dn rf nr y L wk)) := by
  obtain ⟨hn, f1, f2, f3, f4, hw, hh, hz⟩ := id hc
  refine zy_n 2 (mr := zm_m198) rfl (show _ = some (2, [(0, .ref 55), (1, .int a)], [.int 0, .ref 55]) from rfl) ?_
  refine zk_put (mr := zm_m198) rfl rfl hH hX (hH.2.2 55 rfl) rfl rfl rfl rfl ⟨_, List.mem_cons_self, ⟨_, rfl, by decide, by decide⟩⟩ ?_
  intro h1 hH1 hX1 hW1 hs1 hg1 hF1
  have hc := xCM_F hH (hF1 [(55, 0)] rfl) rfl hc
  obtain ⟨hn, f1, f2, f3, f4, hw, hh, hz⟩ := id hc
  refine zy_n 2 (mr := zm_m198) rfl (show _ = some (7, [(0, .ref 55), (1, .int a)], [.int a, .ref 55]) from rfl) ?_
  refine zy_c (mr := zm_m198) (mc := zm_m192) rfl rfl (zk_cm (A := [.int a]) hH1 rfl rfl) rfl rfl ?_
  refine (zh_muE hH1 hc).mono (fun q h' hq => ?_)
  obtain ⟨hez, rfl⟩ := hq
  rw [hez]
  rw [if_neg hu]
  refine zy_b (mr := zm_m198) rfl rfl (show _ = some (13, []) from rfl) ?_
  refine zy_n 1 (mr := zm_m198) rfl (show _ = some (14, [(0, .ref 55), (1, .int a)], [.int 0]) from rfl) ?_
  refine zy_r (mr := zm_m198) rfl rfl (show _ = some (some (.int 0)) from rfl) ⟨rfl, τ, hH1, hX1, by omega, (hF1 _ rfl), hc⟩
end XC1
