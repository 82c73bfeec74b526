/-! ROOMS and OPENINGS (made by a program) -/
section XR5
set_option maxRecDepth 100000
variable {og : Nat → Option zm_C} {τ τ' : List Nat} {h h' : zm_H} {ms : List (Nat × Nat)} {ad rp : Nat → Nat} {n : Nat} {dn rc oc : Nat → Int32} {st rf : Nat → Int32} {nr y L : Int32} {wk : Nat → Int32} {wd sz : Nat → Int32} {nm : Nat → Nat → Int64}
theorem yo_m_bad {d m : Nat} {a b f p : Int32} (hH : xHI xKT xSG τ h) (hX : xX τ h) (hx : xHM h n dn rc oc) (hc : xRM h wd sz nm) (hb : ¬ (xupb n dn a ∧ (0 ≤ b.toInt ∧ b.toInt ≤ 3) ∧ (0 ≤ f.toInt ∧ f.toInt ≤ 5) ∧ 0 ≤ p.toInt ∧ p.toInt ≤ 3)) : zm_Y og (d + 3) 191 0 [(0, .ref 55), (1, .int a), (2, .int b), (3, .int f), (4, .int p)] [] h (xCO τ h 0 [(55, 0), (55, 82), (66, 0), (67, 0), (71, 0), (72, 0), (73, 0), (74, 0), (75, 0), (76, 0), (77, 0), (78, 0)] (fun r => r = some (.int (-2))) (fun τ1 h1 => xHM h1 n dn rc oc ∧ xRM h1 wd sz nm)) := by
  refine zy_n 2 (mr := zm_m191) rfl (show _ = some (2, [(0, .ref 55), (1, .int a), (2, .int b), (3, .int f), (4, .int p)], [.int 0, .ref 55]) from rfl) ?_
  refine zk_put (mr := zm_m191) rfl rfl hH hX (hH.2.2 55 rfl) rfl rfl rfl rfl ⟨_, List.mem_cons_self, ⟨_, rfl, by decide, by decide⟩⟩ ?_
  intro h1 hH1 hX1 hW1 hs1 hg1 hF1
  have hx := xHM_F hH (hF1 [(55, 0)] rfl) rfl hx
  have hc := xRM_F hH (hF1 [(55, 0)] rfl) rfl hc
  obtain ⟨st, rf, nr, y, L, wk, hcx⟩ := xHM_full hH1 hx
  by_cases c0 : xupb n dn a
  rotate_left
  · refine zy_n 2 (mr := zm_m191) rfl (show _ = some (7, [(0, .ref 55), (1, .int a), (2, .int b), (3, .int f), (4, .int p)], [.int a, .ref 55]) from rfl) ?_
    refine zy_c (mr := zm_m191) (mc := zm_m192) rfl rfl (zk_cm (A := [.int a]) hH1 rfl rfl) rfl rfl ?_
    refine (zh_muE hH1 hcx).mono (fun q h' hq => ?_)
    obtain ⟨hez, rfl⟩ := hq
    rw [hez]
    rw [if_neg c0]
    refine zy_b (mr := zm_m191) rfl rfl (show _ = some (45, []) from rfl) ?_
    refine zy_n 1 (mr := zm_m191) rfl (show _ = some (47, [(0, .ref 55), (1, .int a), (2, .int b), (3, .int f), (4, .int p)], [.int (-2)]) from rfl) ?_
    refine zy_r (mr := zm_m191) rfl rfl (show _ = some (some (.int (-2))) from rfl) ⟨rfl, τ, hH1, hX1, by omega, (hF1 _ rfl), ⟨hx, hc⟩⟩
  by_cases c1 : 0 ≤ b.toInt ∧ b.toInt ≤ 3
  rotate_left
  · refine zy_n 2 (mr := zm_m191) rfl (show _ = some (7, [(0, .ref 55), (1, .int a), (2, .int b), (3, .int f), (4, .int p)], [.int a, .ref 55]) from rfl) ?_
    refine zy_c (mr := zm_m191) (mc := zm_m192) rfl rfl (zk_cm (A := [.int a]) hH1 rfl rfl) rfl rfl ?_
    refine (zh_muE hH1 hcx).mono (fun q h' hq => ?_)
    obtain ⟨hez, rfl⟩ := hq
    rw [hez]
    rw [if_pos c0]
    refine zy_b (mr := zm_m191) rfl rfl (show _ = some (13, []) from rfl) ?_
    refine zy_n 4 (mr := zm_m191) rfl (show _ = some (19, [(0, .ref 55), (1, .int a), (2, .int b), (3, .int f), (4, .int p)], [.long 3, .long 0, .long b.toInt64]) from rfl) ?_
    refine zy_c (mr := zm_m191) (mc := zm_m183) rfl rfl rfl rfl rfl ?_
    refine zh_minE.mono (fun q h' hq => ?_)
    obtain ⟨hez, rfl⟩ := hq
    rw [hez]
    rw [if_neg (show ¬ ((0 : Int64).toInt ≤ b.toInt64.toInt ∧ b.toInt64.toInt ≤ (3 : Int64).toInt) from by rw [Int32.toInt_toInt64, show (0 : Int64).toInt = 0 from rfl, show (3 : Int64).toInt = 3 from rfl]; exact c1)]
    refine zy_b (mr := zm_m191) rfl rfl (show _ = some (45, []) from rfl) ?_
    refine zy_n 1 (mr := zm_m191) rfl (show _ = some (47, [(0, .ref 55), (1, .int a), (2, .int b), (3, .int f), (4, .int p)], [.int (-2)]) from rfl) ?_
    refine zy_r (mr := zm_m191) rfl rfl (show _ = some (some (.int (-2))) from rfl) ⟨rfl, τ, hH1, hX1, by omega, (hF1 _ rfl), ⟨hx, hc⟩⟩
  by_cases c2 : 0 ≤ f.toInt ∧ f.toInt ≤ 5
  rotate_left
  · refine zy_n 2 (mr := zm_m191) rfl (show _ = some (7, [(0, .ref 55), (1, .int a), (2, .int b), (3, .int f), (4, .int p)], [.int a, .ref 55]) from rfl) ?_
    refine zy_c (mr := zm_m191) (mc := zm_m192) rfl rfl (zk_cm (A := [.int a]) hH1 rfl rfl) rfl rfl ?_
    refine (zh_muE hH1 hcx).mono (fun q h' hq => ?_)
    obtain ⟨hez, rfl⟩ := hq
    rw [hez]
    rw [if_pos c0]
    refine zy_b (mr := zm_m191) rfl rfl (show _ = some (13, []) from rfl) ?_
    refine zy_n 4 (mr := zm_m191) rfl (show _ = some (19, [(0, .ref 55), (1, .int a), (2, .int b), (3, .int f), (4, .int p)], [.long 3, .long 0, .long b.toInt64]) from rfl) ?_
    refine zy_c (mr := zm_m191) (mc := zm_m183) rfl rfl rfl rfl rfl ?_
    refine zh_minE.mono (fun q h' hq => ?_)
    obtain ⟨hez, rfl⟩ := hq
    rw [hez]
    rw [if_pos (show (0 : Int64).toInt ≤ b.toInt64.toInt ∧ b.toInt64.toInt ≤ (3 : Int64).toInt from by rw [Int32.toInt_toInt64, show (0 : Int64).toInt = 0 from rfl, show (3 : Int64).toInt = 3 from rfl]; exact c1)]
    refine zy_b (mr := zm_m191) rfl rfl (show _ = some (25, []) from rfl) ?_
    refine zy_n 4 (mr := zm_m191) rfl (show _ = some (31, [(0, .ref 55), (1, .int a), (2, .int b), (3, .int f), (4, .int p)], [.long 5, .long 0, .long f.toInt64]) from rfl) ?_
    refine zy_c (mr := zm_m191) (mc := zm_m183) rfl rfl rfl rfl rfl ?_
    refine zh_minE.mono (fun q h' hq => ?_)
    obtain ⟨hez, rfl⟩ := hq
    rw [hez]
    rw [if_neg (show ¬ ((0 : Int64).toInt ≤ f.toInt64.toInt ∧ f.toInt64.toInt ≤ (5 : Int64).toInt) from by rw [Int32.toInt_toInt64, show (0 : Int64).toInt = 0 from rfl, show (5 : Int64).toInt = 5 from rfl]; exact c2)]
    refine zy_b (mr := zm_m191) rfl rfl (show _ = some (45, []) from rfl) ?_
    refine zy_n 1 (mr := zm_m191) rfl (show _ = some (47, [(0, .ref 55), (1, .int a), (2, .int b), (3, .int f), (4, .int p)], [.int (-2)]) from rfl) ?_
    refine zy_r (mr := zm_m191) rfl rfl (show _ = some (some (.int (-2))) from rfl) ⟨rfl, τ, hH1, hX1, by omega, (hF1 _ rfl), ⟨hx, hc⟩⟩
  by_cases c3 : 0 ≤ p.toInt ∧ p.toInt ≤ 3
  rotate_left
  · refine zy_n 2 (mr := zm_m191) rfl (show _ = some (7, [(0, .ref 55), (1, .int a), (2, .int b), (3, .int f), (4, .int p)], [.int a, .ref 55]) from rfl) ?_
    refine zy_c (mr := zm_m191) (mc := zm_m192) rfl rfl (zk_cm (A := [.int a]) hH1 rfl rfl) rfl rfl ?_
    refine (zh_muE hH1 hcx).mono (fun q h' hq => ?_)
    obtain ⟨hez, rfl⟩ := hq
    rw [hez]
    rw [if_pos c0]
    refine zy_b (mr := zm_m191) rfl rfl (show _ = some (13, []) from rfl) ?_
    refine zy_n 4 (mr := zm_m191) rfl (show _ = some (19, [(0, .ref 55), (1, .int a), (2, .int b), (3, .int f), (4, .int p)], [.long 3, .long 0, .long b.toInt64]) from rfl) ?_
    refine zy_c (mr := zm_m191) (mc := zm_m183) rfl rfl rfl rfl rfl ?_
    refine zh_minE.mono (fun q h' hq => ?_)
    obtain ⟨hez, rfl⟩ := hq
    rw [hez]
    rw [if_pos (show (0 : Int64).toInt ≤ b.toInt64.toInt ∧ b.toInt64.toInt ≤ (3 : Int64).toInt from by rw [Int32.toInt_toInt64, show (0 : Int64).toInt = 0 from rfl, show (3 : Int64).toInt = 3 from rfl]; exact c1)]
    refine zy_b (mr := zm_m191) rfl rfl (show _ = some (25, []) from rfl) ?_
    refine zy_n 4 (mr := zm_m191) rfl (show _ = some (31, [(0, .ref 55), (1, .int a), (2, .int b), (3, .int f), (4, .int p)], [.long 5, .long 0, .long f.toInt64]) from rfl) ?_
    refine zy_c (mr := zm_m191) (mc := zm_m183) rfl rfl rfl rfl rfl ?_
    refine zh_minE.mono (fun q h' hq => ?_)
    obtain ⟨hez, rfl⟩ := hq
    rw [hez]
    rw [if_pos (show (0 : Int64).toInt ≤ f.toInt64.toInt ∧ f.toInt64.toInt ≤ (5 : Int64).toInt from by rw [Int32.toInt_toInt64, show (0 : Int64).toInt = 0 from rfl, show (5 : Int64).toInt = 5 from rfl]; exact c2)]
    refine zy_b (mr := zm_m191) rfl rfl (show _ = some (37, []) from rfl) ?_
    refine zy_n 1 (mr := zm_m191) rfl (show _ = some (39, [(0, .ref 55), (1, .int a), (2, .int b), (3, .int f), (4, .int p)], [.int p]) from rfl) ?_
    refine zy_c (mr := zm_m191) (mc := zm_m182) rfl rfl rfl rfl rfl ?_
    refine zh_mpE.mono (fun q h' hq => ?_)
    obtain ⟨hez, rfl⟩ := hq
    rw [hez]
    rw [if_neg (show ¬ ((0 : Int64).toInt ≤ p.toInt64.toInt ∧ p.toInt64.toInt ≤ (3 : Int64).toInt) from by rw [Int32.toInt_toInt64, show (0 : Int64).toInt = 0 from rfl, show (3 : Int64).toInt = 3 from rfl]; exact c3)]
    refine zy_b (mr := zm_m191) rfl rfl (show _ = some (45, []) from rfl) ?_
    refine zy_n 1 (mr := zm_m191) rfl (show _ = some (47, [(0, .ref 55), (1, .int a), (2, .int b), (3, .int f), (4, .int p)], [.int (-2)]) from rfl) ?_
    refine zy_r (mr := zm_m191) rfl rfl (show _ = some (some (.int (-2))) from rfl) ⟨rfl, τ, hH1, hX1, by omega, (hF1 _ rfl), ⟨hx, hc⟩⟩
  exact absurd ⟨c0, c1, c2, c3⟩ hb
theorem yo_m_no {d m : Nat} {a b f p : Int32} (hH : xHI xKT xSG τ h) (hX : xX τ h) (hx : xHM h n dn rc oc) (hc : xRM h wd sz nm) (ok : xupb n dn a ∧ (0 ≤ b.toInt ∧ b.toInt ≤ 3) ∧ (0 ≤ f.toInt ∧ f.toInt ≤ 5) ∧ 0 ≤ p.toInt ∧ p.toInt ≤ 3) (hn : wd p.toInt.toNat = -1) : zm_Y og (d + 3) 191 0 [(0, .ref 55), (1, .int a), (2, .int b), (3, .int f), (4, .int p)] [] h (xCO τ h 0 [(55, 0), (55, 82), (66, 0), (67, 0), (71, 0), (72, 0), (73, 0), (74, 0), (75, 0), (76, 0), (77, 0), (78, 0)] (fun r => r = some (.int (-5))) (fun τ1 h1 => xHM h1 n dn rc oc ∧ xRM h1 wd sz nm)) := by
  refine zy_n 2 (mr := zm_m191) rfl (show _ = some (2, [(0, .ref 55), (1, .int a), (2, .int b), (3, .int f), (4, .int p)], [.int 0, .ref 55]) from rfl) ?_
  refine zk_put (mr := zm_m191) rfl rfl hH hX (hH.2.2 55 rfl) rfl rfl rfl rfl ⟨_, List.mem_cons_self, ⟨_, rfl, by decide, by decide⟩⟩ ?_
  intro h1 hH1 hX1 hW1 hs1 hg1 hF1
  have hx := xHM_F hH (hF1 [(55, 0)] rfl) rfl hx
  have hc := xRM_F hH (hF1 [(55, 0)] rfl) rfl hc
  obtain ⟨st, rf, nr, y, L, wk, hcx⟩ := xHM_full hH1 hx
  have hp := ok.2.2.2
  have hlp : p.toInt.toNat < 4 := by omega
  have hjp := xnat p (hp).1
  obtain ⟨g1p, g2p, g3p⟩ := hc _ hlp
  refine zy_n 2 (mr := zm_m191) rfl (show _ = some (7, [(0, .ref 55), (1, .int a), (2, .int b), (3, .int f), (4, .int p)], [.int a, .ref 55]) from rfl) ?_
  refine zy_c (mr := zm_m191) (mc := zm_m192) rfl rfl (zk_cm (A := [.int a]) hH1 rfl rfl) rfl rfl ?_
  refine (zh_muE hH1 hcx).mono (fun q h' hq => ?_)
  obtain ⟨hez, rfl⟩ := hq
  rw [hez]
  rw [if_pos ok.1]
  refine zy_b (mr := zm_m191) rfl rfl (show _ = some (13, []) from rfl) ?_
  refine zy_n 4 (mr := zm_m191) rfl (show _ = some (19, [(0, .ref 55), (1, .int a), (2, .int b), (3, .int f), (4, .int p)], [.long 3, .long 0, .long b.toInt64]) from rfl) ?_
  refine zy_c (mr := zm_m191) (mc := zm_m183) rfl rfl rfl rfl rfl ?_
  refine zh_minE.mono (fun q h' hq => ?_)
  obtain ⟨hez, rfl⟩ := hq
  rw [hez]
  rw [if_pos (show (0 : Int64).toInt ≤ b.toInt64.toInt ∧ b.toInt64.toInt ≤ (3 : Int64).toInt from by rw [Int32.toInt_toInt64, show (0 : Int64).toInt = 0 from rfl, show (3 : Int64).toInt = 3 from rfl]; exact ok.2.1)]
  refine zy_b (mr := zm_m191) rfl rfl (show _ = some (25, []) from rfl) ?_
  refine zy_n 4 (mr := zm_m191) rfl (show _ = some (31, [(0, .ref 55), (1, .int a), (2, .int b), (3, .int f), (4, .int p)], [.long 5, .long 0, .long f.toInt64]) from rfl) ?_
  refine zy_c (mr := zm_m191) (mc := zm_m183) rfl rfl rfl rfl rfl ?_
  refine zh_minE.mono (fun q h' hq => ?_)
  obtain ⟨hez, rfl⟩ := hq
  rw [hez]
  rw [if_pos (show (0 : Int64).toInt ≤ f.toInt64.toInt ∧ f.toInt64.toInt ≤ (5 : Int64).toInt from by rw [Int32.toInt_toInt64, show (0 : Int64).toInt = 0 from rfl, show (5 : Int64).toInt = 5 from rfl]; exact ok.2.2.1)]
  refine zy_b (mr := zm_m191) rfl rfl (show _ = some (37, []) from rfl) ?_
  refine zy_n 1 (mr := zm_m191) rfl (show _ = some (39, [(0, .ref 55), (1, .int a), (2, .int b), (3, .int f), (4, .int p)], [.int p]) from rfl) ?_
  refine zy_c (mr := zm_m191) (mc := zm_m182) rfl rfl rfl rfl rfl ?_
  refine zh_mpE.mono (fun q h' hq => ?_)
  obtain ⟨hez, rfl⟩ := hq
  rw [hez]
  rw [if_pos (show (0 : Int64).toInt ≤ p.toInt64.toInt ∧ p.toInt64.toInt ≤ (3 : Int64).toInt from by rw [Int32.toInt_toInt64, show (0 : Int64).toInt = 0 from rfl, show (3 : Int64).toInt = 3 from rfl]; exact ok.2.2.2)]
  refine zy_b (mr := zm_m191) rfl rfl (show _ = some (48, []) from rfl) ?_
  refine zy_n 1 (mr := zm_m191) rfl (show _ = some (49, [(0, .ref 55), (1, .int a), (2, .int b), (3, .int f), (4, .int p)], [.ref 55]) from rfl) ?_
  refine zk_get (mr := zm_m191) rfl rfl hH1 (hH1.2.2 55 rfl) rfl (xfo_ref (k := 55) (f := 1) (a := 56) hH1 rfl rfl rfl) ?_
  refine zy_n 1 (mr := zm_m191) rfl (show _ = some (54, [(0, .ref 55), (1, .int a), (2, .int b), (3, .int f), (4, .int p)], [.int p, .ref 56]) from rfl) ?_
  refine zk_ild (mr := zm_m191) rfl rfl hH1 (hH1.2.2 56 rfl) rfl g1p hjp ?_
  refine zy_b (mr := zm_m191) rfl rfl (show _ = some (zm_if .ge (wd p.toInt.toNat) 61 58, []) from rfl) ?_
  refine zi_ge (fun e => absurd e (by rw [hn]; decide)) (fun _ => ?_)
  refine zy_n 1 (mr := zm_m191) rfl (show _ = some (60, [(0, .ref 55), (1, .int a), (2, .int b), (3, .int f), (4, .int p)], [.int (-5)]) from rfl) ?_
  refine zy_r (mr := zm_m191) rfl rfl (show _ = some (some (.int (-5))) from rfl) ⟨rfl, τ, hH1, hX1, by omega, (hF1 _ rfl), ⟨hx, hc⟩⟩
theorem yo_m_flt {d m : Nat} {a b f p : Int32} (hH : xHI xKT xSG τ h) (hX : xX τ h) (hx : xHM h n dn rc oc) (hc : xRM h wd sz nm) (ok : xupb n dn a ∧ (0 ≤ b.toInt ∧ b.toInt ≤ 3) ∧ (0 ≤ f.toInt ∧ f.toInt ≤ 5) ∧ 0 ≤ p.toInt ∧ p.toInt ≤ 3) (hn : ¬ wd p.toInt.toNat = -1) (hw : 0 ≤ (wd p.toInt.toNat).toInt) (hm : (sz p.toInt.toNat).toInt = (m : Int)) (hm60 : m ≤ 60) (ho : ¬ xallO nm p.toInt.toNat m) : zm_Y og (d + 3) 191 0 [(0, .ref 55), (1, .int a), (2, .int b), (3, .int f), (4, .int p)] [] h (xCO τ h 0 [(55, 0), (55, 82), (66, 0), (67, 0), (71, 0), (72, 0), (73, 0), (74, 0), (75, 0), (76, 0), (77, 0), (78, 0)] (fun r => r = some (.int (-4))) (fun τ1 h1 => xHM h1 n dn rc oc ∧ xRM h1 wd sz nm)) := by
  refine zy_n 2 (mr := zm_m191) rfl (show _ = some (2, [(0, .ref 55), (1, .int a), (2, .int b), (3, .int f), (4, .int p)], [.int 0, .ref 55]) from rfl) ?_
  refine zk_put (mr := zm_m191) rfl rfl hH hX (hH.2.2 55 rfl) rfl rfl rfl rfl ⟨_, List.mem_cons_self, ⟨_, rfl, by decide, by decide⟩⟩ ?_
  intro h1 hH1 hX1 hW1 hs1 hg1 hF1
  have hx := xHM_F hH (hF1 [(55, 0)] rfl) rfl hx
  have hc := xRM_F hH (hF1 [(55, 0)] rfl) rfl hc
  obtain ⟨st, rf, nr, y, L, wk, hcx⟩ := xHM_full hH1 hx
  have hp := ok.2.2.2
  have hlp : p.toInt.toNat < 4 := by omega
  have hjp := xnat p (hp).1
  obtain ⟨g1p, g2p, g3p⟩ := hc _ hlp
  refine zy_n 2 (mr := zm_m191) rfl (show _ = some (7, [(0, .ref 55), (1, .int a), (2, .int b), (3, .int f), (4, .int p)], [.int a, .ref 55]) from rfl) ?_
  refine zy_c (mr := zm_m191) (mc := zm_m192) rfl rfl (zk_cm (A := [.int a]) hH1 rfl rfl) rfl rfl ?_
  refine (zh_muE hH1 hcx).mono (fun q h' hq => ?_)
  obtain ⟨hez, rfl⟩ := hq
  rw [hez]
  rw [if_pos ok.1]
  refine zy_b (mr := zm_m191) rfl rfl (show _ = some (13, []) from rfl) ?_
  refine zy_n 4 (mr := zm_m191) rfl (show _ = some (19, [(0, .ref 55), (1, .int a), (2, .int b), (3, .int f), (4, .int p)], [.long 3, .long 0, .long b.toInt64]) from rfl) ?_
  refine zy_c (mr := zm_m191) (mc := zm_m183) rfl rfl rfl rfl rfl ?_
  refine zh_minE.mono (fun q h' hq => ?_)
  obtain ⟨hez, rfl⟩ := hq
  rw [hez]
  rw [if_pos (show (0 : Int64).toInt ≤ b.toInt64.toInt ∧ b.toInt64.toInt ≤ (3 : Int64).toInt from by rw [Int32.toInt_toInt64, show (0 : Int64).toInt = 0 from rfl, show (3 : Int64).toInt = 3 from rfl]; exact ok.2.1)]
  refine zy_b (mr := zm_m191) rfl rfl (show _ = some (25, []) from rfl) ?_
  refine zy_n 4 (mr := zm_m191) rfl (show _ = some (31, [(0, .ref 55), (1, .int a), (2, .int b), (3, .int f), (4, .int p)], [.long 5, .long 0, .long f.toInt64]) from rfl) ?_
  refine zy_c (mr := zm_m191) (mc := zm_m183) rfl rfl rfl rfl rfl ?_
  refine zh_minE.mono (fun q h' hq => ?_)
  obtain ⟨hez, rfl⟩ := hq
  rw [hez]
  rw [if_pos (show (0 : Int64).toInt ≤ f.toInt64.toInt ∧ f.toInt64.toInt ≤ (5 : Int64).toInt from by rw [Int32.toInt_toInt64, show (0 : Int64).toInt = 0 from rfl, show (5 : Int64).toInt = 5 from rfl]; exact ok.2.2.1)]
  refine zy_b (mr := zm_m191) rfl rfl (show _ = some (37, []) from rfl) ?_
  refine zy_n 1 (mr := zm_m191) rfl (show _ = some (39, [(0, .ref 55), (1, .int a), (2, .int b), (3, .int f), (4, .int p)], [.int p]) from rfl) ?_
  refine zy_c (mr := zm_m191) (mc := zm_m182) rfl rfl rfl rfl rfl ?_
  refine zh_mpE.mono (fun q h' hq => ?_)
  obtain ⟨hez, rfl⟩ := hq
  rw [hez]
  rw [if_pos (show (0 : Int64).toInt ≤ p.toInt64.toInt ∧ p.toInt64.toInt ≤ (3 : Int64).toInt from by rw [Int32.toInt_toInt64, show (0 : Int64).toInt = 0 from rfl, show (3 : Int64).toInt = 3 from rfl]; exact ok.2.2.2)]
  refine zy_b (mr := zm_m191) rfl rfl (show _ = some (48, []) from rfl) ?_
  refine zy_n 1 (mr := zm_m191) rfl (show _ = some (49, [(0, .ref 55), (1, .int a), (2, .int b), (3, .int f), (4, .int p)], [.ref 55]) from rfl) ?_
  refine zk_get (mr := zm_m191) rfl rfl hH1 (hH1.2.2 55 rfl) rfl (xfo_ref (k := 55) (f := 1) (a := 56) hH1 rfl rfl rfl) ?_
  refine zy_n 1 (mr := zm_m191) rfl (show _ = some (54, [(0, .ref 55), (1, .int a), (2, .int b), (3, .int f), (4, .int p)], [.int p, .ref 56]) from rfl) ?_
  refine zk_ild (mr := zm_m191) rfl rfl hH1 (hH1.2.2 56 rfl) rfl g1p hjp ?_
  refine zy_b (mr := zm_m191) rfl rfl (show _ = some (zm_if .ge (wd p.toInt.toNat) 61 58, []) from rfl) ?_
  refine zi_ge (fun _ => ?_) (fun e => absurd (Int32.le_iff_toInt_le.mpr (by show (0 : Int) ≤ _; omega)) e)
  refine zy_n 2 (mr := zm_m191) rfl (show _ = some (64, [(5, .int 0), (0, .ref 55), (1, .int a), (2, .int b), (3, .int f), (4, .int p)], []) from rfl) ?_
  refine zy_sub [(0, .ref 55), (1, .int a), (2, .int b), (3, .int f), (4, .int p), (5, .int (Int32.ofNat 0))] (by simp) (fun q hq => by simp only [List.mem_cons, List.not_mem_nil, or_false] at hq; rcases hq with rfl | rfl | rfl | rfl | rfl | rfl <;> rfl) (zy_mck (d := d + 1) hH1 hc hp hm hm60 (fun ok2 => ?_) (fun no => ?_) m 0 (by omega) (fun i hi => absurd hi (Nat.not_lt_zero i)))
  rotate_left
  · exact ⟨rfl, τ, hH1, hX1, by omega, (hF1 _ rfl), ⟨hx, hc⟩⟩
  exact absurd ok2 ho
theorem yo_m_full {d m : Nat} {a b f p : Int32} (hH : xHI xKT xSG τ h) (hX : xX τ h) (hx : xHM h n dn rc oc) (hc : xRM h wd sz nm) (rr : (0 ≤ (rc a.toInt.toNat).toInt ∧ (rc a.toInt.toNat).toInt ≤ 6) ∧ 0 ≤ (oc a.toInt.toNat).toInt ∧ (oc a.toInt.toNat).toInt ≤ 10) (ok : xupb n dn a ∧ (0 ≤ b.toInt ∧ b.toInt ≤ 3) ∧ (0 ≤ f.toInt ∧ f.toInt ≤ 5) ∧ 0 ≤ p.toInt ∧ p.toInt ≤ 3) (hn : ¬ wd p.toInt.toNat = -1) (hw : 0 ≤ (wd p.toInt.toNat).toInt) (hm : (sz p.toInt.toNat).toInt = (m : Int)) (hm60 : m ≤ 60) (ho : xallO nm p.toInt.toNat m) (hk : ¬ ((rc a.toInt.toNat).toInt ≤ 5 ∧ (oc a.toInt.toNat).toInt + (m : Int) ≤ 10)) : zm_Y og (d + 3) 191 0 [(0, .ref 55), (1, .int a), (2, .int b), (3, .int f), (4, .int p)] [] h (xCO τ h 0 [(55, 0), (55, 82), (66, 0), (67, 0), (71, 0), (72, 0), (73, 0), (74, 0), (75, 0), (76, 0), (77, 0), (78, 0)] (fun r => r = some (.int (-3))) (fun τ1 h1 => xHM h1 n dn rc oc ∧ xRM h1 wd sz nm)) := by
  refine zy_n 2 (mr := zm_m191) rfl (show _ = some (2, [(0, .ref 55), (1, .int a), (2, .int b), (3, .int f), (4, .int p)], [.int 0, .ref 55]) from rfl) ?_
  refine zk_put (mr := zm_m191) rfl rfl hH hX (hH.2.2 55 rfl) rfl rfl rfl rfl ⟨_, List.mem_cons_self, ⟨_, rfl, by decide, by decide⟩⟩ ?_
  intro h1 hH1 hX1 hW1 hs1 hg1 hF1
  have hx := xHM_F hH (hF1 [(55, 0)] rfl) rfl hx
  have hc := xRM_F hH (hF1 [(55, 0)] rfl) rfl hc
  obtain ⟨st, rf, nr, y, L, wk, hcx⟩ := xHM_full hH1 hx
  have hp := ok.2.2.2
  have hlp : p.toInt.toNat < 4 := by omega
  have hjp := xnat p (hp).1
  obtain ⟨g1p, g2p, g3p⟩ := hc _ hlp
  refine zy_n 2 (mr := zm_m191) rfl (show _ = some (7, [(0, .ref 55), (1, .int a), (2, .int b), (3, .int f), (4, .int p)], [.int a, .ref 55]) from rfl) ?_
  refine zy_c (mr := zm_m191) (mc := zm_m192) rfl rfl (zk_cm (A := [.int a]) hH1 rfl rfl) rfl rfl ?_
  refine (zh_muE hH1 hcx).mono (fun q h' hq => ?_)
  obtain ⟨hez, rfl⟩ := hq
  rw [hez]
  rw [if_pos ok.1]
  refine zy_b (mr := zm_m191) rfl rfl (show _ = some (13, []) from rfl) ?_
  refine zy_n 4 (mr := zm_m191) rfl (show _ = some (19, [(0, .ref 55), (1, .int a), (2, .int b), (3, .int f), (4, .int p)], [.long 3, .long 0, .long b.toInt64]) from rfl) ?_
  refine zy_c (mr := zm_m191) (mc := zm_m183) rfl rfl rfl rfl rfl ?_
  refine zh_minE.mono (fun q h' hq => ?_)
  obtain ⟨hez, rfl⟩ := hq
  rw [hez]
  rw [if_pos (show (0 : Int64).toInt ≤ b.toInt64.toInt ∧ b.toInt64.toInt ≤ (3 : Int64).toInt from by rw [Int32.toInt_toInt64, show (0 : Int64).toInt = 0 from rfl, show (3 : Int64).toInt = 3 from rfl]; exact ok.2.1)]
  refine zy_b (mr := zm_m191) rfl rfl (show _ = some (25, []) from rfl) ?_
  refine zy_n 4 (mr := zm_m191) rfl (show _ = some (31, [(0, .ref 55), (1, .int a), (2, .int b), (3, .int f), (4, .int p)], [.long 5, .long 0, .long f.toInt64]) from rfl) ?_
  refine zy_c (mr := zm_m191) (mc := zm_m183) rfl rfl rfl rfl rfl ?_
  refine zh_minE.mono (fun q h' hq => ?_)
  obtain ⟨hez, rfl⟩ := hq
  rw [hez]
  rw [if_pos (show (0 : Int64).toInt ≤ f.toInt64.toInt ∧ f.toInt64.toInt ≤ (5 : Int64).toInt from by rw [Int32.toInt_toInt64, show (0 : Int64).toInt = 0 from rfl, show (5 : Int64).toInt = 5 from rfl]; exact ok.2.2.1)]
  refine zy_b (mr := zm_m191) rfl rfl (show _ = some (37, []) from rfl) ?_
  refine zy_n 1 (mr := zm_m191) rfl (show _ = some (39, [(0, .ref 55), (1, .int a), (2, .int b), (3, .int f), (4, .int p)], [.int p]) from rfl) ?_
  refine zy_c (mr := zm_m191) (mc := zm_m182) rfl rfl rfl rfl rfl ?_
  refine zh_mpE.mono (fun q h' hq => ?_)
  obtain ⟨hez, rfl⟩ := hq
  rw [hez]
  rw [if_pos (show (0 : Int64).toInt ≤ p.toInt64.toInt ∧ p.toInt64.toInt ≤ (3 : Int64).toInt from by rw [Int32.toInt_toInt64, show (0 : Int64).toInt = 0 from rfl, show (3 : Int64).toInt = 3 from rfl]; exact ok.2.2.2)]
  refine zy_b (mr := zm_m191) rfl rfl (show _ = some (48, []) from rfl) ?_
  refine zy_n 1 (mr := zm_m191) rfl (show _ = some (49, [(0, .ref 55), (1, .int a), (2, .int b), (3, .int f), (4, .int p)], [.ref 55]) from rfl) ?_
  refine zk_get (mr := zm_m191) rfl rfl hH1 (hH1.2.2 55 rfl) rfl (xfo_ref (k := 55) (f := 1) (a := 56) hH1 rfl rfl rfl) ?_
  refine zy_n 1 (mr := zm_m191) rfl (show _ = some (54, [(0, .ref 55), (1, .int a), (2, .int b), (3, .int f), (4, .int p)], [.int p, .ref 56]) from rfl) ?_
  refine zk_ild (mr := zm_m191) rfl rfl hH1 (hH1.2.2 56 rfl) rfl g1p hjp ?_
  refine zy_b (mr := zm_m191) rfl rfl (show _ = some (zm_if .ge (wd p.toInt.toNat) 61 58, []) from rfl) ?_
  refine zi_ge (fun _ => ?_) (fun e => absurd (Int32.le_iff_toInt_le.mpr (by show (0 : Int) ≤ _; omega)) e)
  refine zy_n 2 (mr := zm_m191) rfl (show _ = some (64, [(5, .int 0), (0, .ref 55), (1, .int a), (2, .int b), (3, .int f), (4, .int p)], []) from rfl) ?_
  refine zy_sub [(0, .ref 55), (1, .int a), (2, .int b), (3, .int f), (4, .int p), (5, .int (Int32.ofNat 0))] (by simp) (fun q hq => by simp only [List.mem_cons, List.not_mem_nil, or_false] at hq; rcases hq with rfl | rfl | rfl | rfl | rfl | rfl <;> rfl) (zy_mck (d := d + 1) hH1 hc hp hm hm60 (fun ok2 => ?_) (fun no => ?_) m 0 (by omega) (fun i hi => absurd hi (Nat.not_lt_zero i)))
  rotate_left
  · exact absurd ho no
  have ha16 : a.toInt < 16 := by have z1 := ok.1.2.1; have z2 := hx.1; omega
  have hl16 : a.toInt.toNat < 16 := by have z := ok.1.1; omega
  have hja := xnat a ok.1.1
  obtain ⟨g1p, g2p, g3p⟩ := hc _ hlp
  obtain ⟨q1, q2, q3⟩ := hx.2.2.1 _ hl16
  have es : (oc a.toInt.toNat + sz p.toInt.toNat).toInt = (oc a.toInt.toNat).toInt + (m : Int) := by rw [xad5 (by omega) (by omega), hm]
  refine zy_n 1 (mr := zm_m191) rfl (show _ = some (167, [(0, .ref 55), (1, .int a), (2, .int b), (3, .int f), (4, .int p)], [.ref 55]) from rfl) ?_
  refine zk_get (mr := zm_m191) rfl rfl hH1 (hH1.2.2 55 rfl) rfl (xfo_ref (k := 55) (f := 21) (a := 66) hH1 rfl rfl rfl) ?_
  refine zy_n 1 (mr := zm_m191) rfl (show _ = some (171, [(0, .ref 55), (1, .int a), (2, .int b), (3, .int f), (4, .int p)], [.int a, .ref 66]) from rfl) ?_
  refine zk_ild (mr := zm_m191) rfl rfl hH1 (hH1.2.2 66 rfl) rfl q2 hja ?_
  refine zy_n 1 (mr := zm_m191) rfl (show _ = some (174, [(0, .ref 55), (1, .int a), (2, .int b), (3, .int f), (4, .int p)], [.int 6, .int (rc a.toInt.toNat)]) from rfl) ?_
  refine zy_b (mr := zm_m191) rfl rfl (show _ = some (zm_ic .eq (rc a.toInt.toNat) 6 196 177, []) from rfl) ?_
  refine zc_eq (fun c1 => ?_) (fun c1 => ?_)
  · refine zy_n 1 (mr := zm_m191) rfl (show _ = some (198, [(0, .ref 55), (1, .int a), (2, .int b), (3, .int f), (4, .int p)], [.int (-3)]) from rfl) ?_
    refine zy_r (mr := zm_m191) rfl rfl (show _ = some (some (.int (-3))) from rfl) ⟨rfl, τ, hH1, hX1, by omega, (hF1 _ rfl), ⟨hx, hc⟩⟩
  · have c1 : ¬ (rc a.toInt.toNat).toInt = (6 : Int) := fun z => c1 (Int32.toInt_inj.mp z)
    refine zy_n 1 (mr := zm_m191) rfl (show _ = some (178, [(0, .ref 55), (1, .int a), (2, .int b), (3, .int f), (4, .int p)], [.ref 55]) from rfl) ?_
    refine zk_get (mr := zm_m191) rfl rfl hH1 (hH1.2.2 55 rfl) rfl (xfo_ref (k := 55) (f := 22) (a := 67) hH1 rfl rfl rfl) ?_
    refine zy_n 1 (mr := zm_m191) rfl (show _ = some (182, [(0, .ref 55), (1, .int a), (2, .int b), (3, .int f), (4, .int p)], [.int a, .ref 67]) from rfl) ?_
    refine zk_ild (mr := zm_m191) rfl rfl hH1 (hH1.2.2 67 rfl) rfl q3 hja ?_
    refine zy_n 1 (mr := zm_m191) rfl (show _ = some (184, [(0, .ref 55), (1, .int a), (2, .int b), (3, .int f), (4, .int p)], [.ref 55, .int (oc a.toInt.toNat)]) from rfl) ?_
    refine zk_get (mr := zm_m191) rfl rfl hH1 (hH1.2.2 55 rfl) rfl (xfo_ref (k := 55) (f := 2) (a := 57) hH1 rfl rfl rfl) ?_
    refine zy_n 1 (mr := zm_m191) rfl (show _ = some (189, [(0, .ref 55), (1, .int a), (2, .int b), (3, .int f), (4, .int p)], [.int p, .ref 57, .int (oc a.toInt.toNat)]) from rfl) ?_
    refine zk_ild (mr := zm_m191) rfl rfl hH1 (hH1.2.2 57 rfl) rfl g2p hjp ?_
    refine zy_n 2 (mr := zm_m191) rfl (show _ = some (193, [(0, .ref 55), (1, .int a), (2, .int b), (3, .int f), (4, .int p)], [.int 10, .int ((oc a.toInt.toNat) + (sz p.toInt.toNat))]) from rfl) ?_
    refine zy_b (mr := zm_m191) rfl rfl (show _ = some (zm_ic .le ((oc a.toInt.toNat) + (sz p.toInt.toNat)) 10 199 196, []) from rfl) ?_
    refine zc_le (fun e => absurd e (fun z => by have z2 : (oc a.toInt.toNat + sz p.toInt.toNat).toInt ≤ (10 : Int) := Int32.le_iff_toInt_le.mp z; exact hk ⟨by omega, by omega⟩)) (fun _ => ?_)
    refine zy_n 1 (mr := zm_m191) rfl (show _ = some (198, [(0, .ref 55), (1, .int a), (2, .int b), (3, .int f), (4, .int p)], [.int (-3)]) from rfl) ?_
    refine zy_r (mr := zm_m191) rfl rfl (show _ = some (some (.int (-3))) from rfl) ⟨rfl, τ, hH1, hX1, by omega, (hF1 _ rfl), ⟨hx, hc⟩⟩
theorem yo_m_ok {d m : Nat} {a b f p : Int32} (hH : xHI xKT xSG τ h) (hX : xX τ h) (hx : xHM h n dn rc oc) (hc : xRM h wd sz nm) (rr : (0 ≤ (rc a.toInt.toNat).toInt ∧ (rc a.toInt.toNat).toInt ≤ 6) ∧ 0 ≤ (oc a.toInt.toNat).toInt ∧ (oc a.toInt.toNat).toInt ≤ 10) (ok : xupb n dn a ∧ (0 ≤ b.toInt ∧ b.toInt ≤ 3) ∧ (0 ≤ f.toInt ∧ f.toInt ≤ 5) ∧ 0 ≤ p.toInt ∧ p.toInt ≤ 3) (hn : ¬ wd p.toInt.toNat = -1) (hw : 0 ≤ (wd p.toInt.toNat).toInt) (hm : (sz p.toInt.toNat).toInt = (m : Int)) (hm60 : m ≤ 60) (ho : xallO nm p.toInt.toNat m) (hk : (rc a.toInt.toNat).toInt ≤ 5 ∧ (oc a.toInt.toNat).toInt + (m : Int) ≤ 10) : zm_Y og (d + 3) 191 0 [(0, .ref 55), (1, .int a), (2, .int b), (3, .int f), (4, .int p)] [] h (xCO τ h 0 [(55, 0), (55, 82), (66, 0), (67, 0), (71, 0), (72, 0), (73, 0), (74, 0), (75, 0), (76, 0), (77, 0), (78, 0)] (fun r => r = some (.int (rc a.toInt.toNat))) (fun τ1 h1 => xHM h1 n dn (upd rc a.toInt.toNat (rc a.toInt.toNat + 1)) (upd oc a.toInt.toNat (oc a.toInt.toNat + Int32.ofNat m)) ∧ xRM h1 wd sz nm)) := by
  refine zy_n 2 (mr := zm_m191) rfl (show _ = some (2, [(0, .ref 55), (1, .int a), (2, .int b), (3, .int f), (4, .int p)], [.int 0, .ref 55]) from rfl) ?_
  refine zk_put (mr := zm_m191) rfl rfl hH hX (hH.2.2 55 rfl) rfl rfl rfl rfl ⟨_, List.mem_cons_self, ⟨_, rfl, by decide, by decide⟩⟩ ?_
  intro h1 hH1 hX1 hW1 hs1 hg1 hF1
  have hx := xHM_F hH (hF1 [(55, 0)] rfl) rfl hx
  have hc := xRM_F hH (hF1 [(55, 0)] rfl) rfl hc
  obtain ⟨st, rf, nr, y, L, wk, hcx⟩ := xHM_full hH1 hx
  have hp := ok.2.2.2
  have hlp : p.toInt.toNat < 4 := by omega
  have hjp := xnat p (hp).1
  obtain ⟨g1p, g2p, g3p⟩ := hc _ hlp
  refine zy_n 2 (mr := zm_m191) rfl (show _ = some (7, [(0, .ref 55), (1, .int a), (2, .int b), (3, .int f), (4, .int p)], [.int a, .ref 55]) from rfl) ?_
  refine zy_c (mr := zm_m191) (mc := zm_m192) rfl rfl (zk_cm (A := [.int a]) hH1 rfl rfl) rfl rfl ?_
  refine (zh_muE hH1 hcx).mono (fun q h' hq => ?_)
  obtain ⟨hez, rfl⟩ := hq
  rw [hez]
  rw [if_pos ok.1]
  refine zy_b (mr := zm_m191) rfl rfl (show _ = some (13, []) from rfl) ?_
  refine zy_n 4 (mr := zm_m191) rfl (show _ = some (19, [(0, .ref 55), (1, .int a), (2, .int b), (3, .int f), (4, .int p)], [.long 3, .long 0, .long b.toInt64]) from rfl) ?_
  refine zy_c (mr := zm_m191) (mc := zm_m183) rfl rfl rfl rfl rfl ?_
  refine zh_minE.mono (fun q h' hq => ?_)
  obtain ⟨hez, rfl⟩ := hq
  rw [hez]
  rw [if_pos (show (0 : Int64).toInt ≤ b.toInt64.toInt ∧ b.toInt64.toInt ≤ (3 : Int64).toInt from by rw [Int32.toInt_toInt64, show (0 : Int64).toInt = 0 from rfl, show (3 : Int64).toInt = 3 from rfl]; exact ok.2.1)]
  refine zy_b (mr := zm_m191) rfl rfl (show _ = some (25, []) from rfl) ?_
  refine zy_n 4 (mr := zm_m191) rfl (show _ = some (31, [(0, .ref 55), (1, .int a), (2, .int b), (3, .int f), (4, .int p)], [.long 5, .long 0, .long f.toInt64]) from rfl) ?_
  refine zy_c (mr := zm_m191) (mc := zm_m183) rfl rfl rfl rfl rfl ?_
  refine zh_minE.mono (fun q h' hq => ?_)
  obtain ⟨hez, rfl⟩ := hq
  rw [hez]
  rw [if_pos (show (0 : Int64).toInt ≤ f.toInt64.toInt ∧ f.toInt64.toInt ≤ (5 : Int64).toInt from by rw [Int32.toInt_toInt64, show (0 : Int64).toInt = 0 from rfl, show (5 : Int64).toInt = 5 from rfl]; exact ok.2.2.1)]
  refine zy_b (mr := zm_m191) rfl rfl (show _ = some (37, []) from rfl) ?_
  refine zy_n 1 (mr := zm_m191) rfl (show _ = some (39, [(0, .ref 55), (1, .int a), (2, .int b), (3, .int f), (4, .int p)], [.int p]) from rfl) ?_
  refine zy_c (mr := zm_m191) (mc := zm_m182) rfl rfl rfl rfl rfl ?_
  refine zh_mpE.mono (fun q h' hq => ?_)
  obtain ⟨hez, rfl⟩ := hq
  rw [hez]
  rw [if_pos (show (0 : Int64).toInt ≤ p.toInt64.toInt ∧ p.toInt64.toInt ≤ (3 : Int64).toInt from by rw [Int32.toInt_toInt64, show (0 : Int64).toInt = 0 from rfl, show (3 : Int64).toInt = 3 from rfl]; exact ok.2.2.2)]
  refine zy_b (mr := zm_m191) rfl rfl (show _ = some (48, []) from rfl) ?_
  refine zy_n 1 (mr := zm_m191) rfl (show _ = some (49, [(0, .ref 55), (1, .int a), (2, .int b), (3, .int f), (4, .int p)], [.ref 55]) from rfl) ?_
  refine zk_get (mr := zm_m191) rfl rfl hH1 (hH1.2.2 55 rfl) rfl (xfo_ref (k := 55) (f := 1) (a := 56) hH1 rfl rfl rfl) ?_
  refine zy_n 1 (mr := zm_m191) rfl (show _ = some (54, [(0, .ref 55), (1, .int a), (2, .int b), (3, .int f), (4, .int p)], [.int p, .ref 56]) from rfl) ?_
  refine zk_ild (mr := zm_m191) rfl rfl hH1 (hH1.2.2 56 rfl) rfl g1p hjp ?_
  refine zy_b (mr := zm_m191) rfl rfl (show _ = some (zm_if .ge (wd p.toInt.toNat) 61 58, []) from rfl) ?_
  refine zi_ge (fun _ => ?_) (fun e => absurd (Int32.le_iff_toInt_le.mpr (by show (0 : Int) ≤ _; omega)) e)
  refine zy_n 2 (mr := zm_m191) rfl (show _ = some (64, [(5, .int 0), (0, .ref 55), (1, .int a), (2, .int b), (3, .int f), (4, .int p)], []) from rfl) ?_
  refine zy_sub [(0, .ref 55), (1, .int a), (2, .int b), (3, .int f), (4, .int p), (5, .int (Int32.ofNat 0))] (by simp) (fun q hq => by simp only [List.mem_cons, List.not_mem_nil, or_false] at hq; rcases hq with rfl | rfl | rfl | rfl | rfl | rfl <;> rfl) (zy_mck (d := d + 1) hH1 hc hp hm hm60 (fun ok2 => ?_) (fun no => ?_) m 0 (by omega) (fun i hi => absurd hi (Nat.not_lt_zero i)))
  rotate_left
  · exact absurd ho no
  have ha16 : a.toInt < 16 := by have z1 := ok.1.2.1; have z2 := hx.1; omega
  have hl16 : a.toInt.toNat < 16 := by have z := ok.1.1; omega
  have hja := xnat a ok.1.1
  obtain ⟨g1p, g2p, g3p⟩ := hc _ hlp
  obtain ⟨q1, q2, q3⟩ := hx.2.2.1 _ hl16
  have es : (oc a.toInt.toNat + sz p.toInt.toNat).toInt = (oc a.toInt.toNat).toInt + (m : Int) := by rw [xad5 (by omega) (by omega), hm]
  refine zy_n 1 (mr := zm_m191) rfl (show _ = some (167, [(0, .ref 55), (1, .int a), (2, .int b), (3, .int f), (4, .int p)], [.ref 55]) from rfl) ?_
  refine zk_get (mr := zm_m191) rfl rfl hH1 (hH1.2.2 55 rfl) rfl (xfo_ref (k := 55) (f := 21) (a := 66) hH1 rfl rfl rfl) ?_
  refine zy_n 1 (mr := zm_m191) rfl (show _ = some (171, [(0, .ref 55), (1, .int a), (2, .int b), (3, .int f), (4, .int p)], [.int a, .ref 66]) from rfl) ?_
  refine zk_ild (mr := zm_m191) rfl rfl hH1 (hH1.2.2 66 rfl) rfl q2 hja ?_
  refine zy_n 1 (mr := zm_m191) rfl (show _ = some (174, [(0, .ref 55), (1, .int a), (2, .int b), (3, .int f), (4, .int p)], [.int 6, .int (rc a.toInt.toNat)]) from rfl) ?_
  refine zy_b (mr := zm_m191) rfl rfl (show _ = some (zm_ic .eq (rc a.toInt.toNat) 6 196 177, []) from rfl) ?_
  refine zc_eq (fun e => absurd e (fun z => by have z2 : (rc a.toInt.toNat).toInt = (6 : Int) := congrArg Int32.toInt z; omega)) (fun _ => ?_)
  refine zy_n 1 (mr := zm_m191) rfl (show _ = some (178, [(0, .ref 55), (1, .int a), (2, .int b), (3, .int f), (4, .int p)], [.ref 55]) from rfl) ?_
  refine zk_get (mr := zm_m191) rfl rfl hH1 (hH1.2.2 55 rfl) rfl (xfo_ref (k := 55) (f := 22) (a := 67) hH1 rfl rfl rfl) ?_
  refine zy_n 1 (mr := zm_m191) rfl (show _ = some (182, [(0, .ref 55), (1, .int a), (2, .int b), (3, .int f), (4, .int p)], [.int a, .ref 67]) from rfl) ?_
  refine zk_ild (mr := zm_m191) rfl rfl hH1 (hH1.2.2 67 rfl) rfl q3 hja ?_
  refine zy_n 1 (mr := zm_m191) rfl (show _ = some (184, [(0, .ref 55), (1, .int a), (2, .int b), (3, .int f), (4, .int p)], [.ref 55, .int (oc a.toInt.toNat)]) from rfl) ?_
  refine zk_get (mr := zm_m191) rfl rfl hH1 (hH1.2.2 55 rfl) rfl (xfo_ref (k := 55) (f := 2) (a := 57) hH1 rfl rfl rfl) ?_
  refine zy_n 1 (mr := zm_m191) rfl (show _ = some (189, [(0, .ref 55), (1, .int a), (2, .int b), (3, .int f), (4, .int p)], [.int p, .ref 57, .int (oc a.toInt.toNat)]) from rfl) ?_
  refine zk_ild (mr := zm_m191) rfl rfl hH1 (hH1.2.2 57 rfl) rfl g2p hjp ?_
  refine zy_n 2 (mr := zm_m191) rfl (show _ = some (193, [(0, .ref 55), (1, .int a), (2, .int b), (3, .int f), (4, .int p)], [.int 10, .int ((oc a.toInt.toNat) + (sz p.toInt.toNat))]) from rfl) ?_
  refine zy_b (mr := zm_m191) rfl rfl (show _ = some (zm_ic .le ((oc a.toInt.toNat) + (sz p.toInt.toNat)) 10 199 196, []) from rfl) ?_
  refine zc_le (fun _ => ?_) (fun e => absurd (Int32.le_iff_toInt_le.mpr (by show _ ≤ (10 : Int); omega)) e)
  have hjr := xnat (rc a.toInt.toNat) rr.1.1
  have hj6 := xi5 (c := 6) (w := 6) rfl (by omega) hja hjr hl16 (by omega)
  have hs6 : 6 * a.toInt.toNat + (rc a.toInt.toNat).toInt.toNat < 96 := by omega
  have okb := ok.2.1
  refine zy_n 1 (mr := zm_m191) rfl (show _ = some (200, [(0, .ref 55), (1, .int a), (2, .int b), (3, .int f), (4, .int p)], [.ref 55]) from rfl) ?_
  refine zk_get (mr := zm_m191) rfl rfl hH1 (hH1.2.2 55 rfl) rfl (xfo_ref (k := 55) (f := 26) (a := 71) hH1 rfl rfl rfl) ?_
  refine zy_n 4 (mr := zm_m191) rfl (show _ = some (208, [(0, .ref 55), (1, .int a), (2, .int b), (3, .int f), (4, .int p)], [.ref 55, .int (6 * a), .ref 71]) from rfl) ?_
  refine zk_get (mr := zm_m191) rfl rfl hH1 (hH1.2.2 55 rfl) rfl (xfo_ref (k := 55) (f := 21) (a := 66) hH1 rfl rfl rfl) ?_
  refine zy_n 1 (mr := zm_m191) rfl (show _ = some (212, [(0, .ref 55), (1, .int a), (2, .int b), (3, .int f), (4, .int p)], [.int a, .ref 66, .int (6 * a), .ref 71]) from rfl) ?_
  refine zk_ild (mr := zm_m191) rfl rfl hH1 (hH1.2.2 66 rfl) rfl q2 hja ?_
  refine zy_n 2 (mr := zm_m191) rfl (show _ = some (215, [(0, .ref 55), (1, .int a), (2, .int b), (3, .int f), (4, .int p)], [.int b, .int ((6 * a) + (rc a.toInt.toNat)), .ref 71]) from rfl) ?_
  refine zk_ist (mr := zm_m191) rfl rfl hH1 hX1 (hH1.2.2 71 rfl) rfl rfl hj6 (by omega) List.mem_cons_self ⟨_, rfl, by show (0 : Int) ≤ _; omega, by show _ ≤ (3 : Int); omega⟩ ⟨by show (0 : Int) ≤ _; omega, by show _ ≤ (95 : Int); omega, Or.inl rfl⟩ ?_
  intro h2 hH2 hX2 hW2 hs2 hg2 hF2
  have hx := xHM_F hH1 (hF2 [(71, 0)] rfl) rfl hx
  have hc := xRM_F hH1 (hF2 [(71, 0)] rfl) rfl hc
  obtain ⟨g1p, g2p, g3p⟩ := hc _ hlp
  obtain ⟨q1, q2, q3⟩ := hx.2.2.1 _ hl16
  refine zy_n 1 (mr := zm_m191) rfl (show _ = some (217, [(0, .ref 55), (1, .int a), (2, .int b), (3, .int f), (4, .int p)], [.ref 55]) from rfl) ?_
  refine zk_get (mr := zm_m191) rfl rfl hH2 (hH2.2.2 55 rfl) rfl (xfo_ref (k := 55) (f := 27) (a := 72) hH2 rfl rfl rfl) ?_
  refine zy_n 4 (mr := zm_m191) rfl (show _ = some (225, [(0, .ref 55), (1, .int a), (2, .int b), (3, .int f), (4, .int p)], [.ref 55, .int (6 * a), .ref 72]) from rfl) ?_
  refine zk_get (mr := zm_m191) rfl rfl hH2 (hH2.2.2 55 rfl) rfl (xfo_ref (k := 55) (f := 21) (a := 66) hH2 rfl rfl rfl) ?_
  refine zy_n 1 (mr := zm_m191) rfl (show _ = some (229, [(0, .ref 55), (1, .int a), (2, .int b), (3, .int f), (4, .int p)], [.int a, .ref 66, .int (6 * a), .ref 72]) from rfl) ?_
  refine zk_ild (mr := zm_m191) rfl rfl hH2 (hH2.2.2 66 rfl) rfl q2 hja ?_
  refine zy_n 2 (mr := zm_m191) rfl (show _ = some (232, [(0, .ref 55), (1, .int a), (2, .int b), (3, .int f), (4, .int p)], [.int f, .int ((6 * a) + (rc a.toInt.toNat)), .ref 72]) from rfl) ?_
  refine zk_ist (mr := zm_m191) rfl rfl hH2 hX2 (hH2.2.2 72 rfl) rfl rfl hj6 (by omega) List.mem_cons_self ⟨_, rfl, (xb_rng _).1, (xb_rng _).2⟩ ⟨by show (0 : Int) ≤ _; omega, by show _ ≤ (95 : Int); omega, Or.inl rfl⟩ ?_
  intro h3 hH3 hX3 hW3 hs3 hg3 hF3
  have hx := xHM_F hH2 (hF3 [(72, 0)] rfl) rfl hx
  have hc := xRM_F hH2 (hF3 [(72, 0)] rfl) rfl hc
  obtain ⟨g1p, g2p, g3p⟩ := hc _ hlp
  obtain ⟨q1, q2, q3⟩ := hx.2.2.1 _ hl16
  refine zy_n 2 (mr := zm_m191) rfl (show _ = some (236, [(5, .int 0), (0, .ref 55), (1, .int a), (2, .int b), (3, .int f), (4, .int p)], []) from rfl) ?_
  refine zy_sub [(0, .ref 55), (1, .int a), (2, .int b), (3, .int f), (4, .int p), (5, .int (Int32.ofNat 0))] (by simp) (fun q hq => by simp only [List.mem_cons, List.not_mem_nil, or_false] at hq; rcases hq with rfl | rfl | rfl | rfl | rfl | rfl <;> rfl) (zy_ma5 (h := h3) (τ := τ) (d := d + 1) ⟨ok.1.1, ha16⟩ ok.2 hm rr.1.1 hk.1 rr.2.1 hk.2 (fun h8 hH8 hX8 hx hc hW8 hF8 => ?_) m 0 h3 (by omega) hH3 hX3 (by rw [show upd oc a.toInt.toNat (oc a.toInt.toNat + Int32.ofNat 0) = oc from xup0]; exact hx) hc (Nat.le_refl _) (xF_refl _ _ _))
  have e1 : (1 : Int32).toInt = 1 := rfl
  have er1 : (rc a.toInt.toNat + 1).toInt = (rc a.toInt.toNat).toInt + 1 := by rw [xad5 (by omega) (by omega), e1]
  obtain ⟨g1p, g2p, g3p⟩ := hc _ hlp
  obtain ⟨q1, q2, q3⟩ := hx.2.2.1 _ hl16
  have q3 : xar h8 67 a.toInt.toNat = some (.int (oc a.toInt.toNat + Int32.ofNat m)) := by rw [q3]; exact congrArg (fun z => some (Value.int z)) (if_pos rfl)
  refine zy_n 1 (mr := zm_m191) rfl (show _ = some (398, [(0, .ref 55), (1, .int a), (2, .int b), (3, .int f), (4, .int p)], [.ref 55]) from rfl) ?_
  refine zk_get (mr := zm_m191) rfl rfl hH8 (hH8.2.2 55 rfl) rfl (xfo_ref (k := 55) (f := 21) (a := 66) hH8 rfl rfl rfl) ?_
  refine zy_n 2 (mr := zm_m191) rfl (show _ = some (403, [(0, .ref 55), (1, .int a), (2, .int b), (3, .int f), (4, .int p)], [.int a, .ref 66, .int a, .ref 66]) from rfl) ?_
  refine zk_ild (mr := zm_m191) rfl rfl hH8 (hH8.2.2 66 rfl) rfl q2 hja ?_
  refine zy_n 2 (mr := zm_m191) rfl (show _ = some (406, [(0, .ref 55), (1, .int a), (2, .int b), (3, .int f), (4, .int p)], [.int ((rc a.toInt.toNat) + 1), .int a, .ref 66]) from rfl) ?_
  refine zk_ist (mr := zm_m191) rfl rfl hH8 hX8 (hH8.2.2 66 rfl) rfl rfl hja (by omega) List.mem_cons_self ⟨_, rfl, by show (0 : Int) ≤ _; omega, by show _ ≤ (6 : Int); omega⟩ ⟨by show (0 : Int) ≤ _; omega, by show _ ≤ (15 : Int); omega, Or.inl rfl⟩ ?_
  intro h9 hH9 hX9 hW9 hs9 hg9 hF9
  have hx := xHM_rc hx hg9 hs9
  have hc := xRM_F hH8 (hF9 [(66, 0)] rfl) rfl hc
  obtain ⟨g1p, g2p, g3p⟩ := hc _ hlp
  obtain ⟨q1, q2, q3⟩ := hx.2.2.1 _ hl16
  have q2 : xar h9 66 a.toInt.toNat = some (.int ((rc a.toInt.toNat) + 1)) := by rw [q2]; exact congrArg (fun z => some (Value.int z)) (if_pos rfl)
  have q3 : xar h9 67 a.toInt.toNat = some (.int (oc a.toInt.toNat + Int32.ofNat m)) := by rw [q3]; exact congrArg (fun z => some (Value.int z)) (if_pos rfl)
  refine zy_n 2 (mr := zm_m191) rfl (show _ = some (409, [(0, .ref 55), (1, .int a), (2, .int b), (3, .int f), (4, .int p)], [.int 0, .ref 55]) from rfl) ?_
  refine zk_put (mr := zm_m191) rfl rfl hH9 hX9 (hH9.2.2 55 rfl) rfl rfl rfl rfl ⟨_, List.mem_cons_self, ⟨_, rfl, by decide, by decide⟩⟩ ?_
  intro h10 hH10 hX10 hW10 hs10 hg10 hF10
  have hx := xHM_F hH9 (hF10 [(55, 82)] rfl) rfl hx
  have hc := xRM_F hH9 (hF10 [(55, 82)] rfl) rfl hc
  obtain ⟨g1p, g2p, g3p⟩ := hc _ hlp
  obtain ⟨q1, q2, q3⟩ := hx.2.2.1 _ hl16
  have q2 : xar h10 66 a.toInt.toNat = some (.int ((rc a.toInt.toNat) + 1)) := by rw [q2]; exact congrArg (fun z => some (Value.int z)) (if_pos rfl)
  have q3 : xar h10 67 a.toInt.toNat = some (.int (oc a.toInt.toNat + Int32.ofNat m)) := by rw [q3]; exact congrArg (fun z => some (Value.int z)) (if_pos rfl)
  refine zy_n 1 (mr := zm_m191) rfl (show _ = some (413, [(0, .ref 55), (1, .int a), (2, .int b), (3, .int f), (4, .int p)], [.ref 55]) from rfl) ?_
  refine zk_get (mr := zm_m191) rfl rfl hH10 (hH10.2.2 55 rfl) rfl (xfo_ref (k := 55) (f := 21) (a := 66) hH10 rfl rfl rfl) ?_
  refine zy_n 1 (mr := zm_m191) rfl (show _ = some (417, [(0, .ref 55), (1, .int a), (2, .int b), (3, .int f), (4, .int p)], [.int a, .ref 66]) from rfl) ?_
  refine zk_ild (mr := zm_m191) rfl rfl hH10 (hH10.2.2 66 rfl) rfl q2 hja ?_
  refine zy_n 2 (mr := zm_m191) rfl (show _ = some (420, [(0, .ref 55), (1, .int a), (2, .int b), (3, .int f), (4, .int p)], [.int (((rc a.toInt.toNat) + 1) - 1)]) from rfl) ?_
  have ee : rc a.toInt.toNat + 1 - 1 = rc a.toInt.toNat := Int32.add_sub_cancel _ _
  rw [ee]
  refine zy_r (mr := zm_m191) rfl rfl (show _ = some (some (.int (rc a.toInt.toNat))) from rfl) ⟨rfl, τ, hH10, hX10, by omega, xF_trans ((xF_trans (hF1 _ rfl) (xF_trans (hF2 _ rfl) (hF3 _ rfl)))) (xF_trans (xF_weak hF8 (xmsS rfl)) ((xF_trans (hF9 _ rfl) (hF10 _ rfl)))), ⟨hx, hc⟩⟩
end XR5
