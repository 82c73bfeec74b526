/-! PLACES and PAIRS: piece 14 (made by a program) -/
section XR2
set_option maxRecDepth 100000
variable {og : Nat → Option zm_C} {τ τ' : List Nat} {h h' : zm_H} {ms : List (Nat × Nat)} {rp : Nat → Nat} {wd sz : Nat → Int32} {nm : Nat → Nat → Int64}
theorem ym_m_bad {d n m : Nat} {a b g : Int32} (hH : xHI xKT xSG τ h) (hX : xX τ h) (hc : xRM h wd sz nm) (hb : ¬ ((0 ≤ a.toInt ∧ a.toInt ≤ 3) ∧ (0 ≤ b.toInt ∧ b.toInt ≤ 3) ∧ 0 ≤ g.toInt ∧ g.toInt ≤ 1000)) : zm_Y og (d + 3) 276 0 [(0, .ref 55), (1, .int a), (2, .int b), (3, .int g)] [] h (xCO τ h 0 [(55, 0)] (fun r => r = some (.int (-2))) (fun τ1 h1 => xRM h1 wd sz nm)) := by
  by_cases c0 : 0 ≤ a.toInt ∧ a.toInt ≤ 3
  rotate_left
  · refine zy_n 2 (mr := zm_m276) rfl (show _ = some (2, [(0, .ref 55), (1, .int a), (2, .int b), (3, .int g)], [.int 0, .ref 55]) from rfl) ?_
    refine zk_put (mr := zm_m276) rfl rfl hH hX (hH.2.2 55 rfl) rfl rfl rfl rfl ⟨_, List.mem_cons_self, ⟨_, rfl, by decide, by decide⟩⟩ ?_
    intro h1 hH1 hX1 hW1 hs1 hg1 hF1
    have hc := xRM_F hH (hF1 [(55, 0)] rfl) rfl hc
    refine zy_n 1 (mr := zm_m276) rfl (show _ = some (6, [(0, .ref 55), (1, .int a), (2, .int b), (3, .int g)], [.int a]) from rfl) ?_
    refine zy_c (mr := zm_m276) (mc := zm_m182) rfl rfl rfl rfl rfl ?_
    refine zh_mpE.mono (fun q h' hq => ?_)
    obtain ⟨hez, rfl⟩ := hq
    rw [hez]
    rw [if_neg (show ¬ ((0 : Int64).toInt ≤ a.toInt64.toInt ∧ a.toInt64.toInt ≤ (3 : Int64).toInt) from by rw [Int32.toInt_toInt64, show (0 : Int64).toInt = 0 from rfl, show (3 : Int64).toInt = 3 from rfl]; exact c0)]
    refine zy_b (mr := zm_m276) rfl rfl (show _ = some (31, []) from rfl) ?_
    refine zy_n 1 (mr := zm_m276) rfl (show _ = some (33, [(0, .ref 55), (1, .int a), (2, .int b), (3, .int g)], [.int (-2)]) from rfl) ?_
    refine zy_r (mr := zm_m276) rfl rfl (show _ = some (some (.int (-2))) from rfl) ⟨rfl, τ, hH1, hX1, by omega, (hF1 _ rfl), hc⟩
  by_cases c1 : 0 ≤ b.toInt ∧ b.toInt ≤ 3
  rotate_left
  · refine zy_n 2 (mr := zm_m276) rfl (show _ = some (2, [(0, .ref 55), (1, .int a), (2, .int b), (3, .int g)], [.int 0, .ref 55]) from rfl) ?_
    refine zk_put (mr := zm_m276) rfl rfl hH hX (hH.2.2 55 rfl) rfl rfl rfl rfl ⟨_, List.mem_cons_self, ⟨_, rfl, by decide, by decide⟩⟩ ?_
    intro h1 hH1 hX1 hW1 hs1 hg1 hF1
    have hc := xRM_F hH (hF1 [(55, 0)] rfl) rfl hc
    refine zy_n 1 (mr := zm_m276) rfl (show _ = some (6, [(0, .ref 55), (1, .int a), (2, .int b), (3, .int g)], [.int a]) from rfl) ?_
    refine zy_c (mr := zm_m276) (mc := zm_m182) rfl rfl rfl rfl rfl ?_
    refine zh_mpE.mono (fun q h' hq => ?_)
    obtain ⟨hez, rfl⟩ := hq
    rw [hez]
    rw [if_pos (show (0 : Int64).toInt ≤ a.toInt64.toInt ∧ a.toInt64.toInt ≤ (3 : Int64).toInt from by rw [Int32.toInt_toInt64, show (0 : Int64).toInt = 0 from rfl, show (3 : Int64).toInt = 3 from rfl]; exact c0)]
    refine zy_b (mr := zm_m276) rfl rfl (show _ = some (12, []) from rfl) ?_
    refine zy_n 1 (mr := zm_m276) rfl (show _ = some (13, [(0, .ref 55), (1, .int a), (2, .int b), (3, .int g)], [.int b]) from rfl) ?_
    refine zy_c (mr := zm_m276) (mc := zm_m182) rfl rfl rfl rfl rfl ?_
    refine zh_mpE.mono (fun q h' hq => ?_)
    obtain ⟨hez, rfl⟩ := hq
    rw [hez]
    rw [if_neg (show ¬ ((0 : Int64).toInt ≤ b.toInt64.toInt ∧ b.toInt64.toInt ≤ (3 : Int64).toInt) from by rw [Int32.toInt_toInt64, show (0 : Int64).toInt = 0 from rfl, show (3 : Int64).toInt = 3 from rfl]; exact c1)]
    refine zy_b (mr := zm_m276) rfl rfl (show _ = some (31, []) from rfl) ?_
    refine zy_n 1 (mr := zm_m276) rfl (show _ = some (33, [(0, .ref 55), (1, .int a), (2, .int b), (3, .int g)], [.int (-2)]) from rfl) ?_
    refine zy_r (mr := zm_m276) rfl rfl (show _ = some (some (.int (-2))) from rfl) ⟨rfl, τ, hH1, hX1, by omega, (hF1 _ rfl), hc⟩
  by_cases c2 : 0 ≤ g.toInt ∧ g.toInt ≤ 1000
  rotate_left
  · refine zy_n 2 (mr := zm_m276) rfl (show _ = some (2, [(0, .ref 55), (1, .int a), (2, .int b), (3, .int g)], [.int 0, .ref 55]) from rfl) ?_
    refine zk_put (mr := zm_m276) rfl rfl hH hX (hH.2.2 55 rfl) rfl rfl rfl rfl ⟨_, List.mem_cons_self, ⟨_, rfl, by decide, by decide⟩⟩ ?_
    intro h1 hH1 hX1 hW1 hs1 hg1 hF1
    have hc := xRM_F hH (hF1 [(55, 0)] rfl) rfl hc
    refine zy_n 1 (mr := zm_m276) rfl (show _ = some (6, [(0, .ref 55), (1, .int a), (2, .int b), (3, .int g)], [.int a]) from rfl) ?_
    refine zy_c (mr := zm_m276) (mc := zm_m182) rfl rfl rfl rfl rfl ?_
    refine zh_mpE.mono (fun q h' hq => ?_)
    obtain ⟨hez, rfl⟩ := hq
    rw [hez]
    rw [if_pos (show (0 : Int64).toInt ≤ a.toInt64.toInt ∧ a.toInt64.toInt ≤ (3 : Int64).toInt from by rw [Int32.toInt_toInt64, show (0 : Int64).toInt = 0 from rfl, show (3 : Int64).toInt = 3 from rfl]; exact c0)]
    refine zy_b (mr := zm_m276) rfl rfl (show _ = some (12, []) from rfl) ?_
    refine zy_n 1 (mr := zm_m276) rfl (show _ = some (13, [(0, .ref 55), (1, .int a), (2, .int b), (3, .int g)], [.int b]) from rfl) ?_
    refine zy_c (mr := zm_m276) (mc := zm_m182) rfl rfl rfl rfl rfl ?_
    refine zh_mpE.mono (fun q h' hq => ?_)
    obtain ⟨hez, rfl⟩ := hq
    rw [hez]
    rw [if_pos (show (0 : Int64).toInt ≤ b.toInt64.toInt ∧ b.toInt64.toInt ≤ (3 : Int64).toInt from by rw [Int32.toInt_toInt64, show (0 : Int64).toInt = 0 from rfl, show (3 : Int64).toInt = 3 from rfl]; exact c1)]
    refine zy_b (mr := zm_m276) rfl rfl (show _ = some (19, []) from rfl) ?_
    refine zy_n 4 (mr := zm_m276) rfl (show _ = some (25, [(0, .ref 55), (1, .int a), (2, .int b), (3, .int g)], [.long 1000, .long 0, .long g.toInt64]) from rfl) ?_
    refine zy_c (mr := zm_m276) (mc := zm_m183) rfl rfl rfl rfl rfl ?_
    refine zh_minE.mono (fun q h' hq => ?_)
    obtain ⟨hez, rfl⟩ := hq
    rw [hez]
    rw [if_neg (show ¬ ((0 : Int64).toInt ≤ g.toInt64.toInt ∧ g.toInt64.toInt ≤ (1000 : Int64).toInt) from by rw [Int32.toInt_toInt64, show (0 : Int64).toInt = 0 from rfl, show (1000 : Int64).toInt = 1000 from rfl]; exact c2)]
    refine zy_b (mr := zm_m276) rfl rfl (show _ = some (31, []) from rfl) ?_
    refine zy_n 1 (mr := zm_m276) rfl (show _ = some (33, [(0, .ref 55), (1, .int a), (2, .int b), (3, .int g)], [.int (-2)]) from rfl) ?_
    refine zy_r (mr := zm_m276) rfl rfl (show _ = some (some (.int (-2))) from rfl) ⟨rfl, τ, hH1, hX1, by omega, (hF1 _ rfl), hc⟩
  exact absurd ⟨c0, c1, c2⟩ hb
theorem ym_m_no1 {d n m : Nat} {a b g : Int32} (hH : xHI xKT xSG τ h) (hX : xX τ h) (hc : xRM h wd sz nm) (hp : 0 ≤ a.toInt ∧ a.toInt ≤ 3) (hq : 0 ≤ b.toInt ∧ b.toInt ≤ 3) (hg : 0 ≤ g.toInt ∧ g.toInt ≤ 1000) (hn1 : wd a.toInt.toNat = -1) : zm_Y og (d + 3) 276 0 [(0, .ref 55), (1, .int a), (2, .int b), (3, .int g)] [] h (xCO τ h 0 [(55, 0)] (fun r => r = some (.int (-5))) (fun τ1 h1 => xRM h1 wd sz nm)) := by
  have hla : a.toInt.toNat < 4 := by omega
  have hja := xnat a (hp).1
  obtain ⟨g1a, g2a, g3a⟩ := hc _ hla
  have hlb : b.toInt.toNat < 4 := by omega
  have hjb := xnat b (hq).1
  obtain ⟨g1a, g2a, g3a⟩ := hc _ hla
  obtain ⟨g1b, g2b, g3b⟩ := hc _ hlb
  refine zy_n 2 (mr := zm_m276) rfl (show _ = some (2, [(0, .ref 55), (1, .int a), (2, .int b), (3, .int g)], [.int 0, .ref 55]) from rfl) ?_
  refine zk_put (mr := zm_m276) rfl rfl hH hX (hH.2.2 55 rfl) rfl rfl rfl rfl ⟨_, List.mem_cons_self, ⟨_, rfl, by decide, by decide⟩⟩ ?_
  intro h1 hH1 hX1 hW1 hs1 hg1 hF1
  have hc := xRM_F hH (hF1 [(55, 0)] rfl) rfl hc
  obtain ⟨g1a, g2a, g3a⟩ := hc _ hla
  obtain ⟨g1b, g2b, g3b⟩ := hc _ hlb
  refine zy_n 1 (mr := zm_m276) rfl (show _ = some (6, [(0, .ref 55), (1, .int a), (2, .int b), (3, .int g)], [.int a]) from rfl) ?_
  refine zy_c (mr := zm_m276) (mc := zm_m182) rfl rfl rfl rfl rfl ?_
  refine zh_mpE.mono (fun q h' hq => ?_)
  obtain ⟨hez, rfl⟩ := hq
  rw [hez]
  rw [if_pos (show (0 : Int64).toInt ≤ a.toInt64.toInt ∧ a.toInt64.toInt ≤ (3 : Int64).toInt from by rw [Int32.toInt_toInt64, show (0 : Int64).toInt = 0 from rfl, show (3 : Int64).toInt = 3 from rfl]; exact hp)]
  refine zy_b (mr := zm_m276) rfl rfl (show _ = some (12, []) from rfl) ?_
  refine zy_n 1 (mr := zm_m276) rfl (show _ = some (13, [(0, .ref 55), (1, .int a), (2, .int b), (3, .int g)], [.int b]) from rfl) ?_
  refine zy_c (mr := zm_m276) (mc := zm_m182) rfl rfl rfl rfl rfl ?_
  refine zh_mpE.mono (fun q h' hq => ?_)
  obtain ⟨hez, rfl⟩ := hq
  rw [hez]
  rw [if_pos (show (0 : Int64).toInt ≤ b.toInt64.toInt ∧ b.toInt64.toInt ≤ (3 : Int64).toInt from by rw [Int32.toInt_toInt64, show (0 : Int64).toInt = 0 from rfl, show (3 : Int64).toInt = 3 from rfl]; exact hq)]
  refine zy_b (mr := zm_m276) rfl rfl (show _ = some (19, []) from rfl) ?_
  refine zy_n 4 (mr := zm_m276) rfl (show _ = some (25, [(0, .ref 55), (1, .int a), (2, .int b), (3, .int g)], [.long 1000, .long 0, .long g.toInt64]) from rfl) ?_
  refine zy_c (mr := zm_m276) (mc := zm_m183) rfl rfl rfl rfl rfl ?_
  refine zh_minE.mono (fun q h' hq => ?_)
  obtain ⟨hez, rfl⟩ := hq
  rw [hez]
  rw [if_pos (show (0 : Int64).toInt ≤ g.toInt64.toInt ∧ g.toInt64.toInt ≤ (1000 : Int64).toInt from by rw [Int32.toInt_toInt64, show (0 : Int64).toInt = 0 from rfl, show (1000 : Int64).toInt = 1000 from rfl]; exact hg)]
  refine zy_b (mr := zm_m276) rfl rfl (show _ = some (34, []) from rfl) ?_
  refine zy_n 1 (mr := zm_m276) rfl (show _ = some (35, [(0, .ref 55), (1, .int a), (2, .int b), (3, .int g)], [.ref 55]) from rfl) ?_
  refine zk_get (mr := zm_m276) rfl rfl hH1 (hH1.2.2 55 rfl) rfl (xfo_ref (k := 55) (f := 1) (a := 56) hH1 rfl rfl rfl) ?_
  refine zy_n 1 (mr := zm_m276) rfl (show _ = some (39, [(0, .ref 55), (1, .int a), (2, .int b), (3, .int g)], [.int a, .ref 56]) from rfl) ?_
  refine zk_ild (mr := zm_m276) rfl rfl hH1 (hH1.2.2 56 rfl) rfl g1a hja ?_
  refine zy_b (mr := zm_m276) rfl rfl (show _ = some (zm_if .lt (wd a.toInt.toNat) 52 43, []) from rfl) ?_
  refine zi_lt (fun _ => ?_) (fun e => absurd (by rw [hn1]; decide) e)
  refine zy_n 1 (mr := zm_m276) rfl (show _ = some (54, [(0, .ref 55), (1, .int a), (2, .int b), (3, .int g)], [.int (-5)]) from rfl) ?_
  refine zy_r (mr := zm_m276) rfl rfl (show _ = some (some (.int (-5))) from rfl) ⟨rfl, τ, hH1, hX1, by omega, (hF1 _ rfl), hc⟩
theorem ym_m_no2 {d n m : Nat} {a b g : Int32} (hH : xHI xKT xSG τ h) (hX : xX τ h) (hc : xRM h wd sz nm) (hp : 0 ≤ a.toInt ∧ a.toInt ≤ 3) (hq : 0 ≤ b.toInt ∧ b.toInt ≤ 3) (hg : 0 ≤ g.toInt ∧ g.toInt ≤ 1000) (hn1 : ¬ wd a.toInt.toNat = -1) (hw1 : 0 ≤ (wd a.toInt.toNat).toInt) (hn2 : wd b.toInt.toNat = -1) : zm_Y og (d + 3) 276 0 [(0, .ref 55), (1, .int a), (2, .int b), (3, .int g)] [] h (xCO τ h 0 [(55, 0)] (fun r => r = some (.int (-5))) (fun τ1 h1 => xRM h1 wd sz nm)) := by
  have hla : a.toInt.toNat < 4 := by omega
  have hja := xnat a (hp).1
  obtain ⟨g1a, g2a, g3a⟩ := hc _ hla
  have hlb : b.toInt.toNat < 4 := by omega
  have hjb := xnat b (hq).1
  obtain ⟨g1a, g2a, g3a⟩ := hc _ hla
  obtain ⟨g1b, g2b, g3b⟩ := hc _ hlb
  refine zy_n 2 (mr := zm_m276) rfl (show _ = some (2, [(0, .ref 55), (1, .int a), (2, .int b), (3, .int g)], [.int 0, .ref 55]) from rfl) ?_
  refine zk_put (mr := zm_m276) rfl rfl hH hX (hH.2.2 55 rfl) rfl rfl rfl rfl ⟨_, List.mem_cons_self, ⟨_, rfl, by decide, by decide⟩⟩ ?_
  intro h1 hH1 hX1 hW1 hs1 hg1 hF1
  have hc := xRM_F hH (hF1 [(55, 0)] rfl) rfl hc
  obtain ⟨g1a, g2a, g3a⟩ := hc _ hla
  obtain ⟨g1b, g2b, g3b⟩ := hc _ hlb
  refine zy_n 1 (mr := zm_m276) rfl (show _ = some (6, [(0, .ref 55), (1, .int a), (2, .int b), (3, .int g)], [.int a]) from rfl) ?_
  refine zy_c (mr := zm_m276) (mc := zm_m182) rfl rfl rfl rfl rfl ?_
  refine zh_mpE.mono (fun q h' hq => ?_)
  obtain ⟨hez, rfl⟩ := hq
  rw [hez]
  rw [if_pos (show (0 : Int64).toInt ≤ a.toInt64.toInt ∧ a.toInt64.toInt ≤ (3 : Int64).toInt from by rw [Int32.toInt_toInt64, show (0 : Int64).toInt = 0 from rfl, show (3 : Int64).toInt = 3 from rfl]; exact hp)]
  refine zy_b (mr := zm_m276) rfl rfl (show _ = some (12, []) from rfl) ?_
  refine zy_n 1 (mr := zm_m276) rfl (show _ = some (13, [(0, .ref 55), (1, .int a), (2, .int b), (3, .int g)], [.int b]) from rfl) ?_
  refine zy_c (mr := zm_m276) (mc := zm_m182) rfl rfl rfl rfl rfl ?_
  refine zh_mpE.mono (fun q h' hq => ?_)
  obtain ⟨hez, rfl⟩ := hq
  rw [hez]
  rw [if_pos (show (0 : Int64).toInt ≤ b.toInt64.toInt ∧ b.toInt64.toInt ≤ (3 : Int64).toInt from by rw [Int32.toInt_toInt64, show (0 : Int64).toInt = 0 from rfl, show (3 : Int64).toInt = 3 from rfl]; exact hq)]
  refine zy_b (mr := zm_m276) rfl rfl (show _ = some (19, []) from rfl) ?_
  refine zy_n 4 (mr := zm_m276) rfl (show _ = some (25, [(0, .ref 55), (1, .int a), (2, .int b), (3, .int g)], [.long 1000, .long 0, .long g.toInt64]) from rfl) ?_
  refine zy_c (mr := zm_m276) (mc := zm_m183) rfl rfl rfl rfl rfl ?_
  refine zh_minE.mono (fun q h' hq => ?_)
  obtain ⟨hez, rfl⟩ := hq
  rw [hez]
  rw [if_pos (show (0 : Int64).toInt ≤ g.toInt64.toInt ∧ g.toInt64.toInt ≤ (1000 : Int64).toInt from by rw [Int32.toInt_toInt64, show (0 : Int64).toInt = 0 from rfl, show (1000 : Int64).toInt = 1000 from rfl]; exact hg)]
  refine zy_b (mr := zm_m276) rfl rfl (show _ = some (34, []) from rfl) ?_
  refine zy_n 1 (mr := zm_m276) rfl (show _ = some (35, [(0, .ref 55), (1, .int a), (2, .int b), (3, .int g)], [.ref 55]) from rfl) ?_
  refine zk_get (mr := zm_m276) rfl rfl hH1 (hH1.2.2 55 rfl) rfl (xfo_ref (k := 55) (f := 1) (a := 56) hH1 rfl rfl rfl) ?_
  refine zy_n 1 (mr := zm_m276) rfl (show _ = some (39, [(0, .ref 55), (1, .int a), (2, .int b), (3, .int g)], [.int a, .ref 56]) from rfl) ?_
  refine zk_ild (mr := zm_m276) rfl rfl hH1 (hH1.2.2 56 rfl) rfl g1a hja ?_
  refine zy_b (mr := zm_m276) rfl rfl (show _ = some (zm_if .lt (wd a.toInt.toNat) 52 43, []) from rfl) ?_
  refine zi_lt (fun e => absurd e (fun z => by have z2 := Int32.lt_iff_toInt_lt.mp z; have e0 : (0 : Int32).toInt = 0 := rfl; omega)) (fun _ => ?_)
  refine zy_n 1 (mr := zm_m276) rfl (show _ = some (44, [(0, .ref 55), (1, .int a), (2, .int b), (3, .int g)], [.ref 55]) from rfl) ?_
  refine zk_get (mr := zm_m276) rfl rfl hH1 (hH1.2.2 55 rfl) rfl (xfo_ref (k := 55) (f := 1) (a := 56) hH1 rfl rfl rfl) ?_
  refine zy_n 1 (mr := zm_m276) rfl (show _ = some (48, [(0, .ref 55), (1, .int a), (2, .int b), (3, .int g)], [.int b, .ref 56]) from rfl) ?_
  refine zk_ild (mr := zm_m276) rfl rfl hH1 (hH1.2.2 56 rfl) rfl g1b hjb ?_
  refine zy_b (mr := zm_m276) rfl rfl (show _ = some (zm_if .ge (wd b.toInt.toNat) 55 52, []) from rfl) ?_
  refine zi_ge (fun e => absurd e (by rw [hn2]; decide)) (fun _ => ?_)
  refine zy_n 1 (mr := zm_m276) rfl (show _ = some (54, [(0, .ref 55), (1, .int a), (2, .int b), (3, .int g)], [.int (-5)]) from rfl) ?_
  refine zy_r (mr := zm_m276) rfl rfl (show _ = some (some (.int (-5))) from rfl) ⟨rfl, τ, hH1, hX1, by omega, (hF1 _ rfl), hc⟩
theorem ym_m_f1 {d n m : Nat} {a b g : Int32} (hH : xHI xKT xSG τ h) (hX : xX τ h) (hc : xRM h wd sz nm) (hp : 0 ≤ a.toInt ∧ a.toInt ≤ 3) (hq : 0 ≤ b.toInt ∧ b.toInt ≤ 3) (hg : 0 ≤ g.toInt ∧ g.toInt ≤ 1000) (hn1 : ¬ wd a.toInt.toNat = -1) (hw1 : 0 ≤ (wd a.toInt.toNat).toInt) (hn2 : ¬ wd b.toInt.toNat = -1) (hw2 : 0 ≤ (wd b.toInt.toNat).toInt) (hn : (sz a.toInt.toNat).toInt = (n : Int)) (hm : (sz b.toInt.toNat).toInt = (m : Int)) (hn60 : n ≤ 60) (hm60 : m ≤ 60) (okx : ¬ xokN nm a.toInt.toNat n) : zm_Y og (d + 3) 276 0 [(0, .ref 55), (1, .int a), (2, .int b), (3, .int g)] [] h (xCO τ h 0 [(55, 0)] (fun r => r = some (.int (-4))) (fun τ1 h1 => xRM h1 wd sz nm)) := by
  have hla : a.toInt.toNat < 4 := by omega
  have hja := xnat a (hp).1
  obtain ⟨g1a, g2a, g3a⟩ := hc _ hla
  have hlb : b.toInt.toNat < 4 := by omega
  have hjb := xnat b (hq).1
  obtain ⟨g1a, g2a, g3a⟩ := hc _ hla
  obtain ⟨g1b, g2b, g3b⟩ := hc _ hlb
  refine zy_n 2 (mr := zm_m276) rfl (show _ = some (2, [(0, .ref 55), (1, .int a), (2, .int b), (3, .int g)], [.int 0, .ref 55]) from rfl) ?_
  refine zk_put (mr := zm_m276) rfl rfl hH hX (hH.2.2 55 rfl) rfl rfl rfl rfl ⟨_, List.mem_cons_self, ⟨_, rfl, by decide, by decide⟩⟩ ?_
  intro h1 hH1 hX1 hW1 hs1 hg1 hF1
  have hc := xRM_F hH (hF1 [(55, 0)] rfl) rfl hc
  obtain ⟨g1a, g2a, g3a⟩ := hc _ hla
  obtain ⟨g1b, g2b, g3b⟩ := hc _ hlb
  refine zy_n 1 (mr := zm_m276) rfl (show _ = some (6, [(0, .ref 55), (1, .int a), (2, .int b), (3, .int g)], [.int a]) from rfl) ?_
  refine zy_c (mr := zm_m276) (mc := zm_m182) rfl rfl rfl rfl rfl ?_
  refine zh_mpE.mono (fun q h' hq => ?_)
  obtain ⟨hez, rfl⟩ := hq
  rw [hez]
  rw [if_pos (show (0 : Int64).toInt ≤ a.toInt64.toInt ∧ a.toInt64.toInt ≤ (3 : Int64).toInt from by rw [Int32.toInt_toInt64, show (0 : Int64).toInt = 0 from rfl, show (3 : Int64).toInt = 3 from rfl]; exact hp)]
  refine zy_b (mr := zm_m276) rfl rfl (show _ = some (12, []) from rfl) ?_
  refine zy_n 1 (mr := zm_m276) rfl (show _ = some (13, [(0, .ref 55), (1, .int a), (2, .int b), (3, .int g)], [.int b]) from rfl) ?_
  refine zy_c (mr := zm_m276) (mc := zm_m182) rfl rfl rfl rfl rfl ?_
  refine zh_mpE.mono (fun q h' hq => ?_)
  obtain ⟨hez, rfl⟩ := hq
  rw [hez]
  rw [if_pos (show (0 : Int64).toInt ≤ b.toInt64.toInt ∧ b.toInt64.toInt ≤ (3 : Int64).toInt from by rw [Int32.toInt_toInt64, show (0 : Int64).toInt = 0 from rfl, show (3 : Int64).toInt = 3 from rfl]; exact hq)]
  refine zy_b (mr := zm_m276) rfl rfl (show _ = some (19, []) from rfl) ?_
  refine zy_n 4 (mr := zm_m276) rfl (show _ = some (25, [(0, .ref 55), (1, .int a), (2, .int b), (3, .int g)], [.long 1000, .long 0, .long g.toInt64]) from rfl) ?_
  refine zy_c (mr := zm_m276) (mc := zm_m183) rfl rfl rfl rfl rfl ?_
  refine zh_minE.mono (fun q h' hq => ?_)
  obtain ⟨hez, rfl⟩ := hq
  rw [hez]
  rw [if_pos (show (0 : Int64).toInt ≤ g.toInt64.toInt ∧ g.toInt64.toInt ≤ (1000 : Int64).toInt from by rw [Int32.toInt_toInt64, show (0 : Int64).toInt = 0 from rfl, show (1000 : Int64).toInt = 1000 from rfl]; exact hg)]
  refine zy_b (mr := zm_m276) rfl rfl (show _ = some (34, []) from rfl) ?_
  refine zy_n 1 (mr := zm_m276) rfl (show _ = some (35, [(0, .ref 55), (1, .int a), (2, .int b), (3, .int g)], [.ref 55]) from rfl) ?_
  refine zk_get (mr := zm_m276) rfl rfl hH1 (hH1.2.2 55 rfl) rfl (xfo_ref (k := 55) (f := 1) (a := 56) hH1 rfl rfl rfl) ?_
  refine zy_n 1 (mr := zm_m276) rfl (show _ = some (39, [(0, .ref 55), (1, .int a), (2, .int b), (3, .int g)], [.int a, .ref 56]) from rfl) ?_
  refine zk_ild (mr := zm_m276) rfl rfl hH1 (hH1.2.2 56 rfl) rfl g1a hja ?_
  refine zy_b (mr := zm_m276) rfl rfl (show _ = some (zm_if .lt (wd a.toInt.toNat) 52 43, []) from rfl) ?_
  refine zi_lt (fun e => absurd e (fun z => by have z2 := Int32.lt_iff_toInt_lt.mp z; have e0 : (0 : Int32).toInt = 0 := rfl; omega)) (fun _ => ?_)
  refine zy_n 1 (mr := zm_m276) rfl (show _ = some (44, [(0, .ref 55), (1, .int a), (2, .int b), (3, .int g)], [.ref 55]) from rfl) ?_
  refine zk_get (mr := zm_m276) rfl rfl hH1 (hH1.2.2 55 rfl) rfl (xfo_ref (k := 55) (f := 1) (a := 56) hH1 rfl rfl rfl) ?_
  refine zy_n 1 (mr := zm_m276) rfl (show _ = some (48, [(0, .ref 55), (1, .int a), (2, .int b), (3, .int g)], [.int b, .ref 56]) from rfl) ?_
  refine zk_ild (mr := zm_m276) rfl rfl hH1 (hH1.2.2 56 rfl) rfl g1b hjb ?_
  refine zy_b (mr := zm_m276) rfl rfl (show _ = some (zm_if .ge (wd b.toInt.toNat) 55 52, []) from rfl) ?_
  refine zi_ge (fun _ => ?_) (fun e => absurd (Int32.le_iff_toInt_le.mpr (by show (0 : Int) ≤ _; omega)) e)
  refine zy_n 2 (mr := zm_m276) rfl (show _ = some (58, [(4, .int 0), (0, .ref 55), (1, .int a), (2, .int b), (3, .int g)], []) from rfl) ?_
  refine zy_sub [(0, .ref 55), (1, .int a), (2, .int b), (3, .int g), (4, .int (Int32.ofNat 0))] (by simp) (fun q hq => by simp only [List.mem_cons, List.not_mem_nil, or_false] at hq; rcases hq with rfl | rfl | rfl | rfl | rfl <;> rfl) (zy_mc1 (d := d + 1) hH1 hc hp hq hn hm hn60 hm60 (fun ok1 => ?_) (fun no => ?_) n 0 (by omega) (fun i hi => absurd hi (Nat.not_lt_zero i)))
  rotate_left
  · exact ⟨rfl, τ, hH1, hX1, by omega, (hF1 _ rfl), hc⟩
  exact absurd ok1 okx
theorem ym_m_f2 {d n m : Nat} {a b g : Int32} (hH : xHI xKT xSG τ h) (hX : xX τ h) (hc : xRM h wd sz nm) (hp : 0 ≤ a.toInt ∧ a.toInt ≤ 3) (hq : 0 ≤ b.toInt ∧ b.toInt ≤ 3) (hg : 0 ≤ g.toInt ∧ g.toInt ≤ 1000) (hn1 : ¬ wd a.toInt.toNat = -1) (hw1 : 0 ≤ (wd a.toInt.toNat).toInt) (hn2 : ¬ wd b.toInt.toNat = -1) (hw2 : 0 ≤ (wd b.toInt.toNat).toInt) (hn : (sz a.toInt.toNat).toInt = (n : Int)) (hm : (sz b.toInt.toNat).toInt = (m : Int)) (hn60 : n ≤ 60) (hm60 : m ≤ 60) (okx : xokN nm a.toInt.toNat n) (oky : ¬ xokN nm b.toInt.toNat m) : zm_Y og (d + 3) 276 0 [(0, .ref 55), (1, .int a), (2, .int b), (3, .int g)] [] h (xCO τ h 0 [(55, 0)] (fun r => r = some (.int (-4))) (fun τ1 h1 => xRM h1 wd sz nm)) := by
  have hla : a.toInt.toNat < 4 := by omega
  have hja := xnat a (hp).1
  obtain ⟨g1a, g2a, g3a⟩ := hc _ hla
  have hlb : b.toInt.toNat < 4 := by omega
  have hjb := xnat b (hq).1
  obtain ⟨g1a, g2a, g3a⟩ := hc _ hla
  obtain ⟨g1b, g2b, g3b⟩ := hc _ hlb
  refine zy_n 2 (mr := zm_m276) rfl (show _ = some (2, [(0, .ref 55), (1, .int a), (2, .int b), (3, .int g)], [.int 0, .ref 55]) from rfl) ?_
  refine zk_put (mr := zm_m276) rfl rfl hH hX (hH.2.2 55 rfl) rfl rfl rfl rfl ⟨_, List.mem_cons_self, ⟨_, rfl, by decide, by decide⟩⟩ ?_
  intro h1 hH1 hX1 hW1 hs1 hg1 hF1
  have hc := xRM_F hH (hF1 [(55, 0)] rfl) rfl hc
  obtain ⟨g1a, g2a, g3a⟩ := hc _ hla
  obtain ⟨g1b, g2b, g3b⟩ := hc _ hlb
  refine zy_n 1 (mr := zm_m276) rfl (show _ = some (6, [(0, .ref 55), (1, .int a), (2, .int b), (3, .int g)], [.int a]) from rfl) ?_
  refine zy_c (mr := zm_m276) (mc := zm_m182) rfl rfl rfl rfl rfl ?_
  refine zh_mpE.mono (fun q h' hq => ?_)
  obtain ⟨hez, rfl⟩ := hq
  rw [hez]
  rw [if_pos (show (0 : Int64).toInt ≤ a.toInt64.toInt ∧ a.toInt64.toInt ≤ (3 : Int64).toInt from by rw [Int32.toInt_toInt64, show (0 : Int64).toInt = 0 from rfl, show (3 : Int64).toInt = 3 from rfl]; exact hp)]
  refine zy_b (mr := zm_m276) rfl rfl (show _ = some (12, []) from rfl) ?_
  refine zy_n 1 (mr := zm_m276) rfl (show _ = some (13, [(0, .ref 55), (1, .int a), (2, .int b), (3, .int g)], [.int b]) from rfl) ?_
  refine zy_c (mr := zm_m276) (mc := zm_m182) rfl rfl rfl rfl rfl ?_
  refine zh_mpE.mono (fun q h' hq => ?_)
  obtain ⟨hez, rfl⟩ := hq
  rw [hez]
  rw [if_pos (show (0 : Int64).toInt ≤ b.toInt64.toInt ∧ b.toInt64.toInt ≤ (3 : Int64).toInt from by rw [Int32.toInt_toInt64, show (0 : Int64).toInt = 0 from rfl, show (3 : Int64).toInt = 3 from rfl]; exact hq)]
  refine zy_b (mr := zm_m276) rfl rfl (show _ = some (19, []) from rfl) ?_
  refine zy_n 4 (mr := zm_m276) rfl (show _ = some (25, [(0, .ref 55), (1, .int a), (2, .int b), (3, .int g)], [.long 1000, .long 0, .long g.toInt64]) from rfl) ?_
  refine zy_c (mr := zm_m276) (mc := zm_m183) rfl rfl rfl rfl rfl ?_
  refine zh_minE.mono (fun q h' hq => ?_)
  obtain ⟨hez, rfl⟩ := hq
  rw [hez]
  rw [if_pos (show (0 : Int64).toInt ≤ g.toInt64.toInt ∧ g.toInt64.toInt ≤ (1000 : Int64).toInt from by rw [Int32.toInt_toInt64, show (0 : Int64).toInt = 0 from rfl, show (1000 : Int64).toInt = 1000 from rfl]; exact hg)]
  refine zy_b (mr := zm_m276) rfl rfl (show _ = some (34, []) from rfl) ?_
  refine zy_n 1 (mr := zm_m276) rfl (show _ = some (35, [(0, .ref 55), (1, .int a), (2, .int b), (3, .int g)], [.ref 55]) from rfl) ?_
  refine zk_get (mr := zm_m276) rfl rfl hH1 (hH1.2.2 55 rfl) rfl (xfo_ref (k := 55) (f := 1) (a := 56) hH1 rfl rfl rfl) ?_
  refine zy_n 1 (mr := zm_m276) rfl (show _ = some (39, [(0, .ref 55), (1, .int a), (2, .int b), (3, .int g)], [.int a, .ref 56]) from rfl) ?_
  refine zk_ild (mr := zm_m276) rfl rfl hH1 (hH1.2.2 56 rfl) rfl g1a hja ?_
  refine zy_b (mr := zm_m276) rfl rfl (show _ = some (zm_if .lt (wd a.toInt.toNat) 52 43, []) from rfl) ?_
  refine zi_lt (fun e => absurd e (fun z => by have z2 := Int32.lt_iff_toInt_lt.mp z; have e0 : (0 : Int32).toInt = 0 := rfl; omega)) (fun _ => ?_)
  refine zy_n 1 (mr := zm_m276) rfl (show _ = some (44, [(0, .ref 55), (1, .int a), (2, .int b), (3, .int g)], [.ref 55]) from rfl) ?_
  refine zk_get (mr := zm_m276) rfl rfl hH1 (hH1.2.2 55 rfl) rfl (xfo_ref (k := 55) (f := 1) (a := 56) hH1 rfl rfl rfl) ?_
  refine zy_n 1 (mr := zm_m276) rfl (show _ = some (48, [(0, .ref 55), (1, .int a), (2, .int b), (3, .int g)], [.int b, .ref 56]) from rfl) ?_
  refine zk_ild (mr := zm_m276) rfl rfl hH1 (hH1.2.2 56 rfl) rfl g1b hjb ?_
  refine zy_b (mr := zm_m276) rfl rfl (show _ = some (zm_if .ge (wd b.toInt.toNat) 55 52, []) from rfl) ?_
  refine zi_ge (fun _ => ?_) (fun e => absurd (Int32.le_iff_toInt_le.mpr (by show (0 : Int) ≤ _; omega)) e)
  refine zy_n 2 (mr := zm_m276) rfl (show _ = some (58, [(4, .int 0), (0, .ref 55), (1, .int a), (2, .int b), (3, .int g)], []) from rfl) ?_
  refine zy_sub [(0, .ref 55), (1, .int a), (2, .int b), (3, .int g), (4, .int (Int32.ofNat 0))] (by simp) (fun q hq => by simp only [List.mem_cons, List.not_mem_nil, or_false] at hq; rcases hq with rfl | rfl | rfl | rfl | rfl <;> rfl) (zy_mc1 (d := d + 1) hH1 hc hp hq hn hm hn60 hm60 (fun ok1 => ?_) (fun no => ?_) n 0 (by omega) (fun i hi => absurd hi (Nat.not_lt_zero i)))
  rotate_left
  · exact absurd okx no
  refine zy_n 2 (mr := zm_m276) rfl (show _ = some (98, [(4, .int 0), (0, .ref 55), (1, .int a), (2, .int b), (3, .int g)], []) from rfl) ?_
  refine zy_sub [(0, .ref 55), (1, .int a), (2, .int b), (3, .int g), (4, .int (Int32.ofNat 0))] (by simp) (fun q hq => by simp only [List.mem_cons, List.not_mem_nil, or_false] at hq; rcases hq with rfl | rfl | rfl | rfl | rfl <;> rfl) (zy_mc2 (d := d + 1) hH1 hc hp hq hn hm hn60 hm60 (fun ok2 => ?_) (fun no => ?_) m 0 (by omega) (fun i hi => absurd hi (Nat.not_lt_zero i)))
  rotate_left
  · exact ⟨rfl, τ, hH1, hX1, by omega, (hF1 _ rfl), hc⟩
  exact absurd ok2 oky
theorem ym_m_ok {d n m : Nat} {a b g : Int32} (hH : xHI xKT xSG τ h) (hX : xX τ h) (hc : xRM h wd sz nm) (hp : 0 ≤ a.toInt ∧ a.toInt ≤ 3) (hq : 0 ≤ b.toInt ∧ b.toInt ≤ 3) (hg : 0 ≤ g.toInt ∧ g.toInt ≤ 1000) (hn1 : ¬ wd a.toInt.toNat = -1) (hw1 : 0 ≤ (wd a.toInt.toNat).toInt) (hn2 : ¬ wd b.toInt.toNat = -1) (hw2 : 0 ≤ (wd b.toInt.toNat).toInt) (hn : (sz a.toInt.toNat).toInt = (n : Int)) (hm : (sz b.toInt.toNat).toInt = (m : Int)) (hn60 : n ≤ 60) (hm60 : m ≤ 60) (okx : xokN nm a.toInt.toNat n) (oky : xokN nm b.toInt.toNat m) : zm_Y og (d + 3) 276 0 [(0, .ref 55), (1, .int a), (2, .int b), (3, .int g)] [] h (xCO τ h 0 [(55, 0), (55, 108), (115, 0), (116, 0)] (fun r => ∃ v : Int32, r = some (.int v) ∧ v.toInt = (xVV2 g.toInt (fun q => (nm a.toInt.toNat q).toInt) (fun q => (nm b.toInt.toNat q).toInt) n m) 0 0) (fun τ1 h1 => xRM h1 wd sz nm ∧ xfd h1 55 108 = some (.int (sz a.toInt.toNat)) ∧ ∀ q, q < n → xar h1 116 q = some (.int ((xtr (xVV2 g.toInt (fun q => (nm a.toInt.toNat q).toInt) (fun q => (nm b.toInt.toNat q).toInt) n m) (fun p q => (((nm a.toInt.toNat p).toInt - (nm b.toInt.toNat q).toInt).natAbs : Int)) g.toInt n m 120 0 0 (fun _ => -1)) q)))) := by
  have hla : a.toInt.toNat < 4 := by omega
  have hja := xnat a (hp).1
  obtain ⟨g1a, g2a, g3a⟩ := hc _ hla
  have hlb : b.toInt.toNat < 4 := by omega
  have hjb := xnat b (hq).1
  obtain ⟨g1a, g2a, g3a⟩ := hc _ hla
  obtain ⟨g1b, g2b, g3b⟩ := hc _ hlb
  refine zy_n 2 (mr := zm_m276) rfl (show _ = some (2, [(0, .ref 55), (1, .int a), (2, .int b), (3, .int g)], [.int 0, .ref 55]) from rfl) ?_
  refine zk_put (mr := zm_m276) rfl rfl hH hX (hH.2.2 55 rfl) rfl rfl rfl rfl ⟨_, List.mem_cons_self, ⟨_, rfl, by decide, by decide⟩⟩ ?_
  intro h1 hH1 hX1 hW1 hs1 hg1 hF1
  have hc := xRM_F hH (hF1 [(55, 0)] rfl) rfl hc
  obtain ⟨g1a, g2a, g3a⟩ := hc _ hla
  obtain ⟨g1b, g2b, g3b⟩ := hc _ hlb
  refine zy_n 1 (mr := zm_m276) rfl (show _ = some (6, [(0, .ref 55), (1, .int a), (2, .int b), (3, .int g)], [.int a]) from rfl) ?_
  refine zy_c (mr := zm_m276) (mc := zm_m182) rfl rfl rfl rfl rfl ?_
  refine zh_mpE.mono (fun q h' hq => ?_)
  obtain ⟨hez, rfl⟩ := hq
  rw [hez]
  rw [if_pos (show (0 : Int64).toInt ≤ a.toInt64.toInt ∧ a.toInt64.toInt ≤ (3 : Int64).toInt from by rw [Int32.toInt_toInt64, show (0 : Int64).toInt = 0 from rfl, show (3 : Int64).toInt = 3 from rfl]; exact hp)]
  refine zy_b (mr := zm_m276) rfl rfl (show _ = some (12, []) from rfl) ?_
  refine zy_n 1 (mr := zm_m276) rfl (show _ = some (13, [(0, .ref 55), (1, .int a), (2, .int b), (3, .int g)], [.int b]) from rfl) ?_
  refine zy_c (mr := zm_m276) (mc := zm_m182) rfl rfl rfl rfl rfl ?_
  refine zh_mpE.mono (fun q h' hq => ?_)
  obtain ⟨hez, rfl⟩ := hq
  rw [hez]
  rw [if_pos (show (0 : Int64).toInt ≤ b.toInt64.toInt ∧ b.toInt64.toInt ≤ (3 : Int64).toInt from by rw [Int32.toInt_toInt64, show (0 : Int64).toInt = 0 from rfl, show (3 : Int64).toInt = 3 from rfl]; exact hq)]
  refine zy_b (mr := zm_m276) rfl rfl (show _ = some (19, []) from rfl) ?_
  refine zy_n 4 (mr := zm_m276) rfl (show _ = some (25, [(0, .ref 55), (1, .int a), (2, .int b), (3, .int g)], [.long 1000, .long 0, .long g.toInt64]) from rfl) ?_
  refine zy_c (mr := zm_m276) (mc := zm_m183) rfl rfl rfl rfl rfl ?_
  refine zh_minE.mono (fun q h' hq => ?_)
  obtain ⟨hez, rfl⟩ := hq
  rw [hez]
  rw [if_pos (show (0 : Int64).toInt ≤ g.toInt64.toInt ∧ g.toInt64.toInt ≤ (1000 : Int64).toInt from by rw [Int32.toInt_toInt64, show (0 : Int64).toInt = 0 from rfl, show (1000 : Int64).toInt = 1000 from rfl]; exact hg)]
  refine zy_b (mr := zm_m276) rfl rfl (show _ = some (34, []) from rfl) ?_
  refine zy_n 1 (mr := zm_m276) rfl (show _ = some (35, [(0, .ref 55), (1, .int a), (2, .int b), (3, .int g)], [.ref 55]) from rfl) ?_
  refine zk_get (mr := zm_m276) rfl rfl hH1 (hH1.2.2 55 rfl) rfl (xfo_ref (k := 55) (f := 1) (a := 56) hH1 rfl rfl rfl) ?_
  refine zy_n 1 (mr := zm_m276) rfl (show _ = some (39, [(0, .ref 55), (1, .int a), (2, .int b), (3, .int g)], [.int a, .ref 56]) from rfl) ?_
  refine zk_ild (mr := zm_m276) rfl rfl hH1 (hH1.2.2 56 rfl) rfl g1a hja ?_
  refine zy_b (mr := zm_m276) rfl rfl (show _ = some (zm_if .lt (wd a.toInt.toNat) 52 43, []) from rfl) ?_
  refine zi_lt (fun e => absurd e (fun z => by have z2 := Int32.lt_iff_toInt_lt.mp z; have e0 : (0 : Int32).toInt = 0 := rfl; omega)) (fun _ => ?_)
  refine zy_n 1 (mr := zm_m276) rfl (show _ = some (44, [(0, .ref 55), (1, .int a), (2, .int b), (3, .int g)], [.ref 55]) from rfl) ?_
  refine zk_get (mr := zm_m276) rfl rfl hH1 (hH1.2.2 55 rfl) rfl (xfo_ref (k := 55) (f := 1) (a := 56) hH1 rfl rfl rfl) ?_
  refine zy_n 1 (mr := zm_m276) rfl (show _ = some (48, [(0, .ref 55), (1, .int a), (2, .int b), (3, .int g)], [.int b, .ref 56]) from rfl) ?_
  refine zk_ild (mr := zm_m276) rfl rfl hH1 (hH1.2.2 56 rfl) rfl g1b hjb ?_
  refine zy_b (mr := zm_m276) rfl rfl (show _ = some (zm_if .ge (wd b.toInt.toNat) 55 52, []) from rfl) ?_
  refine zi_ge (fun _ => ?_) (fun e => absurd (Int32.le_iff_toInt_le.mpr (by show (0 : Int) ≤ _; omega)) e)
  refine zy_n 2 (mr := zm_m276) rfl (show _ = some (58, [(4, .int 0), (0, .ref 55), (1, .int a), (2, .int b), (3, .int g)], []) from rfl) ?_
  refine zy_sub [(0, .ref 55), (1, .int a), (2, .int b), (3, .int g), (4, .int (Int32.ofNat 0))] (by simp) (fun q hq => by simp only [List.mem_cons, List.not_mem_nil, or_false] at hq; rcases hq with rfl | rfl | rfl | rfl | rfl <;> rfl) (zy_mc1 (d := d + 1) hH1 hc hp hq hn hm hn60 hm60 (fun ok1 => ?_) (fun no => ?_) n 0 (by omega) (fun i hi => absurd hi (Nat.not_lt_zero i)))
  rotate_left
  · exact absurd okx no
  refine zy_n 2 (mr := zm_m276) rfl (show _ = some (98, [(4, .int 0), (0, .ref 55), (1, .int a), (2, .int b), (3, .int g)], []) from rfl) ?_
  refine zy_sub [(0, .ref 55), (1, .int a), (2, .int b), (3, .int g), (4, .int (Int32.ofNat 0))] (by simp) (fun q hq => by simp only [List.mem_cons, List.not_mem_nil, or_false] at hq; rcases hq with rfl | rfl | rfl | rfl | rfl <;> rfl) (zy_mc2 (d := d + 1) hH1 hc hp hq hn hm hn60 hm60 (fun ok2 => ?_) (fun no => ?_) m 0 (by omega) (fun i hi => absurd hi (Nat.not_lt_zero i)))
  rotate_left
  · exact absurd oky no
  obtain ⟨g1a, g2a, g3a⟩ := hc _ hla
  obtain ⟨g1b, g2b, g3b⟩ := hc _ hlb
  refine zy_n 1 (mr := zm_m276) rfl (show _ = some (136, [(0, .ref 55), (1, .int a), (2, .int b), (3, .int g)], [.ref 55]) from rfl) ?_
  refine zk_get (mr := zm_m276) rfl rfl hH1 (hH1.2.2 55 rfl) rfl (xfo_ref (k := 55) (f := 2) (a := 57) hH1 rfl rfl rfl) ?_
  refine zy_n 1 (mr := zm_m276) rfl (show _ = some (140, [(0, .ref 55), (1, .int a), (2, .int b), (3, .int g)], [.int a, .ref 57]) from rfl) ?_
  refine zk_ild (mr := zm_m276) rfl rfl hH1 (hH1.2.2 57 rfl) rfl g2a hja ?_
  refine zy_n 1 (mr := zm_m276) rfl (show _ = some (143, [(4, .int (sz a.toInt.toNat)), (0, .ref 55), (1, .int a), (2, .int b), (3, .int g)], []) from rfl) ?_
  refine zy_sub [(0, .ref 55), (1, .int a), (2, .int b), (3, .int g), (4, .int (sz a.toInt.toNat))] (by simp) (fun q hq => by simp only [List.mem_cons, List.not_mem_nil, or_false] at hq; rcases hq with rfl | rfl | rfl | rfl | rfl <;> rfl) (zy_mo (d := d + 1) hp hq hg hn hm hn60 hm60 okx oky (n + 1) _ h1 (by rw [hn]; omega) (Nat.le_refl _) hH1 hX1 hc (fun i' j' h1 h2 h3 => by omega) (fun h7 hH7 hX7 hW7 hF7 hc ht => ?_))
  obtain ⟨g1a, g2a, g3a⟩ := hc _ hla
  obtain ⟨g1b, g2b, g3b⟩ := hc _ hlb
  refine zy_n 2 (mr := zm_m276) rfl (show _ = some (357, [(0, .ref 55), (1, .int a), (2, .int b), (3, .int g)], [.ref 55, .ref 55]) from rfl) ?_
  refine zk_get (mr := zm_m276) rfl rfl hH7 (hH7.2.2 55 rfl) rfl (xfo_ref (k := 55) (f := 2) (a := 57) hH7 rfl rfl rfl) ?_
  refine zy_n 1 (mr := zm_m276) rfl (show _ = some (361, [(0, .ref 55), (1, .int a), (2, .int b), (3, .int g)], [.int a, .ref 57, .ref 55]) from rfl) ?_
  refine zk_ild (mr := zm_m276) rfl rfl hH7 (hH7.2.2 57 rfl) rfl g2a hja ?_
  refine zk_put (mr := zm_m276) rfl rfl hH7 hX7 (hH7.2.2 55 rfl) rfl rfl rfl rfl ⟨_, List.mem_cons_self, ⟨_, rfl, by show (0 : Int) ≤ _; omega, by show _ ≤ (60 : Int); omega⟩⟩ ?_
  intro h8 hH8 hX8 hW8 hs8 hg8 hF8
  have hc := xRM_F hH7 (hF8 [(55, 108)] rfl) rfl hc
  have hpl := hs8
  have ht := xtbl_F (hF8 [(55, 108)] rfl) (hH7.2.2 115 rfl) rfl ht
  obtain ⟨g1a, g2a, g3a⟩ := hc _ hla
  obtain ⟨g1b, g2b, g3b⟩ := hc _ hlb
  refine zy_n 4 (mr := zm_m276) rfl (show _ = some (371, [(5, .int 0), (4, .int 0), (0, .ref 55), (1, .int a), (2, .int b), (3, .int g)], []) from rfl) ?_
  refine (zy_sub [(0, .ref 55), (1, .int a), (2, .int b), (3, .int g), (4, .int 0), (5, .int 0)] (by simp) (fun q hq => by simp only [List.mem_cons, List.not_mem_nil, or_false] at hq; rcases hq with rfl | rfl | rfl | rfl | rfl | rfl <;> rfl) (zy_mt (d := d + 1) hp hq hg hn hm hn60 hm60 okx oky 120 0 0 0 0 (fun _ => -1) h8 (by omega) rfl rfl (Nat.zero_le _) (Nat.zero_le _) hH8 hX8 hc hpl ht (fun q hq => absurd hq (Nat.not_lt_zero q)))).mono (fun r h9 hq2 => xCO_tr (g1 := 0) (g2 := 0) ((xF_trans (hF1 _ rfl) (xF_trans (xF_weak hF7 (xmsS rfl)) (hF8 _ rfl)))) (by omega) (Nat.le_refl _) ?_)
  obtain ⟨p, τ2, a1, a2, a3, a4, a5, a6, a7⟩ := hq2
  refine ⟨p, τ2, a1, a2, a3, xF_weak a4 (xmsS rfl), a5, a6, fun q hq2 => ?_⟩
  have a8 := a7 q hq2
  rw [show (fun q => if q < 0 then (fun _ => (-1 : Int32)) q else -1) = (fun _ => (-1 : Int32)) from funext fun q => if_neg (Nat.not_lt_zero q)] at a8
  exact a8
end XR2
