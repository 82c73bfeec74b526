/-! PLACES and PAIRS: piece 13 (made by a program) -/
section XR2
set_option maxRecDepth 100000
variable {og : Nat → Option zm_C} {τ τ' : List Nat} {h h' : zm_H} {ms : List (Nat × Nat)} {rp : Nat → Nat} {wd sz : Nat → Int32} {nm : Nat → Nat → Int64}
theorem ym_x_bad {d n m : Nat} {a b g : Int32} (hH : xHI xKT xSG τ h) (hX : xX τ h) (hc : xRXa rp τ h wd sz nm) (hb : ¬ ((0 ≤ a.toInt ∧ a.toInt ≤ 3) ∧ (0 ≤ b.toInt ∧ b.toInt ≤ 3) ∧ 0 ≤ g.toInt ∧ g.toInt ≤ 1000)) : zm_Y og (d + 3) 154 0 [(0, .ref 0), (1, .int a), (2, .int b), (3, .int g)] [] h (xCO τ h 3734 [] (fun r => r = some (.int (-2))) (fun τ1 h1 => xRX τ1 h1 wd sz nm)) := by
  by_cases c0 : 0 ≤ a.toInt ∧ a.toInt ≤ 3
  rotate_left
  · refine zy_n 1 (mr := zm_m154) rfl (show _ = some (1, [(0, .ref 0), (1, .int a), (2, .int b), (3, .int g)], [.int a]) from rfl) ?_
    refine zy_c (mr := zm_m154) (mc := zm_m19) rfl rfl rfl rfl rfl ?_
    refine zh_ipE.mono (fun q h' hq => ?_)
    obtain ⟨hez, rfl⟩ := hq
    rw [hez]
    rw [if_neg (show ¬ ((0 : Int32).toInt ≤ a.toInt ∧ a.toInt ≤ (3 : Int32).toInt) from by rw [show (0 : Int32).toInt = 0 from rfl, show (3 : Int32).toInt = 3 from rfl]; exact c0)]
    refine zy_b (mr := zm_m154) rfl rfl (show _ = some (25, []) from rfl) ?_
    refine zy_n 1 (mr := zm_m154) rfl (show _ = some (27, [(0, .ref 0), (1, .int a), (2, .int b), (3, .int g)], [.int (-2)]) from rfl) ?_
    refine zy_r (mr := zm_m154) rfl rfl (show _ = some (some (.int (-2))) from rfl) ⟨rfl, τ, hH, hX, Nat.le_add_right _ _, xF_refl _ _ _, ⟨rp, hc⟩⟩
  by_cases c1 : 0 ≤ b.toInt ∧ b.toInt ≤ 3
  rotate_left
  · refine zy_n 1 (mr := zm_m154) rfl (show _ = some (1, [(0, .ref 0), (1, .int a), (2, .int b), (3, .int g)], [.int a]) from rfl) ?_
    refine zy_c (mr := zm_m154) (mc := zm_m19) rfl rfl rfl rfl rfl ?_
    refine zh_ipE.mono (fun q h' hq => ?_)
    obtain ⟨hez, rfl⟩ := hq
    rw [hez]
    rw [if_pos (show (0 : Int32).toInt ≤ a.toInt ∧ a.toInt ≤ (3 : Int32).toInt from by rw [show (0 : Int32).toInt = 0 from rfl, show (3 : Int32).toInt = 3 from rfl]; exact c0)]
    refine zy_b (mr := zm_m154) rfl rfl (show _ = some (7, []) from rfl) ?_
    refine zy_n 1 (mr := zm_m154) rfl (show _ = some (8, [(0, .ref 0), (1, .int a), (2, .int b), (3, .int g)], [.int b]) from rfl) ?_
    refine zy_c (mr := zm_m154) (mc := zm_m19) rfl rfl rfl rfl rfl ?_
    refine zh_ipE.mono (fun q h' hq => ?_)
    obtain ⟨hez, rfl⟩ := hq
    rw [hez]
    rw [if_neg (show ¬ ((0 : Int32).toInt ≤ b.toInt ∧ b.toInt ≤ (3 : Int32).toInt) from by rw [show (0 : Int32).toInt = 0 from rfl, show (3 : Int32).toInt = 3 from rfl]; exact c1)]
    refine zy_b (mr := zm_m154) rfl rfl (show _ = some (25, []) from rfl) ?_
    refine zy_n 1 (mr := zm_m154) rfl (show _ = some (27, [(0, .ref 0), (1, .int a), (2, .int b), (3, .int g)], [.int (-2)]) from rfl) ?_
    refine zy_r (mr := zm_m154) rfl rfl (show _ = some (some (.int (-2))) from rfl) ⟨rfl, τ, hH, hX, Nat.le_add_right _ _, xF_refl _ _ _, ⟨rp, hc⟩⟩
  by_cases c2 : 0 ≤ g.toInt ∧ g.toInt ≤ 1000
  rotate_left
  · refine zy_n 1 (mr := zm_m154) rfl (show _ = some (1, [(0, .ref 0), (1, .int a), (2, .int b), (3, .int g)], [.int a]) from rfl) ?_
    refine zy_c (mr := zm_m154) (mc := zm_m19) rfl rfl rfl rfl rfl ?_
    refine zh_ipE.mono (fun q h' hq => ?_)
    obtain ⟨hez, rfl⟩ := hq
    rw [hez]
    rw [if_pos (show (0 : Int32).toInt ≤ a.toInt ∧ a.toInt ≤ (3 : Int32).toInt from by rw [show (0 : Int32).toInt = 0 from rfl, show (3 : Int32).toInt = 3 from rfl]; exact c0)]
    refine zy_b (mr := zm_m154) rfl rfl (show _ = some (7, []) from rfl) ?_
    refine zy_n 1 (mr := zm_m154) rfl (show _ = some (8, [(0, .ref 0), (1, .int a), (2, .int b), (3, .int g)], [.int b]) from rfl) ?_
    refine zy_c (mr := zm_m154) (mc := zm_m19) rfl rfl rfl rfl rfl ?_
    refine zh_ipE.mono (fun q h' hq => ?_)
    obtain ⟨hez, rfl⟩ := hq
    rw [hez]
    rw [if_pos (show (0 : Int32).toInt ≤ b.toInt ∧ b.toInt ≤ (3 : Int32).toInt from by rw [show (0 : Int32).toInt = 0 from rfl, show (3 : Int32).toInt = 3 from rfl]; exact c1)]
    refine zy_b (mr := zm_m154) rfl rfl (show _ = some (14, []) from rfl) ?_
    refine zy_n 3 (mr := zm_m154) rfl (show _ = some (19, [(0, .ref 0), (1, .int a), (2, .int b), (3, .int g)], [.int 1000, .int 0, .int g]) from rfl) ?_
    refine zy_c (mr := zm_m154) (mc := zm_m10) rfl rfl rfl rfl rfl ?_
    refine zh_withinE.mono (fun q h' hq => ?_)
    obtain ⟨hez, rfl⟩ := hq
    rw [hez]
    rw [if_neg (show ¬ ((0 : Int32).toInt ≤ g.toInt ∧ g.toInt ≤ (1000 : Int32).toInt) from by rw [show (0 : Int32).toInt = 0 from rfl, show (1000 : Int32).toInt = 1000 from rfl]; exact c2)]
    refine zy_b (mr := zm_m154) rfl rfl (show _ = some (25, []) from rfl) ?_
    refine zy_n 1 (mr := zm_m154) rfl (show _ = some (27, [(0, .ref 0), (1, .int a), (2, .int b), (3, .int g)], [.int (-2)]) from rfl) ?_
    refine zy_r (mr := zm_m154) rfl rfl (show _ = some (some (.int (-2))) from rfl) ⟨rfl, τ, hH, hX, Nat.le_add_right _ _, xF_refl _ _ _, ⟨rp, hc⟩⟩
  exact absurd ⟨c0, c1, c2⟩ hb
theorem ym_x_no1 {d n m : Nat} {a b g : Int32} (hH : xHI xKT xSG τ h) (hX : xX τ h) (hc : xRXa rp τ h wd sz nm) (hp : 0 ≤ a.toInt ∧ a.toInt ≤ 3) (hq : 0 ≤ b.toInt ∧ b.toInt ≤ 3) (hg : 0 ≤ g.toInt ∧ g.toInt ≤ 1000) (hn1 : wd a.toInt.toNat = -1) : zm_Y og (d + 3) 154 0 [(0, .ref 0), (1, .int a), (2, .int b), (3, .int g)] [] h (xCO τ h 3734 [] (fun r => r = some (.int (-5))) (fun τ1 h1 => xRX τ1 h1 wd sz nm)) := by
  have hla : a.toInt.toNat < 4 := by omega
  have hja := xnat a (hp).1
  obtain ⟨g1a, g2a, g3a, g4a, g5a⟩ := hc.1 _ hla
  have hlb : b.toInt.toNat < 4 := by omega
  have hjb := xnat b (hq).1
  obtain ⟨g1a, g2a, g3a, g4a, g5a⟩ := hc.1 _ hla
  obtain ⟨g1b, g2b, g3b, g4b, g5b⟩ := hc.1 _ hlb
  refine zy_n 1 (mr := zm_m154) rfl (show _ = some (1, [(0, .ref 0), (1, .int a), (2, .int b), (3, .int g)], [.int a]) from rfl) ?_
  refine zy_c (mr := zm_m154) (mc := zm_m19) rfl rfl rfl rfl rfl ?_
  refine zh_ipE.mono (fun q h' hq => ?_)
  obtain ⟨hez, rfl⟩ := hq
  rw [hez]
  rw [if_pos (show (0 : Int32).toInt ≤ a.toInt ∧ a.toInt ≤ (3 : Int32).toInt from by rw [show (0 : Int32).toInt = 0 from rfl, show (3 : Int32).toInt = 3 from rfl]; exact hp)]
  refine zy_b (mr := zm_m154) rfl rfl (show _ = some (7, []) from rfl) ?_
  refine zy_n 1 (mr := zm_m154) rfl (show _ = some (8, [(0, .ref 0), (1, .int a), (2, .int b), (3, .int g)], [.int b]) from rfl) ?_
  refine zy_c (mr := zm_m154) (mc := zm_m19) rfl rfl rfl rfl rfl ?_
  refine zh_ipE.mono (fun q h' hq => ?_)
  obtain ⟨hez, rfl⟩ := hq
  rw [hez]
  rw [if_pos (show (0 : Int32).toInt ≤ b.toInt ∧ b.toInt ≤ (3 : Int32).toInt from by rw [show (0 : Int32).toInt = 0 from rfl, show (3 : Int32).toInt = 3 from rfl]; exact hq)]
  refine zy_b (mr := zm_m154) rfl rfl (show _ = some (14, []) from rfl) ?_
  refine zy_n 3 (mr := zm_m154) rfl (show _ = some (19, [(0, .ref 0), (1, .int a), (2, .int b), (3, .int g)], [.int 1000, .int 0, .int g]) from rfl) ?_
  refine zy_c (mr := zm_m154) (mc := zm_m10) rfl rfl rfl rfl rfl ?_
  refine zh_withinE.mono (fun q h' hq => ?_)
  obtain ⟨hez, rfl⟩ := hq
  rw [hez]
  rw [if_pos (show (0 : Int32).toInt ≤ g.toInt ∧ g.toInt ≤ (1000 : Int32).toInt from by rw [show (0 : Int32).toInt = 0 from rfl, show (1000 : Int32).toInt = 1000 from rfl]; exact hg)]
  refine zy_b (mr := zm_m154) rfl rfl (show _ = some (28, []) from rfl) ?_
  refine zy_n 1 (mr := zm_m154) rfl (show _ = some (29, [(0, .ref 0), (1, .int a), (2, .int b), (3, .int g)], [.ref 0]) from rfl) ?_
  refine zk_get (mr := zm_m154) rfl rfl hH (hH.2.2 0 rfl) rfl (xfo_ref (k := 0) (f := 12) (a := 45) hH rfl rfl rfl) ?_
  refine zy_n 1 (mr := zm_m154) rfl (show _ = some (33, [(0, .ref 0), (1, .int a), (2, .int b), (3, .int g)], [.int a, .ref 45]) from rfl) ?_
  refine zy_c (mr := zm_m154) (mc := zm_m20) rfl rfl (zk_co (A := [.int a]) hH rfl rfl rfl rfl) rfl rfl ?_
  refine (zh_hasE hH hc hp).mono (fun q h' hq => ?_)
  obtain ⟨hez, rfl⟩ := hq
  rw [hez]
  rw [if_neg (fun z => z hn1)]
  refine zy_b (mr := zm_m154) rfl rfl (show _ = some (50, []) from rfl) ?_
  refine zy_n 1 (mr := zm_m154) rfl (show _ = some (52, [(0, .ref 0), (1, .int a), (2, .int b), (3, .int g)], [.int (-5)]) from rfl) ?_
  refine zy_r (mr := zm_m154) rfl rfl (show _ = some (some (.int (-5))) from rfl) ⟨rfl, τ, hH, hX, Nat.le_add_right _ _, xF_refl _ _ _, ⟨rp, hc⟩⟩
theorem ym_x_no2 {d n m : Nat} {a b g : Int32} (hH : xHI xKT xSG τ h) (hX : xX τ h) (hc : xRXa rp τ h wd sz nm) (hp : 0 ≤ a.toInt ∧ a.toInt ≤ 3) (hq : 0 ≤ b.toInt ∧ b.toInt ≤ 3) (hg : 0 ≤ g.toInt ∧ g.toInt ≤ 1000) (hn1 : ¬ wd a.toInt.toNat = -1) (hw1 : 0 ≤ (wd a.toInt.toNat).toInt) (hn2 : wd b.toInt.toNat = -1) : zm_Y og (d + 3) 154 0 [(0, .ref 0), (1, .int a), (2, .int b), (3, .int g)] [] h (xCO τ h 3734 [] (fun r => r = some (.int (-5))) (fun τ1 h1 => xRX τ1 h1 wd sz nm)) := by
  have hla : a.toInt.toNat < 4 := by omega
  have hja := xnat a (hp).1
  obtain ⟨g1a, g2a, g3a, g4a, g5a⟩ := hc.1 _ hla
  have hlb : b.toInt.toNat < 4 := by omega
  have hjb := xnat b (hq).1
  obtain ⟨g1a, g2a, g3a, g4a, g5a⟩ := hc.1 _ hla
  obtain ⟨g1b, g2b, g3b, g4b, g5b⟩ := hc.1 _ hlb
  refine zy_n 1 (mr := zm_m154) rfl (show _ = some (1, [(0, .ref 0), (1, .int a), (2, .int b), (3, .int g)], [.int a]) from rfl) ?_
  refine zy_c (mr := zm_m154) (mc := zm_m19) rfl rfl rfl rfl rfl ?_
  refine zh_ipE.mono (fun q h' hq => ?_)
  obtain ⟨hez, rfl⟩ := hq
  rw [hez]
  rw [if_pos (show (0 : Int32).toInt ≤ a.toInt ∧ a.toInt ≤ (3 : Int32).toInt from by rw [show (0 : Int32).toInt = 0 from rfl, show (3 : Int32).toInt = 3 from rfl]; exact hp)]
  refine zy_b (mr := zm_m154) rfl rfl (show _ = some (7, []) from rfl) ?_
  refine zy_n 1 (mr := zm_m154) rfl (show _ = some (8, [(0, .ref 0), (1, .int a), (2, .int b), (3, .int g)], [.int b]) from rfl) ?_
  refine zy_c (mr := zm_m154) (mc := zm_m19) rfl rfl rfl rfl rfl ?_
  refine zh_ipE.mono (fun q h' hq => ?_)
  obtain ⟨hez, rfl⟩ := hq
  rw [hez]
  rw [if_pos (show (0 : Int32).toInt ≤ b.toInt ∧ b.toInt ≤ (3 : Int32).toInt from by rw [show (0 : Int32).toInt = 0 from rfl, show (3 : Int32).toInt = 3 from rfl]; exact hq)]
  refine zy_b (mr := zm_m154) rfl rfl (show _ = some (14, []) from rfl) ?_
  refine zy_n 3 (mr := zm_m154) rfl (show _ = some (19, [(0, .ref 0), (1, .int a), (2, .int b), (3, .int g)], [.int 1000, .int 0, .int g]) from rfl) ?_
  refine zy_c (mr := zm_m154) (mc := zm_m10) rfl rfl rfl rfl rfl ?_
  refine zh_withinE.mono (fun q h' hq => ?_)
  obtain ⟨hez, rfl⟩ := hq
  rw [hez]
  rw [if_pos (show (0 : Int32).toInt ≤ g.toInt ∧ g.toInt ≤ (1000 : Int32).toInt from by rw [show (0 : Int32).toInt = 0 from rfl, show (1000 : Int32).toInt = 1000 from rfl]; exact hg)]
  refine zy_b (mr := zm_m154) rfl rfl (show _ = some (28, []) from rfl) ?_
  refine zy_n 1 (mr := zm_m154) rfl (show _ = some (29, [(0, .ref 0), (1, .int a), (2, .int b), (3, .int g)], [.ref 0]) from rfl) ?_
  refine zk_get (mr := zm_m154) rfl rfl hH (hH.2.2 0 rfl) rfl (xfo_ref (k := 0) (f := 12) (a := 45) hH rfl rfl rfl) ?_
  refine zy_n 1 (mr := zm_m154) rfl (show _ = some (33, [(0, .ref 0), (1, .int a), (2, .int b), (3, .int g)], [.int a, .ref 45]) from rfl) ?_
  refine zy_c (mr := zm_m154) (mc := zm_m20) rfl rfl (zk_co (A := [.int a]) hH rfl rfl rfl rfl) rfl rfl ?_
  refine (zh_hasE hH hc hp).mono (fun q h' hq => ?_)
  obtain ⟨hez, rfl⟩ := hq
  rw [hez]
  rw [if_pos hn1]
  refine zy_b (mr := zm_m154) rfl rfl (show _ = some (39, []) from rfl) ?_
  refine zy_n 1 (mr := zm_m154) rfl (show _ = some (40, [(0, .ref 0), (1, .int a), (2, .int b), (3, .int g)], [.ref 0]) from rfl) ?_
  refine zk_get (mr := zm_m154) rfl rfl hH (hH.2.2 0 rfl) rfl (xfo_ref (k := 0) (f := 12) (a := 45) hH rfl rfl rfl) ?_
  refine zy_n 1 (mr := zm_m154) rfl (show _ = some (44, [(0, .ref 0), (1, .int a), (2, .int b), (3, .int g)], [.int b, .ref 45]) from rfl) ?_
  refine zy_c (mr := zm_m154) (mc := zm_m20) rfl rfl (zk_co (A := [.int b]) hH rfl rfl rfl rfl) rfl rfl ?_
  refine (zh_hasE hH hc hq).mono (fun q h' hq => ?_)
  obtain ⟨hez, rfl⟩ := hq
  rw [hez]
  rw [if_neg (fun z => z hn2)]
  refine zy_b (mr := zm_m154) rfl rfl (show _ = some (50, []) from rfl) ?_
  refine zy_n 1 (mr := zm_m154) rfl (show _ = some (52, [(0, .ref 0), (1, .int a), (2, .int b), (3, .int g)], [.int (-5)]) from rfl) ?_
  refine zy_r (mr := zm_m154) rfl rfl (show _ = some (some (.int (-5))) from rfl) ⟨rfl, τ, hH, hX, Nat.le_add_right _ _, xF_refl _ _ _, ⟨rp, hc⟩⟩
theorem ym_x_f1 {d n m : Nat} {a b g : Int32} (hH : xHI xKT xSG τ h) (hX : xX τ h) (hc : xRXa rp τ h wd sz nm) (hp : 0 ≤ a.toInt ∧ a.toInt ≤ 3) (hq : 0 ≤ b.toInt ∧ b.toInt ≤ 3) (hg : 0 ≤ g.toInt ∧ g.toInt ≤ 1000) (hn1 : ¬ wd a.toInt.toNat = -1) (hw1 : 0 ≤ (wd a.toInt.toNat).toInt) (hn2 : ¬ wd b.toInt.toNat = -1) (hw2 : 0 ≤ (wd b.toInt.toNat).toInt) (hn : (sz a.toInt.toNat).toInt = (n : Int)) (hm : (sz b.toInt.toNat).toInt = (m : Int)) (hn60 : n ≤ 60) (hm60 : m ≤ 60) (okx : ¬ xokN nm a.toInt.toNat n) : zm_Y og (d + 3) 154 0 [(0, .ref 0), (1, .int a), (2, .int b), (3, .int g)] [] h (xCO τ h 3734 [] (fun r => r = some (.int (-4))) (fun τ1 h1 => xRX τ1 h1 wd sz nm)) := by
  have hla : a.toInt.toNat < 4 := by omega
  have hja := xnat a (hp).1
  obtain ⟨g1a, g2a, g3a, g4a, g5a⟩ := hc.1 _ hla
  have hlb : b.toInt.toNat < 4 := by omega
  have hjb := xnat b (hq).1
  obtain ⟨g1a, g2a, g3a, g4a, g5a⟩ := hc.1 _ hla
  obtain ⟨g1b, g2b, g3b, g4b, g5b⟩ := hc.1 _ hlb
  refine zy_n 1 (mr := zm_m154) rfl (show _ = some (1, [(0, .ref 0), (1, .int a), (2, .int b), (3, .int g)], [.int a]) from rfl) ?_
  refine zy_c (mr := zm_m154) (mc := zm_m19) rfl rfl rfl rfl rfl ?_
  refine zh_ipE.mono (fun q h' hq => ?_)
  obtain ⟨hez, rfl⟩ := hq
  rw [hez]
  rw [if_pos (show (0 : Int32).toInt ≤ a.toInt ∧ a.toInt ≤ (3 : Int32).toInt from by rw [show (0 : Int32).toInt = 0 from rfl, show (3 : Int32).toInt = 3 from rfl]; exact hp)]
  refine zy_b (mr := zm_m154) rfl rfl (show _ = some (7, []) from rfl) ?_
  refine zy_n 1 (mr := zm_m154) rfl (show _ = some (8, [(0, .ref 0), (1, .int a), (2, .int b), (3, .int g)], [.int b]) from rfl) ?_
  refine zy_c (mr := zm_m154) (mc := zm_m19) rfl rfl rfl rfl rfl ?_
  refine zh_ipE.mono (fun q h' hq => ?_)
  obtain ⟨hez, rfl⟩ := hq
  rw [hez]
  rw [if_pos (show (0 : Int32).toInt ≤ b.toInt ∧ b.toInt ≤ (3 : Int32).toInt from by rw [show (0 : Int32).toInt = 0 from rfl, show (3 : Int32).toInt = 3 from rfl]; exact hq)]
  refine zy_b (mr := zm_m154) rfl rfl (show _ = some (14, []) from rfl) ?_
  refine zy_n 3 (mr := zm_m154) rfl (show _ = some (19, [(0, .ref 0), (1, .int a), (2, .int b), (3, .int g)], [.int 1000, .int 0, .int g]) from rfl) ?_
  refine zy_c (mr := zm_m154) (mc := zm_m10) rfl rfl rfl rfl rfl ?_
  refine zh_withinE.mono (fun q h' hq => ?_)
  obtain ⟨hez, rfl⟩ := hq
  rw [hez]
  rw [if_pos (show (0 : Int32).toInt ≤ g.toInt ∧ g.toInt ≤ (1000 : Int32).toInt from by rw [show (0 : Int32).toInt = 0 from rfl, show (1000 : Int32).toInt = 1000 from rfl]; exact hg)]
  refine zy_b (mr := zm_m154) rfl rfl (show _ = some (28, []) from rfl) ?_
  refine zy_n 1 (mr := zm_m154) rfl (show _ = some (29, [(0, .ref 0), (1, .int a), (2, .int b), (3, .int g)], [.ref 0]) from rfl) ?_
  refine zk_get (mr := zm_m154) rfl rfl hH (hH.2.2 0 rfl) rfl (xfo_ref (k := 0) (f := 12) (a := 45) hH rfl rfl rfl) ?_
  refine zy_n 1 (mr := zm_m154) rfl (show _ = some (33, [(0, .ref 0), (1, .int a), (2, .int b), (3, .int g)], [.int a, .ref 45]) from rfl) ?_
  refine zy_c (mr := zm_m154) (mc := zm_m20) rfl rfl (zk_co (A := [.int a]) hH rfl rfl rfl rfl) rfl rfl ?_
  refine (zh_hasE hH hc hp).mono (fun q h' hq => ?_)
  obtain ⟨hez, rfl⟩ := hq
  rw [hez]
  rw [if_pos hn1]
  refine zy_b (mr := zm_m154) rfl rfl (show _ = some (39, []) from rfl) ?_
  refine zy_n 1 (mr := zm_m154) rfl (show _ = some (40, [(0, .ref 0), (1, .int a), (2, .int b), (3, .int g)], [.ref 0]) from rfl) ?_
  refine zk_get (mr := zm_m154) rfl rfl hH (hH.2.2 0 rfl) rfl (xfo_ref (k := 0) (f := 12) (a := 45) hH rfl rfl rfl) ?_
  refine zy_n 1 (mr := zm_m154) rfl (show _ = some (44, [(0, .ref 0), (1, .int a), (2, .int b), (3, .int g)], [.int b, .ref 45]) from rfl) ?_
  refine zy_c (mr := zm_m154) (mc := zm_m20) rfl rfl (zk_co (A := [.int b]) hH rfl rfl rfl rfl) rfl rfl ?_
  refine (zh_hasE hH hc hq).mono (fun q h' hq => ?_)
  obtain ⟨hez, rfl⟩ := hq
  rw [hez]
  rw [if_pos hn2]
  refine zy_b (mr := zm_m154) rfl rfl (show _ = some (53, []) from rfl) ?_
  refine zy_n 1 (mr := zm_m154) rfl (show _ = some (54, [(0, .ref 0), (1, .int a), (2, .int b), (3, .int g)], [.ref 0]) from rfl) ?_
  refine zk_get (mr := zm_m154) rfl rfl hH (hH.2.2 0 rfl) rfl (xfo_ref (k := 0) (f := 12) (a := 45) hH rfl rfl rfl) ?_
  refine zy_n 3 (mr := zm_m154) rfl (show _ = some (62, [(0, .ref 0), (1, .int a), (2, .int b), (3, .int g)], [.long 10000, .long 0, .int a, .ref 45]) from rfl) ?_
  refine zy_c (mr := zm_m154) (mc := zm_m22) rfl rfl (zk_co (A := [.int a, .long 0, .long 10000]) hH rfl rfl rfl rfl) rfl rfl ?_
  refine (zh_aw hH hc hp hn hn60).mono (fun q h' hq => ?_)
  obtain ⟨hez, rfl⟩ := hq
  rw [hez]
  rw [if_neg okx]
  refine zy_b (mr := zm_m154) rfl rfl (show _ = some (83, []) from rfl) ?_
  refine zy_n 1 (mr := zm_m154) rfl (show _ = some (85, [(0, .ref 0), (1, .int a), (2, .int b), (3, .int g)], [.int (-4)]) from rfl) ?_
  refine zy_r (mr := zm_m154) rfl rfl (show _ = some (some (.int (-4))) from rfl) ⟨rfl, τ, hH, hX, Nat.le_add_right _ _, xF_refl _ _ _, ⟨rp, hc⟩⟩
theorem ym_x_f2 {d n m : Nat} {a b g : Int32} (hH : xHI xKT xSG τ h) (hX : xX τ h) (hc : xRXa rp τ h wd sz nm) (hp : 0 ≤ a.toInt ∧ a.toInt ≤ 3) (hq : 0 ≤ b.toInt ∧ b.toInt ≤ 3) (hg : 0 ≤ g.toInt ∧ g.toInt ≤ 1000) (hn1 : ¬ wd a.toInt.toNat = -1) (hw1 : 0 ≤ (wd a.toInt.toNat).toInt) (hn2 : ¬ wd b.toInt.toNat = -1) (hw2 : 0 ≤ (wd b.toInt.toNat).toInt) (hn : (sz a.toInt.toNat).toInt = (n : Int)) (hm : (sz b.toInt.toNat).toInt = (m : Int)) (hn60 : n ≤ 60) (hm60 : m ≤ 60) (okx : xokN nm a.toInt.toNat n) (oky : ¬ xokN nm b.toInt.toNat m) : zm_Y og (d + 3) 154 0 [(0, .ref 0), (1, .int a), (2, .int b), (3, .int g)] [] h (xCO τ h 3734 [] (fun r => r = some (.int (-4))) (fun τ1 h1 => xRX τ1 h1 wd sz nm)) := by
  have hla : a.toInt.toNat < 4 := by omega
  have hja := xnat a (hp).1
  obtain ⟨g1a, g2a, g3a, g4a, g5a⟩ := hc.1 _ hla
  have hlb : b.toInt.toNat < 4 := by omega
  have hjb := xnat b (hq).1
  obtain ⟨g1a, g2a, g3a, g4a, g5a⟩ := hc.1 _ hla
  obtain ⟨g1b, g2b, g3b, g4b, g5b⟩ := hc.1 _ hlb
  refine zy_n 1 (mr := zm_m154) rfl (show _ = some (1, [(0, .ref 0), (1, .int a), (2, .int b), (3, .int g)], [.int a]) from rfl) ?_
  refine zy_c (mr := zm_m154) (mc := zm_m19) rfl rfl rfl rfl rfl ?_
  refine zh_ipE.mono (fun q h' hq => ?_)
  obtain ⟨hez, rfl⟩ := hq
  rw [hez]
  rw [if_pos (show (0 : Int32).toInt ≤ a.toInt ∧ a.toInt ≤ (3 : Int32).toInt from by rw [show (0 : Int32).toInt = 0 from rfl, show (3 : Int32).toInt = 3 from rfl]; exact hp)]
  refine zy_b (mr := zm_m154) rfl rfl (show _ = some (7, []) from rfl) ?_
  refine zy_n 1 (mr := zm_m154) rfl (show _ = some (8, [(0, .ref 0), (1, .int a), (2, .int b), (3, .int g)], [.int b]) from rfl) ?_
  refine zy_c (mr := zm_m154) (mc := zm_m19) rfl rfl rfl rfl rfl ?_
  refine zh_ipE.mono (fun q h' hq => ?_)
  obtain ⟨hez, rfl⟩ := hq
  rw [hez]
  rw [if_pos (show (0 : Int32).toInt ≤ b.toInt ∧ b.toInt ≤ (3 : Int32).toInt from by rw [show (0 : Int32).toInt = 0 from rfl, show (3 : Int32).toInt = 3 from rfl]; exact hq)]
  refine zy_b (mr := zm_m154) rfl rfl (show _ = some (14, []) from rfl) ?_
  refine zy_n 3 (mr := zm_m154) rfl (show _ = some (19, [(0, .ref 0), (1, .int a), (2, .int b), (3, .int g)], [.int 1000, .int 0, .int g]) from rfl) ?_
  refine zy_c (mr := zm_m154) (mc := zm_m10) rfl rfl rfl rfl rfl ?_
  refine zh_withinE.mono (fun q h' hq => ?_)
  obtain ⟨hez, rfl⟩ := hq
  rw [hez]
  rw [if_pos (show (0 : Int32).toInt ≤ g.toInt ∧ g.toInt ≤ (1000 : Int32).toInt from by rw [show (0 : Int32).toInt = 0 from rfl, show (1000 : Int32).toInt = 1000 from rfl]; exact hg)]
  refine zy_b (mr := zm_m154) rfl rfl (show _ = some (28, []) from rfl) ?_
  refine zy_n 1 (mr := zm_m154) rfl (show _ = some (29, [(0, .ref 0), (1, .int a), (2, .int b), (3, .int g)], [.ref 0]) from rfl) ?_
  refine zk_get (mr := zm_m154) rfl rfl hH (hH.2.2 0 rfl) rfl (xfo_ref (k := 0) (f := 12) (a := 45) hH rfl rfl rfl) ?_
  refine zy_n 1 (mr := zm_m154) rfl (show _ = some (33, [(0, .ref 0), (1, .int a), (2, .int b), (3, .int g)], [.int a, .ref 45]) from rfl) ?_
  refine zy_c (mr := zm_m154) (mc := zm_m20) rfl rfl (zk_co (A := [.int a]) hH rfl rfl rfl rfl) rfl rfl ?_
  refine (zh_hasE hH hc hp).mono (fun q h' hq => ?_)
  obtain ⟨hez, rfl⟩ := hq
  rw [hez]
  rw [if_pos hn1]
  refine zy_b (mr := zm_m154) rfl rfl (show _ = some (39, []) from rfl) ?_
  refine zy_n 1 (mr := zm_m154) rfl (show _ = some (40, [(0, .ref 0), (1, .int a), (2, .int b), (3, .int g)], [.ref 0]) from rfl) ?_
  refine zk_get (mr := zm_m154) rfl rfl hH (hH.2.2 0 rfl) rfl (xfo_ref (k := 0) (f := 12) (a := 45) hH rfl rfl rfl) ?_
  refine zy_n 1 (mr := zm_m154) rfl (show _ = some (44, [(0, .ref 0), (1, .int a), (2, .int b), (3, .int g)], [.int b, .ref 45]) from rfl) ?_
  refine zy_c (mr := zm_m154) (mc := zm_m20) rfl rfl (zk_co (A := [.int b]) hH rfl rfl rfl rfl) rfl rfl ?_
  refine (zh_hasE hH hc hq).mono (fun q h' hq => ?_)
  obtain ⟨hez, rfl⟩ := hq
  rw [hez]
  rw [if_pos hn2]
  refine zy_b (mr := zm_m154) rfl rfl (show _ = some (53, []) from rfl) ?_
  refine zy_n 1 (mr := zm_m154) rfl (show _ = some (54, [(0, .ref 0), (1, .int a), (2, .int b), (3, .int g)], [.ref 0]) from rfl) ?_
  refine zk_get (mr := zm_m154) rfl rfl hH (hH.2.2 0 rfl) rfl (xfo_ref (k := 0) (f := 12) (a := 45) hH rfl rfl rfl) ?_
  refine zy_n 3 (mr := zm_m154) rfl (show _ = some (62, [(0, .ref 0), (1, .int a), (2, .int b), (3, .int g)], [.long 10000, .long 0, .int a, .ref 45]) from rfl) ?_
  refine zy_c (mr := zm_m154) (mc := zm_m22) rfl rfl (zk_co (A := [.int a, .long 0, .long 10000]) hH rfl rfl rfl rfl) rfl rfl ?_
  refine (zh_aw hH hc hp hn hn60).mono (fun q h' hq => ?_)
  obtain ⟨hez, rfl⟩ := hq
  rw [hez]
  rw [if_pos okx]
  refine zy_b (mr := zm_m154) rfl rfl (show _ = some (68, []) from rfl) ?_
  refine zy_n 1 (mr := zm_m154) rfl (show _ = some (69, [(0, .ref 0), (1, .int a), (2, .int b), (3, .int g)], [.ref 0]) from rfl) ?_
  refine zk_get (mr := zm_m154) rfl rfl hH (hH.2.2 0 rfl) rfl (xfo_ref (k := 0) (f := 12) (a := 45) hH rfl rfl rfl) ?_
  refine zy_n 3 (mr := zm_m154) rfl (show _ = some (77, [(0, .ref 0), (1, .int a), (2, .int b), (3, .int g)], [.long 10000, .long 0, .int b, .ref 45]) from rfl) ?_
  refine zy_c (mr := zm_m154) (mc := zm_m22) rfl rfl (zk_co (A := [.int b, .long 0, .long 10000]) hH rfl rfl rfl rfl) rfl rfl ?_
  refine (zh_aw hH hc hq hm hm60).mono (fun q h' hq => ?_)
  obtain ⟨hez, rfl⟩ := hq
  rw [hez]
  rw [if_neg oky]
  refine zy_b (mr := zm_m154) rfl rfl (show _ = some (83, []) from rfl) ?_
  refine zy_n 1 (mr := zm_m154) rfl (show _ = some (85, [(0, .ref 0), (1, .int a), (2, .int b), (3, .int g)], [.int (-4)]) from rfl) ?_
  refine zy_r (mr := zm_m154) rfl rfl (show _ = some (some (.int (-4))) from rfl) ⟨rfl, τ, hH, hX, Nat.le_add_right _ _, xF_refl _ _ _, ⟨rp, hc⟩⟩
theorem ym_x_ok {d n m : Nat} {a b g : Int32} (hH : xHI xKT xSG τ h) (hX : xX τ h) (hc : xRXa rp τ h wd sz nm) (hp : 0 ≤ a.toInt ∧ a.toInt ≤ 3) (hq : 0 ≤ b.toInt ∧ b.toInt ≤ 3) (hg : 0 ≤ g.toInt ∧ g.toInt ≤ 1000) (hn1 : ¬ wd a.toInt.toNat = -1) (hw1 : 0 ≤ (wd a.toInt.toNat).toInt) (hn2 : ¬ wd b.toInt.toNat = -1) (hw2 : 0 ≤ (wd b.toInt.toNat).toInt) (hn : (sz a.toInt.toNat).toInt = (n : Int)) (hm : (sz b.toInt.toNat).toInt = (m : Int)) (hn60 : n ≤ 60) (hm60 : m ≤ 60) (okx : xokN nm a.toInt.toNat n) (oky : xokN nm b.toInt.toNat m) : zm_Y og (d + 3) 154 0 [(0, .ref 0), (1, .int a), (2, .int b), (3, .int g)] [] h (xCO τ h 3734 [(45, 4), (45, 5), (53, 0), (219, 0)] (fun r => ∃ v : Int32, r = some (.int v) ∧ v.toInt = (xVV2 g.toInt (fun q => (nm a.toInt.toNat q).toInt) (fun q => (nm b.toInt.toNat q).toInt) n m) 0 0) (fun τ1 h1 => xRX τ1 h1 wd sz nm ∧ xfd h1 45 4 = some (.int (sz a.toInt.toNat)) ∧ ∀ q, q < 60 → xar h1 53 q = some (.int ((xtr (xVV2 g.toInt (fun q => (nm a.toInt.toNat q).toInt) (fun q => (nm b.toInt.toNat q).toInt) n m) (fun p q => (((nm a.toInt.toNat p).toInt - (nm b.toInt.toNat q).toInt).natAbs : Int)) g.toInt n m 120 0 0 (fun _ => -1)) q)))) := by
  have hla : a.toInt.toNat < 4 := by omega
  have hja := xnat a (hp).1
  obtain ⟨g1a, g2a, g3a, g4a, g5a⟩ := hc.1 _ hla
  have hlb : b.toInt.toNat < 4 := by omega
  have hjb := xnat b (hq).1
  obtain ⟨g1a, g2a, g3a, g4a, g5a⟩ := hc.1 _ hla
  obtain ⟨g1b, g2b, g3b, g4b, g5b⟩ := hc.1 _ hlb
  refine zy_n 1 (mr := zm_m154) rfl (show _ = some (1, [(0, .ref 0), (1, .int a), (2, .int b), (3, .int g)], [.int a]) from rfl) ?_
  refine zy_c (mr := zm_m154) (mc := zm_m19) rfl rfl rfl rfl rfl ?_
  refine zh_ipE.mono (fun q h' hq => ?_)
  obtain ⟨hez, rfl⟩ := hq
  rw [hez]
  rw [if_pos (show (0 : Int32).toInt ≤ a.toInt ∧ a.toInt ≤ (3 : Int32).toInt from by rw [show (0 : Int32).toInt = 0 from rfl, show (3 : Int32).toInt = 3 from rfl]; exact hp)]
  refine zy_b (mr := zm_m154) rfl rfl (show _ = some (7, []) from rfl) ?_
  refine zy_n 1 (mr := zm_m154) rfl (show _ = some (8, [(0, .ref 0), (1, .int a), (2, .int b), (3, .int g)], [.int b]) from rfl) ?_
  refine zy_c (mr := zm_m154) (mc := zm_m19) rfl rfl rfl rfl rfl ?_
  refine zh_ipE.mono (fun q h' hq => ?_)
  obtain ⟨hez, rfl⟩ := hq
  rw [hez]
  rw [if_pos (show (0 : Int32).toInt ≤ b.toInt ∧ b.toInt ≤ (3 : Int32).toInt from by rw [show (0 : Int32).toInt = 0 from rfl, show (3 : Int32).toInt = 3 from rfl]; exact hq)]
  refine zy_b (mr := zm_m154) rfl rfl (show _ = some (14, []) from rfl) ?_
  refine zy_n 3 (mr := zm_m154) rfl (show _ = some (19, [(0, .ref 0), (1, .int a), (2, .int b), (3, .int g)], [.int 1000, .int 0, .int g]) from rfl) ?_
  refine zy_c (mr := zm_m154) (mc := zm_m10) rfl rfl rfl rfl rfl ?_
  refine zh_withinE.mono (fun q h' hq => ?_)
  obtain ⟨hez, rfl⟩ := hq
  rw [hez]
  rw [if_pos (show (0 : Int32).toInt ≤ g.toInt ∧ g.toInt ≤ (1000 : Int32).toInt from by rw [show (0 : Int32).toInt = 0 from rfl, show (1000 : Int32).toInt = 1000 from rfl]; exact hg)]
  refine zy_b (mr := zm_m154) rfl rfl (show _ = some (28, []) from rfl) ?_
  refine zy_n 1 (mr := zm_m154) rfl (show _ = some (29, [(0, .ref 0), (1, .int a), (2, .int b), (3, .int g)], [.ref 0]) from rfl) ?_
  refine zk_get (mr := zm_m154) rfl rfl hH (hH.2.2 0 rfl) rfl (xfo_ref (k := 0) (f := 12) (a := 45) hH rfl rfl rfl) ?_
  refine zy_n 1 (mr := zm_m154) rfl (show _ = some (33, [(0, .ref 0), (1, .int a), (2, .int b), (3, .int g)], [.int a, .ref 45]) from rfl) ?_
  refine zy_c (mr := zm_m154) (mc := zm_m20) rfl rfl (zk_co (A := [.int a]) hH rfl rfl rfl rfl) rfl rfl ?_
  refine (zh_hasE hH hc hp).mono (fun q h' hq => ?_)
  obtain ⟨hez, rfl⟩ := hq
  rw [hez]
  rw [if_pos hn1]
  refine zy_b (mr := zm_m154) rfl rfl (show _ = some (39, []) from rfl) ?_
  refine zy_n 1 (mr := zm_m154) rfl (show _ = some (40, [(0, .ref 0), (1, .int a), (2, .int b), (3, .int g)], [.ref 0]) from rfl) ?_
  refine zk_get (mr := zm_m154) rfl rfl hH (hH.2.2 0 rfl) rfl (xfo_ref (k := 0) (f := 12) (a := 45) hH rfl rfl rfl) ?_
  refine zy_n 1 (mr := zm_m154) rfl (show _ = some (44, [(0, .ref 0), (1, .int a), (2, .int b), (3, .int g)], [.int b, .ref 45]) from rfl) ?_
  refine zy_c (mr := zm_m154) (mc := zm_m20) rfl rfl (zk_co (A := [.int b]) hH rfl rfl rfl rfl) rfl rfl ?_
  refine (zh_hasE hH hc hq).mono (fun q h' hq => ?_)
  obtain ⟨hez, rfl⟩ := hq
  rw [hez]
  rw [if_pos hn2]
  refine zy_b (mr := zm_m154) rfl rfl (show _ = some (53, []) from rfl) ?_
  refine zy_n 1 (mr := zm_m154) rfl (show _ = some (54, [(0, .ref 0), (1, .int a), (2, .int b), (3, .int g)], [.ref 0]) from rfl) ?_
  refine zk_get (mr := zm_m154) rfl rfl hH (hH.2.2 0 rfl) rfl (xfo_ref (k := 0) (f := 12) (a := 45) hH rfl rfl rfl) ?_
  refine zy_n 3 (mr := zm_m154) rfl (show _ = some (62, [(0, .ref 0), (1, .int a), (2, .int b), (3, .int g)], [.long 10000, .long 0, .int a, .ref 45]) from rfl) ?_
  refine zy_c (mr := zm_m154) (mc := zm_m22) rfl rfl (zk_co (A := [.int a, .long 0, .long 10000]) hH rfl rfl rfl rfl) rfl rfl ?_
  refine (zh_aw hH hc hp hn hn60).mono (fun q h' hq => ?_)
  obtain ⟨hez, rfl⟩ := hq
  rw [hez]
  rw [if_pos okx]
  refine zy_b (mr := zm_m154) rfl rfl (show _ = some (68, []) from rfl) ?_
  refine zy_n 1 (mr := zm_m154) rfl (show _ = some (69, [(0, .ref 0), (1, .int a), (2, .int b), (3, .int g)], [.ref 0]) from rfl) ?_
  refine zk_get (mr := zm_m154) rfl rfl hH (hH.2.2 0 rfl) rfl (xfo_ref (k := 0) (f := 12) (a := 45) hH rfl rfl rfl) ?_
  refine zy_n 3 (mr := zm_m154) rfl (show _ = some (77, [(0, .ref 0), (1, .int a), (2, .int b), (3, .int g)], [.long 10000, .long 0, .int b, .ref 45]) from rfl) ?_
  refine zy_c (mr := zm_m154) (mc := zm_m22) rfl rfl (zk_co (A := [.int b, .long 0, .long 10000]) hH rfl rfl rfl rfl) rfl rfl ?_
  refine (zh_aw hH hc hq hm hm60).mono (fun q h' hq => ?_)
  obtain ⟨hez, rfl⟩ := hq
  rw [hez]
  rw [if_pos oky]
  refine zy_b (mr := zm_m154) rfl rfl (show _ = some (86, []) from rfl) ?_
  refine zy_n 1 (mr := zm_m154) rfl (show _ = some (87, [(0, .ref 0), (1, .int a), (2, .int b), (3, .int g)], [.ref 0]) from rfl) ?_
  refine zk_get (mr := zm_m154) rfl rfl hH (hH.2.2 0 rfl) rfl (xfo_ref (k := 0) (f := 12) (a := 45) hH rfl rfl rfl) ?_
  refine zy_n 3 (mr := zm_m154) rfl (show _ = some (93, [(0, .ref 0), (1, .int a), (2, .int b), (3, .int g)], [.int g, .int b, .int a, .ref 45]) from rfl) ?_
  refine zy_c (mr := zm_m154) (mc := zm_m155) rfl rfl (zk_co (A := [.int a, .int b, .int g]) hH rfl rfl rfl rfl) rfl rfl ?_
  refine (zh_pu (d := d) hX hH hc hp hq hg hn hm hn60 hm60 okx oky).mono (fun q h1 hq2 => ?_)
  obtain ⟨⟨y, rfl, ey⟩, τ1, hH1, hX1, hW1, hF1, hc, hpl, hP⟩ := hq2
  refine zy_r (mr := zm_m154) rfl rfl (show _ = some (some (.int y)) from rfl) ⟨⟨_, rfl, ey⟩, τ1, hH1, hX1, by omega, (xF_weak hF1 (xmsS rfl)), ⟨rp, hc⟩, hpl, hP⟩
end XR2
