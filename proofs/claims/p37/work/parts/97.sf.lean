/-! PLACES and PAIRS: piece 5 (made by a program) -/
section XR2
set_option maxRecDepth 100000
variable {og : Nat → Option zm_C} {τ τ' : List Nat} {h h' : zm_H} {ms : List (Nat × Nat)} {rp : Nat → Nat} {wd sz : Nat → Int32} {nm : Nat → Nat → Int64}
theorem yp_x_bad {d : Nat} {a u b v c : Int32} (hH : xHI xKT xSG τ h) (hX : xX τ h) (hc : xRXa rp τ h wd sz nm) (hb : ¬ ((0 ≤ a.toInt ∧ a.toInt ≤ 3) ∧ 0 ≤ b.toInt ∧ b.toInt ≤ 3)) : zm_Y og (d + 2) 178 0 [(0, .ref 0), (1, .int a), (2, .int u), (3, .int b), (4, .int v), (5, .int c)] [] h (xCO τ h 0 [(211, 0)] (fun r => r = some (.int (-2))) (fun τ1 h1 => xRX τ1 h1 wd sz nm)) := by
  by_cases c0 : 0 ≤ a.toInt ∧ a.toInt ≤ 3
  rotate_left
  · refine zy_n 1 (mr := zm_m178) rfl (show _ = some (1, [(0, .ref 0), (1, .int a), (2, .int u), (3, .int b), (4, .int v), (5, .int c)], [.int a]) from rfl) ?_
    refine zy_c (mr := zm_m178) (mc := zm_m19) rfl rfl rfl rfl rfl ?_
    refine zh_ipE.mono (fun q h' hq => ?_)
    obtain ⟨hez, rfl⟩ := hq
    rw [hez]
    rw [if_neg (show ¬ ((0 : Int32).toInt ≤ a.toInt ∧ a.toInt ≤ (3 : Int32).toInt) from by rw [show (0 : Int32).toInt = 0 from rfl, show (3 : Int32).toInt = 3 from rfl]; exact c0)]
    refine zy_b (mr := zm_m178) rfl rfl (show _ = some (14, []) from rfl) ?_
    refine zy_n 1 (mr := zm_m178) rfl (show _ = some (16, [(0, .ref 0), (1, .int a), (2, .int u), (3, .int b), (4, .int v), (5, .int c)], [.int (-2)]) from rfl) ?_
    refine zy_r (mr := zm_m178) rfl rfl (show _ = some (some (.int (-2))) from rfl) ⟨rfl, τ, hH, hX, Nat.le_add_right _ _, xF_refl _ _ _, ⟨rp, hc⟩⟩
  by_cases c1 : 0 ≤ b.toInt ∧ b.toInt ≤ 3
  rotate_left
  · refine zy_n 1 (mr := zm_m178) rfl (show _ = some (1, [(0, .ref 0), (1, .int a), (2, .int u), (3, .int b), (4, .int v), (5, .int c)], [.int a]) from rfl) ?_
    refine zy_c (mr := zm_m178) (mc := zm_m19) rfl rfl rfl rfl rfl ?_
    refine zh_ipE.mono (fun q h' hq => ?_)
    obtain ⟨hez, rfl⟩ := hq
    rw [hez]
    rw [if_pos (show (0 : Int32).toInt ≤ a.toInt ∧ a.toInt ≤ (3 : Int32).toInt from by rw [show (0 : Int32).toInt = 0 from rfl, show (3 : Int32).toInt = 3 from rfl]; exact c0)]
    refine zy_b (mr := zm_m178) rfl rfl (show _ = some (7, []) from rfl) ?_
    refine zy_n 1 (mr := zm_m178) rfl (show _ = some (8, [(0, .ref 0), (1, .int a), (2, .int u), (3, .int b), (4, .int v), (5, .int c)], [.int b]) from rfl) ?_
    refine zy_c (mr := zm_m178) (mc := zm_m19) rfl rfl rfl rfl rfl ?_
    refine zh_ipE.mono (fun q h' hq => ?_)
    obtain ⟨hez, rfl⟩ := hq
    rw [hez]
    rw [if_neg (show ¬ ((0 : Int32).toInt ≤ b.toInt ∧ b.toInt ≤ (3 : Int32).toInt) from by rw [show (0 : Int32).toInt = 0 from rfl, show (3 : Int32).toInt = 3 from rfl]; exact c1)]
    refine zy_b (mr := zm_m178) rfl rfl (show _ = some (14, []) from rfl) ?_
    refine zy_n 1 (mr := zm_m178) rfl (show _ = some (16, [(0, .ref 0), (1, .int a), (2, .int u), (3, .int b), (4, .int v), (5, .int c)], [.int (-2)]) from rfl) ?_
    refine zy_r (mr := zm_m178) rfl rfl (show _ = some (some (.int (-2))) from rfl) ⟨rfl, τ, hH, hX, Nat.le_add_right _ _, xF_refl _ _ _, ⟨rp, hc⟩⟩
  exact absurd ⟨c0, c1⟩ hb
theorem yp_x_no1 {d : Nat} {a u b v c : Int32} (hH : xHI xKT xSG τ h) (hX : xX τ h) (hc : xRXa rp τ h wd sz nm) (hp : 0 ≤ a.toInt ∧ a.toInt ≤ 3) (hq : 0 ≤ b.toInt ∧ b.toInt ≤ 3) (hn : wd a.toInt.toNat = -1) : zm_Y og (d + 2) 178 0 [(0, .ref 0), (1, .int a), (2, .int u), (3, .int b), (4, .int v), (5, .int c)] [] h (xCO τ h 0 [(211, 0)] (fun r => r = some (.int (-5))) (fun τ1 h1 => xRX τ1 h1 wd sz nm)) := by
  have hla : a.toInt.toNat < 4 := by omega
  have hja := xnat a (hp).1
  obtain ⟨g1a, g2a, g3a, g4a, g5a⟩ := hc.1 _ hla
  have hlb : b.toInt.toNat < 4 := by omega
  have hjb := xnat b (hq).1
  obtain ⟨g1a, g2a, g3a, g4a, g5a⟩ := hc.1 _ hla
  obtain ⟨g1b, g2b, g3b, g4b, g5b⟩ := hc.1 _ hlb
  refine zy_n 1 (mr := zm_m178) rfl (show _ = some (1, [(0, .ref 0), (1, .int a), (2, .int u), (3, .int b), (4, .int v), (5, .int c)], [.int a]) from rfl) ?_
  refine zy_c (mr := zm_m178) (mc := zm_m19) rfl rfl rfl rfl rfl ?_
  refine zh_ipE.mono (fun q h' hq => ?_)
  obtain ⟨hez, rfl⟩ := hq
  rw [hez]
  rw [if_pos (show (0 : Int32).toInt ≤ a.toInt ∧ a.toInt ≤ (3 : Int32).toInt from by rw [show (0 : Int32).toInt = 0 from rfl, show (3 : Int32).toInt = 3 from rfl]; exact hp)]
  refine zy_b (mr := zm_m178) rfl rfl (show _ = some (7, []) from rfl) ?_
  refine zy_n 1 (mr := zm_m178) rfl (show _ = some (8, [(0, .ref 0), (1, .int a), (2, .int u), (3, .int b), (4, .int v), (5, .int c)], [.int b]) from rfl) ?_
  refine zy_c (mr := zm_m178) (mc := zm_m19) rfl rfl rfl rfl rfl ?_
  refine zh_ipE.mono (fun q h' hq => ?_)
  obtain ⟨hez, rfl⟩ := hq
  rw [hez]
  rw [if_pos (show (0 : Int32).toInt ≤ b.toInt ∧ b.toInt ≤ (3 : Int32).toInt from by rw [show (0 : Int32).toInt = 0 from rfl, show (3 : Int32).toInt = 3 from rfl]; exact hq)]
  refine zy_b (mr := zm_m178) rfl rfl (show _ = some (17, []) from rfl) ?_
  refine zy_n 1 (mr := zm_m178) rfl (show _ = some (18, [(0, .ref 0), (1, .int a), (2, .int u), (3, .int b), (4, .int v), (5, .int c)], [.ref 0]) from rfl) ?_
  refine zk_get (mr := zm_m178) rfl rfl hH (hH.2.2 0 rfl) rfl (xfo_ref (k := 0) (f := 12) (a := 45) hH rfl rfl rfl) ?_
  refine zy_n 1 (mr := zm_m178) rfl (show _ = some (22, [(0, .ref 0), (1, .int a), (2, .int u), (3, .int b), (4, .int v), (5, .int c)], [.int a, .ref 45]) from rfl) ?_
  refine zy_c (mr := zm_m178) (mc := zm_m20) rfl rfl (zk_co (A := [.int a]) hH rfl rfl rfl rfl) rfl rfl ?_
  refine (zh_hasE hH hc hp).mono (fun q h' hq => ?_)
  obtain ⟨hez, rfl⟩ := hq
  rw [hez]
  rw [if_neg (fun z => z hn)]
  refine zy_b (mr := zm_m178) rfl rfl (show _ = some (39, []) from rfl) ?_
  refine zy_n 1 (mr := zm_m178) rfl (show _ = some (41, [(0, .ref 0), (1, .int a), (2, .int u), (3, .int b), (4, .int v), (5, .int c)], [.int (-5)]) from rfl) ?_
  refine zy_r (mr := zm_m178) rfl rfl (show _ = some (some (.int (-5))) from rfl) ⟨rfl, τ, hH, hX, Nat.le_add_right _ _, xF_refl _ _ _, ⟨rp, hc⟩⟩
theorem yp_x_no2 {d : Nat} {a u b v c : Int32} (hH : xHI xKT xSG τ h) (hX : xX τ h) (hc : xRXa rp τ h wd sz nm) (hp : 0 ≤ a.toInt ∧ a.toInt ≤ 3) (hq : 0 ≤ b.toInt ∧ b.toInt ≤ 3) (hn : ¬ wd a.toInt.toNat = -1) (hw : 0 ≤ (wd a.toInt.toNat).toInt) (hm : wd b.toInt.toNat = -1) : zm_Y og (d + 2) 178 0 [(0, .ref 0), (1, .int a), (2, .int u), (3, .int b), (4, .int v), (5, .int c)] [] h (xCO τ h 0 [(211, 0)] (fun r => r = some (.int (-5))) (fun τ1 h1 => xRX τ1 h1 wd sz nm)) := by
  have hla : a.toInt.toNat < 4 := by omega
  have hja := xnat a (hp).1
  obtain ⟨g1a, g2a, g3a, g4a, g5a⟩ := hc.1 _ hla
  have hlb : b.toInt.toNat < 4 := by omega
  have hjb := xnat b (hq).1
  obtain ⟨g1a, g2a, g3a, g4a, g5a⟩ := hc.1 _ hla
  obtain ⟨g1b, g2b, g3b, g4b, g5b⟩ := hc.1 _ hlb
  refine zy_n 1 (mr := zm_m178) rfl (show _ = some (1, [(0, .ref 0), (1, .int a), (2, .int u), (3, .int b), (4, .int v), (5, .int c)], [.int a]) from rfl) ?_
  refine zy_c (mr := zm_m178) (mc := zm_m19) rfl rfl rfl rfl rfl ?_
  refine zh_ipE.mono (fun q h' hq => ?_)
  obtain ⟨hez, rfl⟩ := hq
  rw [hez]
  rw [if_pos (show (0 : Int32).toInt ≤ a.toInt ∧ a.toInt ≤ (3 : Int32).toInt from by rw [show (0 : Int32).toInt = 0 from rfl, show (3 : Int32).toInt = 3 from rfl]; exact hp)]
  refine zy_b (mr := zm_m178) rfl rfl (show _ = some (7, []) from rfl) ?_
  refine zy_n 1 (mr := zm_m178) rfl (show _ = some (8, [(0, .ref 0), (1, .int a), (2, .int u), (3, .int b), (4, .int v), (5, .int c)], [.int b]) from rfl) ?_
  refine zy_c (mr := zm_m178) (mc := zm_m19) rfl rfl rfl rfl rfl ?_
  refine zh_ipE.mono (fun q h' hq => ?_)
  obtain ⟨hez, rfl⟩ := hq
  rw [hez]
  rw [if_pos (show (0 : Int32).toInt ≤ b.toInt ∧ b.toInt ≤ (3 : Int32).toInt from by rw [show (0 : Int32).toInt = 0 from rfl, show (3 : Int32).toInt = 3 from rfl]; exact hq)]
  refine zy_b (mr := zm_m178) rfl rfl (show _ = some (17, []) from rfl) ?_
  refine zy_n 1 (mr := zm_m178) rfl (show _ = some (18, [(0, .ref 0), (1, .int a), (2, .int u), (3, .int b), (4, .int v), (5, .int c)], [.ref 0]) from rfl) ?_
  refine zk_get (mr := zm_m178) rfl rfl hH (hH.2.2 0 rfl) rfl (xfo_ref (k := 0) (f := 12) (a := 45) hH rfl rfl rfl) ?_
  refine zy_n 1 (mr := zm_m178) rfl (show _ = some (22, [(0, .ref 0), (1, .int a), (2, .int u), (3, .int b), (4, .int v), (5, .int c)], [.int a, .ref 45]) from rfl) ?_
  refine zy_c (mr := zm_m178) (mc := zm_m20) rfl rfl (zk_co (A := [.int a]) hH rfl rfl rfl rfl) rfl rfl ?_
  refine (zh_hasE hH hc hp).mono (fun q h' hq => ?_)
  obtain ⟨hez, rfl⟩ := hq
  rw [hez]
  rw [if_pos hn]
  refine zy_b (mr := zm_m178) rfl rfl (show _ = some (28, []) from rfl) ?_
  refine zy_n 1 (mr := zm_m178) rfl (show _ = some (29, [(0, .ref 0), (1, .int a), (2, .int u), (3, .int b), (4, .int v), (5, .int c)], [.ref 0]) from rfl) ?_
  refine zk_get (mr := zm_m178) rfl rfl hH (hH.2.2 0 rfl) rfl (xfo_ref (k := 0) (f := 12) (a := 45) hH rfl rfl rfl) ?_
  refine zy_n 1 (mr := zm_m178) rfl (show _ = some (33, [(0, .ref 0), (1, .int a), (2, .int u), (3, .int b), (4, .int v), (5, .int c)], [.int b, .ref 45]) from rfl) ?_
  refine zy_c (mr := zm_m178) (mc := zm_m20) rfl rfl (zk_co (A := [.int b]) hH rfl rfl rfl rfl) rfl rfl ?_
  refine (zh_hasE hH hc hq).mono (fun q h' hq => ?_)
  obtain ⟨hez, rfl⟩ := hq
  rw [hez]
  rw [if_neg (fun z => z hm)]
  refine zy_b (mr := zm_m178) rfl rfl (show _ = some (39, []) from rfl) ?_
  refine zy_n 1 (mr := zm_m178) rfl (show _ = some (41, [(0, .ref 0), (1, .int a), (2, .int u), (3, .int b), (4, .int v), (5, .int c)], [.int (-5)]) from rfl) ?_
  refine zy_r (mr := zm_m178) rfl rfl (show _ = some (some (.int (-5))) from rfl) ⟨rfl, τ, hH, hX, Nat.le_add_right _ _, xF_refl _ _ _, ⟨rp, hc⟩⟩
theorem yp_x_dif {d : Nat} {a u b v c : Int32} (hH : xHI xKT xSG τ h) (hX : xX τ h) (hc : xRXa rp τ h wd sz nm) (hp : 0 ≤ a.toInt ∧ a.toInt ≤ 3) (hq : 0 ≤ b.toInt ∧ b.toInt ≤ 3) (hn : ¬ wd a.toInt.toNat = -1) (hm : ¬ wd b.toInt.toNat = -1) (hw : 0 ≤ (wd a.toInt.toNat).toInt) (hw2 : 0 ≤ (wd b.toInt.toNat).toInt) (hd : ¬ wd a.toInt.toNat = wd b.toInt.toNat) : zm_Y og (d + 2) 178 0 [(0, .ref 0), (1, .int a), (2, .int u), (3, .int b), (4, .int v), (5, .int c)] [] h (xCO τ h 0 [(211, 0)] (fun r => r = some (.int (-7))) (fun τ1 h1 => xRX τ1 h1 wd sz nm)) := by
  have hla : a.toInt.toNat < 4 := by omega
  have hja := xnat a (hp).1
  obtain ⟨g1a, g2a, g3a, g4a, g5a⟩ := hc.1 _ hla
  have hlb : b.toInt.toNat < 4 := by omega
  have hjb := xnat b (hq).1
  obtain ⟨g1a, g2a, g3a, g4a, g5a⟩ := hc.1 _ hla
  obtain ⟨g1b, g2b, g3b, g4b, g5b⟩ := hc.1 _ hlb
  refine zy_n 1 (mr := zm_m178) rfl (show _ = some (1, [(0, .ref 0), (1, .int a), (2, .int u), (3, .int b), (4, .int v), (5, .int c)], [.int a]) from rfl) ?_
  refine zy_c (mr := zm_m178) (mc := zm_m19) rfl rfl rfl rfl rfl ?_
  refine zh_ipE.mono (fun q h' hq => ?_)
  obtain ⟨hez, rfl⟩ := hq
  rw [hez]
  rw [if_pos (show (0 : Int32).toInt ≤ a.toInt ∧ a.toInt ≤ (3 : Int32).toInt from by rw [show (0 : Int32).toInt = 0 from rfl, show (3 : Int32).toInt = 3 from rfl]; exact hp)]
  refine zy_b (mr := zm_m178) rfl rfl (show _ = some (7, []) from rfl) ?_
  refine zy_n 1 (mr := zm_m178) rfl (show _ = some (8, [(0, .ref 0), (1, .int a), (2, .int u), (3, .int b), (4, .int v), (5, .int c)], [.int b]) from rfl) ?_
  refine zy_c (mr := zm_m178) (mc := zm_m19) rfl rfl rfl rfl rfl ?_
  refine zh_ipE.mono (fun q h' hq => ?_)
  obtain ⟨hez, rfl⟩ := hq
  rw [hez]
  rw [if_pos (show (0 : Int32).toInt ≤ b.toInt ∧ b.toInt ≤ (3 : Int32).toInt from by rw [show (0 : Int32).toInt = 0 from rfl, show (3 : Int32).toInt = 3 from rfl]; exact hq)]
  refine zy_b (mr := zm_m178) rfl rfl (show _ = some (17, []) from rfl) ?_
  refine zy_n 1 (mr := zm_m178) rfl (show _ = some (18, [(0, .ref 0), (1, .int a), (2, .int u), (3, .int b), (4, .int v), (5, .int c)], [.ref 0]) from rfl) ?_
  refine zk_get (mr := zm_m178) rfl rfl hH (hH.2.2 0 rfl) rfl (xfo_ref (k := 0) (f := 12) (a := 45) hH rfl rfl rfl) ?_
  refine zy_n 1 (mr := zm_m178) rfl (show _ = some (22, [(0, .ref 0), (1, .int a), (2, .int u), (3, .int b), (4, .int v), (5, .int c)], [.int a, .ref 45]) from rfl) ?_
  refine zy_c (mr := zm_m178) (mc := zm_m20) rfl rfl (zk_co (A := [.int a]) hH rfl rfl rfl rfl) rfl rfl ?_
  refine (zh_hasE hH hc hp).mono (fun q h' hq => ?_)
  obtain ⟨hez, rfl⟩ := hq
  rw [hez]
  rw [if_pos hn]
  refine zy_b (mr := zm_m178) rfl rfl (show _ = some (28, []) from rfl) ?_
  refine zy_n 1 (mr := zm_m178) rfl (show _ = some (29, [(0, .ref 0), (1, .int a), (2, .int u), (3, .int b), (4, .int v), (5, .int c)], [.ref 0]) from rfl) ?_
  refine zk_get (mr := zm_m178) rfl rfl hH (hH.2.2 0 rfl) rfl (xfo_ref (k := 0) (f := 12) (a := 45) hH rfl rfl rfl) ?_
  refine zy_n 1 (mr := zm_m178) rfl (show _ = some (33, [(0, .ref 0), (1, .int a), (2, .int u), (3, .int b), (4, .int v), (5, .int c)], [.int b, .ref 45]) from rfl) ?_
  refine zy_c (mr := zm_m178) (mc := zm_m20) rfl rfl (zk_co (A := [.int b]) hH rfl rfl rfl rfl) rfl rfl ?_
  refine (zh_hasE hH hc hq).mono (fun q h' hq => ?_)
  obtain ⟨hez, rfl⟩ := hq
  rw [hez]
  rw [if_pos hm]
  refine zy_b (mr := zm_m178) rfl rfl (show _ = some (42, []) from rfl) ?_
  refine zy_n 1 (mr := zm_m178) rfl (show _ = some (43, [(0, .ref 0), (1, .int a), (2, .int u), (3, .int b), (4, .int v), (5, .int c)], [.ref 0]) from rfl) ?_
  refine zk_get (mr := zm_m178) rfl rfl hH (hH.2.2 0 rfl) rfl (xfo_ref (k := 0) (f := 12) (a := 45) hH rfl rfl rfl) ?_
  refine zk_get (mr := zm_m178) rfl rfl hH (hH.2.2 45 rfl) rfl (xfo_ref (k := 45) (f := 1) (a := 51) hH rfl rfl rfl) ?_
  refine zy_n 1 (mr := zm_m178) rfl (show _ = some (50, [(0, .ref 0), (1, .int a), (2, .int u), (3, .int b), (4, .int v), (5, .int c)], [.int a, .ref 51]) from rfl) ?_
  refine zk_ild (mr := zm_m178) rfl rfl hH (hH.2.2 51 rfl) rfl g1a hja ?_
  refine zy_n 1 (mr := zm_m178) rfl (show _ = some (52, [(0, .ref 0), (1, .int a), (2, .int u), (3, .int b), (4, .int v), (5, .int c)], [.ref 0, .int (wd a.toInt.toNat)]) from rfl) ?_
  refine zk_get (mr := zm_m178) rfl rfl hH (hH.2.2 0 rfl) rfl (xfo_ref (k := 0) (f := 12) (a := 45) hH rfl rfl rfl) ?_
  refine zk_get (mr := zm_m178) rfl rfl hH (hH.2.2 45 rfl) rfl (xfo_ref (k := 45) (f := 1) (a := 51) hH rfl rfl rfl) ?_
  refine zy_n 1 (mr := zm_m178) rfl (show _ = some (59, [(0, .ref 0), (1, .int a), (2, .int u), (3, .int b), (4, .int v), (5, .int c)], [.int b, .ref 51, .int (wd a.toInt.toNat)]) from rfl) ?_
  refine zk_ild (mr := zm_m178) rfl rfl hH (hH.2.2 51 rfl) rfl g1b hjb ?_
  refine zy_b (mr := zm_m178) rfl rfl (show _ = some (zm_ic .eq (wd a.toInt.toNat) (wd b.toInt.toNat) 66 63, []) from rfl) ?_
  refine zc_eq (fun e => absurd e hd) (fun _ => ?_)
  refine zy_n 1 (mr := zm_m178) rfl (show _ = some (65, [(0, .ref 0), (1, .int a), (2, .int u), (3, .int b), (4, .int v), (5, .int c)], [.int (-7)]) from rfl) ?_
  refine zy_r (mr := zm_m178) rfl rfl (show _ = some (some (.int (-7))) from rfl) ⟨rfl, τ, hH, hX, Nat.le_add_right _ _, xF_refl _ _ _, ⟨rp, hc⟩⟩
theorem yp_x_bey {d : Nat} {a u b v c : Int32} (hH : xHI xKT xSG τ h) (hX : xX τ h) (hc : xRXa rp τ h wd sz nm) (hp : 0 ≤ a.toInt ∧ a.toInt ≤ 3) (hq : 0 ≤ b.toInt ∧ b.toInt ≤ 3) (hn : ¬ wd a.toInt.toNat = -1) (hm : ¬ wd b.toInt.toNat = -1) (hw : 0 ≤ (wd a.toInt.toNat).toInt) (hw2 : 0 ≤ (wd b.toInt.toNat).toInt) (hz : 0 ≤ (sz a.toInt.toNat).toInt ∧ (sz a.toInt.toNat).toInt ≤ 60) (hz2 : 0 ≤ (sz b.toInt.toNat).toInt ∧ (sz b.toInt.toNat).toInt ≤ 60) (hd : wd a.toInt.toNat = wd b.toInt.toNat) (hr : ¬ ((0 ≤ u.toInt ∧ 0 ≤ c.toInt ∧ u.toInt + c.toInt ≤ (sz a.toInt.toNat).toInt) ∧ 0 ≤ v.toInt ∧ 0 ≤ c.toInt ∧ v.toInt + c.toInt ≤ (sz b.toInt.toNat).toInt)) : zm_Y og (d + 2) 178 0 [(0, .ref 0), (1, .int a), (2, .int u), (3, .int b), (4, .int v), (5, .int c)] [] h (xCO τ h 0 [(211, 0)] (fun r => r = some (.int (-6))) (fun τ1 h1 => xRX τ1 h1 wd sz nm)) := by
  have hla : a.toInt.toNat < 4 := by omega
  have hja := xnat a (hp).1
  obtain ⟨g1a, g2a, g3a, g4a, g5a⟩ := hc.1 _ hla
  have hlb : b.toInt.toNat < 4 := by omega
  have hjb := xnat b (hq).1
  obtain ⟨g1a, g2a, g3a, g4a, g5a⟩ := hc.1 _ hla
  obtain ⟨g1b, g2b, g3b, g4b, g5b⟩ := hc.1 _ hlb
  refine zy_n 1 (mr := zm_m178) rfl (show _ = some (1, [(0, .ref 0), (1, .int a), (2, .int u), (3, .int b), (4, .int v), (5, .int c)], [.int a]) from rfl) ?_
  refine zy_c (mr := zm_m178) (mc := zm_m19) rfl rfl rfl rfl rfl ?_
  refine zh_ipE.mono (fun q h' hq => ?_)
  obtain ⟨hez, rfl⟩ := hq
  rw [hez]
  rw [if_pos (show (0 : Int32).toInt ≤ a.toInt ∧ a.toInt ≤ (3 : Int32).toInt from by rw [show (0 : Int32).toInt = 0 from rfl, show (3 : Int32).toInt = 3 from rfl]; exact hp)]
  refine zy_b (mr := zm_m178) rfl rfl (show _ = some (7, []) from rfl) ?_
  refine zy_n 1 (mr := zm_m178) rfl (show _ = some (8, [(0, .ref 0), (1, .int a), (2, .int u), (3, .int b), (4, .int v), (5, .int c)], [.int b]) from rfl) ?_
  refine zy_c (mr := zm_m178) (mc := zm_m19) rfl rfl rfl rfl rfl ?_
  refine zh_ipE.mono (fun q h' hq => ?_)
  obtain ⟨hez, rfl⟩ := hq
  rw [hez]
  rw [if_pos (show (0 : Int32).toInt ≤ b.toInt ∧ b.toInt ≤ (3 : Int32).toInt from by rw [show (0 : Int32).toInt = 0 from rfl, show (3 : Int32).toInt = 3 from rfl]; exact hq)]
  refine zy_b (mr := zm_m178) rfl rfl (show _ = some (17, []) from rfl) ?_
  refine zy_n 1 (mr := zm_m178) rfl (show _ = some (18, [(0, .ref 0), (1, .int a), (2, .int u), (3, .int b), (4, .int v), (5, .int c)], [.ref 0]) from rfl) ?_
  refine zk_get (mr := zm_m178) rfl rfl hH (hH.2.2 0 rfl) rfl (xfo_ref (k := 0) (f := 12) (a := 45) hH rfl rfl rfl) ?_
  refine zy_n 1 (mr := zm_m178) rfl (show _ = some (22, [(0, .ref 0), (1, .int a), (2, .int u), (3, .int b), (4, .int v), (5, .int c)], [.int a, .ref 45]) from rfl) ?_
  refine zy_c (mr := zm_m178) (mc := zm_m20) rfl rfl (zk_co (A := [.int a]) hH rfl rfl rfl rfl) rfl rfl ?_
  refine (zh_hasE hH hc hp).mono (fun q h' hq => ?_)
  obtain ⟨hez, rfl⟩ := hq
  rw [hez]
  rw [if_pos hn]
  refine zy_b (mr := zm_m178) rfl rfl (show _ = some (28, []) from rfl) ?_
  refine zy_n 1 (mr := zm_m178) rfl (show _ = some (29, [(0, .ref 0), (1, .int a), (2, .int u), (3, .int b), (4, .int v), (5, .int c)], [.ref 0]) from rfl) ?_
  refine zk_get (mr := zm_m178) rfl rfl hH (hH.2.2 0 rfl) rfl (xfo_ref (k := 0) (f := 12) (a := 45) hH rfl rfl rfl) ?_
  refine zy_n 1 (mr := zm_m178) rfl (show _ = some (33, [(0, .ref 0), (1, .int a), (2, .int u), (3, .int b), (4, .int v), (5, .int c)], [.int b, .ref 45]) from rfl) ?_
  refine zy_c (mr := zm_m178) (mc := zm_m20) rfl rfl (zk_co (A := [.int b]) hH rfl rfl rfl rfl) rfl rfl ?_
  refine (zh_hasE hH hc hq).mono (fun q h' hq => ?_)
  obtain ⟨hez, rfl⟩ := hq
  rw [hez]
  rw [if_pos hm]
  refine zy_b (mr := zm_m178) rfl rfl (show _ = some (42, []) from rfl) ?_
  refine zy_n 1 (mr := zm_m178) rfl (show _ = some (43, [(0, .ref 0), (1, .int a), (2, .int u), (3, .int b), (4, .int v), (5, .int c)], [.ref 0]) from rfl) ?_
  refine zk_get (mr := zm_m178) rfl rfl hH (hH.2.2 0 rfl) rfl (xfo_ref (k := 0) (f := 12) (a := 45) hH rfl rfl rfl) ?_
  refine zk_get (mr := zm_m178) rfl rfl hH (hH.2.2 45 rfl) rfl (xfo_ref (k := 45) (f := 1) (a := 51) hH rfl rfl rfl) ?_
  refine zy_n 1 (mr := zm_m178) rfl (show _ = some (50, [(0, .ref 0), (1, .int a), (2, .int u), (3, .int b), (4, .int v), (5, .int c)], [.int a, .ref 51]) from rfl) ?_
  refine zk_ild (mr := zm_m178) rfl rfl hH (hH.2.2 51 rfl) rfl g1a hja ?_
  refine zy_n 1 (mr := zm_m178) rfl (show _ = some (52, [(0, .ref 0), (1, .int a), (2, .int u), (3, .int b), (4, .int v), (5, .int c)], [.ref 0, .int (wd a.toInt.toNat)]) from rfl) ?_
  refine zk_get (mr := zm_m178) rfl rfl hH (hH.2.2 0 rfl) rfl (xfo_ref (k := 0) (f := 12) (a := 45) hH rfl rfl rfl) ?_
  refine zk_get (mr := zm_m178) rfl rfl hH (hH.2.2 45 rfl) rfl (xfo_ref (k := 45) (f := 1) (a := 51) hH rfl rfl rfl) ?_
  refine zy_n 1 (mr := zm_m178) rfl (show _ = some (59, [(0, .ref 0), (1, .int a), (2, .int u), (3, .int b), (4, .int v), (5, .int c)], [.int b, .ref 51, .int (wd a.toInt.toNat)]) from rfl) ?_
  refine zk_ild (mr := zm_m178) rfl rfl hH (hH.2.2 51 rfl) rfl g1b hjb ?_
  refine zy_b (mr := zm_m178) rfl rfl (show _ = some (zm_ic .eq (wd a.toInt.toNat) (wd b.toInt.toNat) 66 63, []) from rfl) ?_
  refine zc_eq (fun _ => ?_) (fun e => absurd hd e)
  by_cases rA : 0 ≤ u.toInt ∧ 0 ≤ c.toInt ∧ u.toInt + c.toInt ≤ (sz a.toInt.toNat).toInt
  rotate_left
  · refine zy_n 1 (mr := zm_m178) rfl (show _ = some (67, [(0, .ref 0), (1, .int a), (2, .int u), (3, .int b), (4, .int v), (5, .int c)], [.ref 0]) from rfl) ?_
    refine zk_get (mr := zm_m178) rfl rfl hH (hH.2.2 0 rfl) rfl (xfo_ref (k := 0) (f := 12) (a := 45) hH rfl rfl rfl) ?_
    refine zy_n 3 (mr := zm_m178) rfl (show _ = some (74, [(0, .ref 0), (1, .int a), (2, .int u), (3, .int b), (4, .int v), (5, .int c)], [.int c, .int u, .int a, .ref 45]) from rfl) ?_
    refine zy_c (mr := zm_m178) (mc := zm_m179) rfl rfl (zk_co (A := [.int a, .int u, .int c]) hH rfl rfl rfl rfl) rfl rfl ?_
    refine (zh_rchE hH hc hp).mono (fun q h' hq => ?_)
    obtain ⟨hez, rfl⟩ := hq
    rw [hez]
    rw [if_neg rA]
    refine zy_b (mr := zm_m178) rfl rfl (show _ = some (95, []) from rfl) ?_
    refine zy_n 1 (mr := zm_m178) rfl (show _ = some (97, [(0, .ref 0), (1, .int a), (2, .int u), (3, .int b), (4, .int v), (5, .int c)], [.int (-6)]) from rfl) ?_
    refine zy_r (mr := zm_m178) rfl rfl (show _ = some (some (.int (-6))) from rfl) ⟨rfl, τ, hH, hX, Nat.le_add_right _ _, xF_refl _ _ _, ⟨rp, hc⟩⟩
  have rB : ¬ (0 ≤ v.toInt ∧ 0 ≤ c.toInt ∧ v.toInt + c.toInt ≤ (sz b.toInt.toNat).toInt) := fun z => hr ⟨rA, z⟩
  refine zy_n 1 (mr := zm_m178) rfl (show _ = some (67, [(0, .ref 0), (1, .int a), (2, .int u), (3, .int b), (4, .int v), (5, .int c)], [.ref 0]) from rfl) ?_
  refine zk_get (mr := zm_m178) rfl rfl hH (hH.2.2 0 rfl) rfl (xfo_ref (k := 0) (f := 12) (a := 45) hH rfl rfl rfl) ?_
  refine zy_n 3 (mr := zm_m178) rfl (show _ = some (74, [(0, .ref 0), (1, .int a), (2, .int u), (3, .int b), (4, .int v), (5, .int c)], [.int c, .int u, .int a, .ref 45]) from rfl) ?_
  refine zy_c (mr := zm_m178) (mc := zm_m179) rfl rfl (zk_co (A := [.int a, .int u, .int c]) hH rfl rfl rfl rfl) rfl rfl ?_
  refine (zh_rchE hH hc hp).mono (fun q h' hq => ?_)
  obtain ⟨hez, rfl⟩ := hq
  rw [hez]
  rw [if_pos rA]
  refine zy_b (mr := zm_m178) rfl rfl (show _ = some (80, []) from rfl) ?_
  refine zy_n 1 (mr := zm_m178) rfl (show _ = some (81, [(0, .ref 0), (1, .int a), (2, .int u), (3, .int b), (4, .int v), (5, .int c)], [.ref 0]) from rfl) ?_
  refine zk_get (mr := zm_m178) rfl rfl hH (hH.2.2 0 rfl) rfl (xfo_ref (k := 0) (f := 12) (a := 45) hH rfl rfl rfl) ?_
  refine zy_n 3 (mr := zm_m178) rfl (show _ = some (89, [(0, .ref 0), (1, .int a), (2, .int u), (3, .int b), (4, .int v), (5, .int c)], [.int c, .int v, .int b, .ref 45]) from rfl) ?_
  refine zy_c (mr := zm_m178) (mc := zm_m179) rfl rfl (zk_co (A := [.int b, .int v, .int c]) hH rfl rfl rfl rfl) rfl rfl ?_
  refine (zh_rchE hH hc hq).mono (fun q h' hq => ?_)
  obtain ⟨hez, rfl⟩ := hq
  rw [hez]
  rw [if_neg rB]
  refine zy_b (mr := zm_m178) rfl rfl (show _ = some (95, []) from rfl) ?_
  refine zy_n 1 (mr := zm_m178) rfl (show _ = some (97, [(0, .ref 0), (1, .int a), (2, .int u), (3, .int b), (4, .int v), (5, .int c)], [.int (-6)]) from rfl) ?_
  refine zy_r (mr := zm_m178) rfl rfl (show _ = some (some (.int (-6))) from rfl) ⟨rfl, τ, hH, hX, Nat.le_add_right _ _, xF_refl _ _ _, ⟨rp, hc⟩⟩
theorem yp_x_ok {d : Nat} {a u b v c : Int32} (hH : xHI xKT xSG τ h) (hX : xX τ h) (hc : xRXa rp τ h wd sz nm) (hp : 0 ≤ a.toInt ∧ a.toInt ≤ 3) (hq : 0 ≤ b.toInt ∧ b.toInt ≤ 3) (hn : ¬ wd a.toInt.toNat = -1) (hm : ¬ wd b.toInt.toNat = -1) (hw : 0 ≤ (wd a.toInt.toNat).toInt) (hw2 : 0 ≤ (wd b.toInt.toNat).toInt) (hz : 0 ≤ (sz a.toInt.toNat).toInt ∧ (sz a.toInt.toNat).toInt ≤ 60) (hz2 : 0 ≤ (sz b.toInt.toNat).toInt ∧ (sz b.toInt.toNat).toInt ≤ 60) (hd : wd a.toInt.toNat = wd b.toInt.toNat) (rA : 0 ≤ u.toInt ∧ 0 ≤ c.toInt ∧ u.toInt + c.toInt ≤ (sz a.toInt.toNat).toInt) (rB : 0 ≤ v.toInt ∧ 0 ≤ c.toInt ∧ v.toInt + c.toInt ≤ (sz b.toInt.toNat).toInt) : zm_Y og (d + 2) 178 0 [(0, .ref 0), (1, .int a), (2, .int u), (3, .int b), (4, .int v), (5, .int c)] [] h (xCO τ h 0 [(211, 0)] (fun r => r = some (.int 0)) (fun τ1 h1 => xRX τ1 h1 wd sz (xpst nm a.toInt.toNat u.toInt.toNat b.toInt.toNat v.toInt.toNat c.toInt.toNat))) := by
  have hla : a.toInt.toNat < 4 := by omega
  have hja := xnat a (hp).1
  obtain ⟨g1a, g2a, g3a, g4a, g5a⟩ := hc.1 _ hla
  have hlb : b.toInt.toNat < 4 := by omega
  have hjb := xnat b (hq).1
  obtain ⟨g1a, g2a, g3a, g4a, g5a⟩ := hc.1 _ hla
  obtain ⟨g1b, g2b, g3b, g4b, g5b⟩ := hc.1 _ hlb
  refine zy_n 1 (mr := zm_m178) rfl (show _ = some (1, [(0, .ref 0), (1, .int a), (2, .int u), (3, .int b), (4, .int v), (5, .int c)], [.int a]) from rfl) ?_
  refine zy_c (mr := zm_m178) (mc := zm_m19) rfl rfl rfl rfl rfl ?_
  refine zh_ipE.mono (fun q h' hq => ?_)
  obtain ⟨hez, rfl⟩ := hq
  rw [hez]
  rw [if_pos (show (0 : Int32).toInt ≤ a.toInt ∧ a.toInt ≤ (3 : Int32).toInt from by rw [show (0 : Int32).toInt = 0 from rfl, show (3 : Int32).toInt = 3 from rfl]; exact hp)]
  refine zy_b (mr := zm_m178) rfl rfl (show _ = some (7, []) from rfl) ?_
  refine zy_n 1 (mr := zm_m178) rfl (show _ = some (8, [(0, .ref 0), (1, .int a), (2, .int u), (3, .int b), (4, .int v), (5, .int c)], [.int b]) from rfl) ?_
  refine zy_c (mr := zm_m178) (mc := zm_m19) rfl rfl rfl rfl rfl ?_
  refine zh_ipE.mono (fun q h' hq => ?_)
  obtain ⟨hez, rfl⟩ := hq
  rw [hez]
  rw [if_pos (show (0 : Int32).toInt ≤ b.toInt ∧ b.toInt ≤ (3 : Int32).toInt from by rw [show (0 : Int32).toInt = 0 from rfl, show (3 : Int32).toInt = 3 from rfl]; exact hq)]
  refine zy_b (mr := zm_m178) rfl rfl (show _ = some (17, []) from rfl) ?_
  refine zy_n 1 (mr := zm_m178) rfl (show _ = some (18, [(0, .ref 0), (1, .int a), (2, .int u), (3, .int b), (4, .int v), (5, .int c)], [.ref 0]) from rfl) ?_
  refine zk_get (mr := zm_m178) rfl rfl hH (hH.2.2 0 rfl) rfl (xfo_ref (k := 0) (f := 12) (a := 45) hH rfl rfl rfl) ?_
  refine zy_n 1 (mr := zm_m178) rfl (show _ = some (22, [(0, .ref 0), (1, .int a), (2, .int u), (3, .int b), (4, .int v), (5, .int c)], [.int a, .ref 45]) from rfl) ?_
  refine zy_c (mr := zm_m178) (mc := zm_m20) rfl rfl (zk_co (A := [.int a]) hH rfl rfl rfl rfl) rfl rfl ?_
  refine (zh_hasE hH hc hp).mono (fun q h' hq => ?_)
  obtain ⟨hez, rfl⟩ := hq
  rw [hez]
  rw [if_pos hn]
  refine zy_b (mr := zm_m178) rfl rfl (show _ = some (28, []) from rfl) ?_
  refine zy_n 1 (mr := zm_m178) rfl (show _ = some (29, [(0, .ref 0), (1, .int a), (2, .int u), (3, .int b), (4, .int v), (5, .int c)], [.ref 0]) from rfl) ?_
  refine zk_get (mr := zm_m178) rfl rfl hH (hH.2.2 0 rfl) rfl (xfo_ref (k := 0) (f := 12) (a := 45) hH rfl rfl rfl) ?_
  refine zy_n 1 (mr := zm_m178) rfl (show _ = some (33, [(0, .ref 0), (1, .int a), (2, .int u), (3, .int b), (4, .int v), (5, .int c)], [.int b, .ref 45]) from rfl) ?_
  refine zy_c (mr := zm_m178) (mc := zm_m20) rfl rfl (zk_co (A := [.int b]) hH rfl rfl rfl rfl) rfl rfl ?_
  refine (zh_hasE hH hc hq).mono (fun q h' hq => ?_)
  obtain ⟨hez, rfl⟩ := hq
  rw [hez]
  rw [if_pos hm]
  refine zy_b (mr := zm_m178) rfl rfl (show _ = some (42, []) from rfl) ?_
  refine zy_n 1 (mr := zm_m178) rfl (show _ = some (43, [(0, .ref 0), (1, .int a), (2, .int u), (3, .int b), (4, .int v), (5, .int c)], [.ref 0]) from rfl) ?_
  refine zk_get (mr := zm_m178) rfl rfl hH (hH.2.2 0 rfl) rfl (xfo_ref (k := 0) (f := 12) (a := 45) hH rfl rfl rfl) ?_
  refine zk_get (mr := zm_m178) rfl rfl hH (hH.2.2 45 rfl) rfl (xfo_ref (k := 45) (f := 1) (a := 51) hH rfl rfl rfl) ?_
  refine zy_n 1 (mr := zm_m178) rfl (show _ = some (50, [(0, .ref 0), (1, .int a), (2, .int u), (3, .int b), (4, .int v), (5, .int c)], [.int a, .ref 51]) from rfl) ?_
  refine zk_ild (mr := zm_m178) rfl rfl hH (hH.2.2 51 rfl) rfl g1a hja ?_
  refine zy_n 1 (mr := zm_m178) rfl (show _ = some (52, [(0, .ref 0), (1, .int a), (2, .int u), (3, .int b), (4, .int v), (5, .int c)], [.ref 0, .int (wd a.toInt.toNat)]) from rfl) ?_
  refine zk_get (mr := zm_m178) rfl rfl hH (hH.2.2 0 rfl) rfl (xfo_ref (k := 0) (f := 12) (a := 45) hH rfl rfl rfl) ?_
  refine zk_get (mr := zm_m178) rfl rfl hH (hH.2.2 45 rfl) rfl (xfo_ref (k := 45) (f := 1) (a := 51) hH rfl rfl rfl) ?_
  refine zy_n 1 (mr := zm_m178) rfl (show _ = some (59, [(0, .ref 0), (1, .int a), (2, .int u), (3, .int b), (4, .int v), (5, .int c)], [.int b, .ref 51, .int (wd a.toInt.toNat)]) from rfl) ?_
  refine zk_ild (mr := zm_m178) rfl rfl hH (hH.2.2 51 rfl) rfl g1b hjb ?_
  refine zy_b (mr := zm_m178) rfl rfl (show _ = some (zm_ic .eq (wd a.toInt.toNat) (wd b.toInt.toNat) 66 63, []) from rfl) ?_
  refine zc_eq (fun _ => ?_) (fun e => absurd hd e)
  refine zy_n 1 (mr := zm_m178) rfl (show _ = some (67, [(0, .ref 0), (1, .int a), (2, .int u), (3, .int b), (4, .int v), (5, .int c)], [.ref 0]) from rfl) ?_
  refine zk_get (mr := zm_m178) rfl rfl hH (hH.2.2 0 rfl) rfl (xfo_ref (k := 0) (f := 12) (a := 45) hH rfl rfl rfl) ?_
  refine zy_n 3 (mr := zm_m178) rfl (show _ = some (74, [(0, .ref 0), (1, .int a), (2, .int u), (3, .int b), (4, .int v), (5, .int c)], [.int c, .int u, .int a, .ref 45]) from rfl) ?_
  refine zy_c (mr := zm_m178) (mc := zm_m179) rfl rfl (zk_co (A := [.int a, .int u, .int c]) hH rfl rfl rfl rfl) rfl rfl ?_
  refine (zh_rchE hH hc hp).mono (fun q h' hq => ?_)
  obtain ⟨hez, rfl⟩ := hq
  rw [hez]
  rw [if_pos rA]
  refine zy_b (mr := zm_m178) rfl rfl (show _ = some (80, []) from rfl) ?_
  refine zy_n 1 (mr := zm_m178) rfl (show _ = some (81, [(0, .ref 0), (1, .int a), (2, .int u), (3, .int b), (4, .int v), (5, .int c)], [.ref 0]) from rfl) ?_
  refine zk_get (mr := zm_m178) rfl rfl hH (hH.2.2 0 rfl) rfl (xfo_ref (k := 0) (f := 12) (a := 45) hH rfl rfl rfl) ?_
  refine zy_n 3 (mr := zm_m178) rfl (show _ = some (89, [(0, .ref 0), (1, .int a), (2, .int u), (3, .int b), (4, .int v), (5, .int c)], [.int c, .int v, .int b, .ref 45]) from rfl) ?_
  refine zy_c (mr := zm_m178) (mc := zm_m179) rfl rfl (zk_co (A := [.int b, .int v, .int c]) hH rfl rfl rfl rfl) rfl rfl ?_
  refine (zh_rchE hH hc hq).mono (fun q h' hq => ?_)
  obtain ⟨hez, rfl⟩ := hq
  rw [hez]
  rw [if_pos rB]
  refine zy_b (mr := zm_m178) rfl rfl (show _ = some (98, []) from rfl) ?_
  have hju := xnat u rA.1
  have hjv := xnat v rB.1
  have hjc := xnat c rA.2.1
  refine zy_n 1 (mr := zm_m178) rfl (show _ = some (99, [(0, .ref 0), (1, .int a), (2, .int u), (3, .int b), (4, .int v), (5, .int c)], [.ref 0]) from rfl) ?_
  refine zk_get (mr := zm_m178) rfl rfl hH (hH.2.2 0 rfl) rfl (xfo_ref (k := 0) (f := 12) (a := 45) hH rfl rfl rfl) ?_
  refine zk_get (mr := zm_m178) rfl rfl hH (hH.2.2 45 rfl) rfl (xfo_ref (k := 45) (f := 0) (a := 46) hH rfl rfl rfl) ?_
  refine zy_n 1 (mr := zm_m178) rfl (show _ = some (106, [(0, .ref 0), (1, .int a), (2, .int u), (3, .int b), (4, .int v), (5, .int c)], [.int a, .ref 46]) from rfl) ?_
  refine zk_ald (mr := zm_m178) rfl rfl hH (hH.2.2 46 rfl) rfl rfl g3a hja ?_
  refine zy_n 2 (mr := zm_m178) rfl (show _ = some (109, [(0, .ref 0), (1, .int a), (2, .int u), (3, .int b), (4, .int v), (5, .int c)], [.ref 0, .int u, .ref ((rp a.toInt.toNat))]) from rfl) ?_
  refine zk_get (mr := zm_m178) rfl rfl hH (hH.2.2 0 rfl) rfl (xfo_ref (k := 0) (f := 12) (a := 45) hH rfl rfl rfl) ?_
  refine zk_get (mr := zm_m178) rfl rfl hH (hH.2.2 45 rfl) rfl (xfo_ref (k := 45) (f := 0) (a := 46) hH rfl rfl rfl) ?_
  refine zy_n 1 (mr := zm_m178) rfl (show _ = some (116, [(0, .ref 0), (1, .int a), (2, .int u), (3, .int b), (4, .int v), (5, .int c)], [.int b, .ref 46, .int u, .ref ((rp a.toInt.toNat))]) from rfl) ?_
  refine zk_ald (mr := zm_m178) rfl rfl hH (hH.2.2 46 rfl) rfl rfl g3b hjb ?_
  refine zy_n 2 (mr := zm_m178) rfl (show _ = some (121, [(0, .ref 0), (1, .int a), (2, .int u), (3, .int b), (4, .int v), (5, .int c)], [.int c, .int v, .ref ((rp b.toInt.toNat)), .int u, .ref ((rp a.toInt.toNat))]) from rfl) ?_
  refine zk_cpy (sp := u.toInt.toNat) (dp := v.toInt.toNat) (m := c.toInt.toNat) (mr := zm_m178) rfl rfl rfl rfl hH hX g4a g4b g5a g5b hjc hjv hju (by omega) (by omega) ?_
  intro h1 hH1 hX1 hW1 hs1 hf1 ho1 hF1
  have hc := xRXa_cpy (p := a.toInt.toNat) (i := u.toInt.toNat) (k := v.toInt.toNat) (n := c.toInt.toNat) hH hc hlb hs1 ho1
  refine zy_n 1 (mr := zm_m178) rfl (show _ = some (125, [(0, .ref 0), (1, .int a), (2, .int u), (3, .int b), (4, .int v), (5, .int c)], [.int 0]) from rfl) ?_
  refine zy_r (mr := zm_m178) rfl rfl (show _ = some (some (.int 0)) from rfl) ⟨rfl, τ, hH1, hX1, by omega, (hF1 _ rfl), ⟨rp, hc⟩⟩
theorem yp_m_bad {d : Nat} {a u b v c : Int32} (hH : xHI xKT xSG τ h) (hX : xX τ h) (hc : xRM h wd sz nm) (hb : ¬ ((0 ≤ a.toInt ∧ a.toInt ≤ 3) ∧ 0 ≤ b.toInt ∧ b.toInt ≤ 3)) : zm_Y og (d + 2) 187 0 [(0, .ref 55), (1, .int a), (2, .int u), (3, .int b), (4, .int v), (5, .int c)] [] h (xCO τ h 0 [(55, 0), (58, 0), (59, 0)] (fun r => r = some (.int (-2))) (fun τ1 h1 => xRM h1 wd sz nm)) := by
  by_cases c0 : 0 ≤ a.toInt ∧ a.toInt ≤ 3
  rotate_left
  · refine zy_n 2 (mr := zm_m187) rfl (show _ = some (2, [(0, .ref 55), (1, .int a), (2, .int u), (3, .int b), (4, .int v), (5, .int c)], [.int 0, .ref 55]) from rfl) ?_
    refine zk_put (mr := zm_m187) rfl rfl hH hX (hH.2.2 55 rfl) rfl rfl rfl rfl ⟨_, List.mem_cons_self, ⟨_, rfl, by decide, by decide⟩⟩ ?_
    intro h1 hH1 hX1 hW1 hs1 hg1 hF1
    have hc := xRM_F hH (hF1 [(55, 0)] rfl) rfl hc
    refine zy_n 1 (mr := zm_m187) rfl (show _ = some (6, [(0, .ref 55), (1, .int a), (2, .int u), (3, .int b), (4, .int v), (5, .int c)], [.int a]) from rfl) ?_
    refine zy_c (mr := zm_m187) (mc := zm_m182) rfl rfl rfl rfl rfl ?_
    refine zh_mpE.mono (fun q h' hq => ?_)
    obtain ⟨hez, rfl⟩ := hq
    rw [hez]
    rw [if_neg (show ¬ ((0 : Int64).toInt ≤ a.toInt64.toInt ∧ a.toInt64.toInt ≤ (3 : Int64).toInt) from by rw [Int32.toInt_toInt64, show (0 : Int64).toInt = 0 from rfl, show (3 : Int64).toInt = 3 from rfl]; exact c0)]
    refine zy_b (mr := zm_m187) rfl rfl (show _ = some (19, []) from rfl) ?_
    refine zy_n 1 (mr := zm_m187) rfl (show _ = some (21, [(0, .ref 55), (1, .int a), (2, .int u), (3, .int b), (4, .int v), (5, .int c)], [.int (-2)]) from rfl) ?_
    refine zy_r (mr := zm_m187) rfl rfl (show _ = some (some (.int (-2))) from rfl) ⟨rfl, τ, hH1, hX1, by omega, (hF1 _ rfl), hc⟩
  by_cases c1 : 0 ≤ b.toInt ∧ b.toInt ≤ 3
  rotate_left
  · refine zy_n 2 (mr := zm_m187) rfl (show _ = some (2, [(0, .ref 55), (1, .int a), (2, .int u), (3, .int b), (4, .int v), (5, .int c)], [.int 0, .ref 55]) from rfl) ?_
    refine zk_put (mr := zm_m187) rfl rfl hH hX (hH.2.2 55 rfl) rfl rfl rfl rfl ⟨_, List.mem_cons_self, ⟨_, rfl, by decide, by decide⟩⟩ ?_
    intro h1 hH1 hX1 hW1 hs1 hg1 hF1
    have hc := xRM_F hH (hF1 [(55, 0)] rfl) rfl hc
    refine zy_n 1 (mr := zm_m187) rfl (show _ = some (6, [(0, .ref 55), (1, .int a), (2, .int u), (3, .int b), (4, .int v), (5, .int c)], [.int a]) from rfl) ?_
    refine zy_c (mr := zm_m187) (mc := zm_m182) rfl rfl rfl rfl rfl ?_
    refine zh_mpE.mono (fun q h' hq => ?_)
    obtain ⟨hez, rfl⟩ := hq
    rw [hez]
    rw [if_pos (show (0 : Int64).toInt ≤ a.toInt64.toInt ∧ a.toInt64.toInt ≤ (3 : Int64).toInt from by rw [Int32.toInt_toInt64, show (0 : Int64).toInt = 0 from rfl, show (3 : Int64).toInt = 3 from rfl]; exact c0)]
    refine zy_b (mr := zm_m187) rfl rfl (show _ = some (12, []) from rfl) ?_
    refine zy_n 1 (mr := zm_m187) rfl (show _ = some (13, [(0, .ref 55), (1, .int a), (2, .int u), (3, .int b), (4, .int v), (5, .int c)], [.int b]) from rfl) ?_
    refine zy_c (mr := zm_m187) (mc := zm_m182) rfl rfl rfl rfl rfl ?_
    refine zh_mpE.mono (fun q h' hq => ?_)
    obtain ⟨hez, rfl⟩ := hq
    rw [hez]
    rw [if_neg (show ¬ ((0 : Int64).toInt ≤ b.toInt64.toInt ∧ b.toInt64.toInt ≤ (3 : Int64).toInt) from by rw [Int32.toInt_toInt64, show (0 : Int64).toInt = 0 from rfl, show (3 : Int64).toInt = 3 from rfl]; exact c1)]
    refine zy_b (mr := zm_m187) rfl rfl (show _ = some (19, []) from rfl) ?_
    refine zy_n 1 (mr := zm_m187) rfl (show _ = some (21, [(0, .ref 55), (1, .int a), (2, .int u), (3, .int b), (4, .int v), (5, .int c)], [.int (-2)]) from rfl) ?_
    refine zy_r (mr := zm_m187) rfl rfl (show _ = some (some (.int (-2))) from rfl) ⟨rfl, τ, hH1, hX1, by omega, (hF1 _ rfl), hc⟩
  exact absurd ⟨c0, c1⟩ hb
theorem yp_m_no1 {d : Nat} {a u b v c : Int32} (hH : xHI xKT xSG τ h) (hX : xX τ h) (hc : xRM h wd sz nm) (hp : 0 ≤ a.toInt ∧ a.toInt ≤ 3) (hq : 0 ≤ b.toInt ∧ b.toInt ≤ 3) (hn : wd a.toInt.toNat = -1) : zm_Y og (d + 2) 187 0 [(0, .ref 55), (1, .int a), (2, .int u), (3, .int b), (4, .int v), (5, .int c)] [] h (xCO τ h 0 [(55, 0), (58, 0), (59, 0)] (fun r => r = some (.int (-5))) (fun τ1 h1 => xRM h1 wd sz nm)) := by
  have hla : a.toInt.toNat < 4 := by omega
  have hja := xnat a (hp).1
  obtain ⟨g1a, g2a, g3a⟩ := hc _ hla
  have hlb : b.toInt.toNat < 4 := by omega
  have hjb := xnat b (hq).1
  obtain ⟨g1a, g2a, g3a⟩ := hc _ hla
  obtain ⟨g1b, g2b, g3b⟩ := hc _ hlb
  refine zy_n 2 (mr := zm_m187) rfl (show _ = some (2, [(0, .ref 55), (1, .int a), (2, .int u), (3, .int b), (4, .int v), (5, .int c)], [.int 0, .ref 55]) from rfl) ?_
  refine zk_put (mr := zm_m187) rfl rfl hH hX (hH.2.2 55 rfl) rfl rfl rfl rfl ⟨_, List.mem_cons_self, ⟨_, rfl, by decide, by decide⟩⟩ ?_
  intro h1 hH1 hX1 hW1 hs1 hg1 hF1
  have hc := xRM_F hH (hF1 [(55, 0)] rfl) rfl hc
  obtain ⟨g1a, g2a, g3a⟩ := hc _ hla
  obtain ⟨g1b, g2b, g3b⟩ := hc _ hlb
  refine zy_n 1 (mr := zm_m187) rfl (show _ = some (6, [(0, .ref 55), (1, .int a), (2, .int u), (3, .int b), (4, .int v), (5, .int c)], [.int a]) from rfl) ?_
  refine zy_c (mr := zm_m187) (mc := zm_m182) rfl rfl rfl rfl rfl ?_
  refine zh_mpE.mono (fun q h' hq => ?_)
  obtain ⟨hez, rfl⟩ := hq
  rw [hez]
  rw [if_pos (show (0 : Int64).toInt ≤ a.toInt64.toInt ∧ a.toInt64.toInt ≤ (3 : Int64).toInt from by rw [Int32.toInt_toInt64, show (0 : Int64).toInt = 0 from rfl, show (3 : Int64).toInt = 3 from rfl]; exact hp)]
  refine zy_b (mr := zm_m187) rfl rfl (show _ = some (12, []) from rfl) ?_
  refine zy_n 1 (mr := zm_m187) rfl (show _ = some (13, [(0, .ref 55), (1, .int a), (2, .int u), (3, .int b), (4, .int v), (5, .int c)], [.int b]) from rfl) ?_
  refine zy_c (mr := zm_m187) (mc := zm_m182) rfl rfl rfl rfl rfl ?_
  refine zh_mpE.mono (fun q h' hq => ?_)
  obtain ⟨hez, rfl⟩ := hq
  rw [hez]
  rw [if_pos (show (0 : Int64).toInt ≤ b.toInt64.toInt ∧ b.toInt64.toInt ≤ (3 : Int64).toInt from by rw [Int32.toInt_toInt64, show (0 : Int64).toInt = 0 from rfl, show (3 : Int64).toInt = 3 from rfl]; exact hq)]
  refine zy_b (mr := zm_m187) rfl rfl (show _ = some (22, []) from rfl) ?_
  refine zy_n 1 (mr := zm_m187) rfl (show _ = some (23, [(0, .ref 55), (1, .int a), (2, .int u), (3, .int b), (4, .int v), (5, .int c)], [.ref 55]) from rfl) ?_
  refine zk_get (mr := zm_m187) rfl rfl hH1 (hH1.2.2 55 rfl) rfl (xfo_ref (k := 55) (f := 1) (a := 56) hH1 rfl rfl rfl) ?_
  refine zy_n 1 (mr := zm_m187) rfl (show _ = some (27, [(0, .ref 55), (1, .int a), (2, .int u), (3, .int b), (4, .int v), (5, .int c)], [.int a, .ref 56]) from rfl) ?_
  refine zk_ild (mr := zm_m187) rfl rfl hH1 (hH1.2.2 56 rfl) rfl g1a hja ?_
  refine zy_b (mr := zm_m187) rfl rfl (show _ = some (zm_if .lt (wd a.toInt.toNat) 40 31, []) from rfl) ?_
  refine zi_lt (fun _ => ?_) (fun e => absurd (by rw [hn]; decide) e)
  refine zy_n 1 (mr := zm_m187) rfl (show _ = some (42, [(0, .ref 55), (1, .int a), (2, .int u), (3, .int b), (4, .int v), (5, .int c)], [.int (-5)]) from rfl) ?_
  refine zy_r (mr := zm_m187) rfl rfl (show _ = some (some (.int (-5))) from rfl) ⟨rfl, τ, hH1, hX1, by omega, (hF1 _ rfl), hc⟩
theorem yp_m_no2 {d : Nat} {a u b v c : Int32} (hH : xHI xKT xSG τ h) (hX : xX τ h) (hc : xRM h wd sz nm) (hp : 0 ≤ a.toInt ∧ a.toInt ≤ 3) (hq : 0 ≤ b.toInt ∧ b.toInt ≤ 3) (hn : ¬ wd a.toInt.toNat = -1) (hw : 0 ≤ (wd a.toInt.toNat).toInt) (hm : wd b.toInt.toNat = -1) : zm_Y og (d + 2) 187 0 [(0, .ref 55), (1, .int a), (2, .int u), (3, .int b), (4, .int v), (5, .int c)] [] h (xCO τ h 0 [(55, 0), (58, 0), (59, 0)] (fun r => r = some (.int (-5))) (fun τ1 h1 => xRM h1 wd sz nm)) := by
  have hla : a.toInt.toNat < 4 := by omega
  have hja := xnat a (hp).1
  obtain ⟨g1a, g2a, g3a⟩ := hc _ hla
  have hlb : b.toInt.toNat < 4 := by omega
  have hjb := xnat b (hq).1
  obtain ⟨g1a, g2a, g3a⟩ := hc _ hla
  obtain ⟨g1b, g2b, g3b⟩ := hc _ hlb
  refine zy_n 2 (mr := zm_m187) rfl (show _ = some (2, [(0, .ref 55), (1, .int a), (2, .int u), (3, .int b), (4, .int v), (5, .int c)], [.int 0, .ref 55]) from rfl) ?_
  refine zk_put (mr := zm_m187) rfl rfl hH hX (hH.2.2 55 rfl) rfl rfl rfl rfl ⟨_, List.mem_cons_self, ⟨_, rfl, by decide, by decide⟩⟩ ?_
  intro h1 hH1 hX1 hW1 hs1 hg1 hF1
  have hc := xRM_F hH (hF1 [(55, 0)] rfl) rfl hc
  obtain ⟨g1a, g2a, g3a⟩ := hc _ hla
  obtain ⟨g1b, g2b, g3b⟩ := hc _ hlb
  refine zy_n 1 (mr := zm_m187) rfl (show _ = some (6, [(0, .ref 55), (1, .int a), (2, .int u), (3, .int b), (4, .int v), (5, .int c)], [.int a]) from rfl) ?_
  refine zy_c (mr := zm_m187) (mc := zm_m182) rfl rfl rfl rfl rfl ?_
  refine zh_mpE.mono (fun q h' hq => ?_)
  obtain ⟨hez, rfl⟩ := hq
  rw [hez]
  rw [if_pos (show (0 : Int64).toInt ≤ a.toInt64.toInt ∧ a.toInt64.toInt ≤ (3 : Int64).toInt from by rw [Int32.toInt_toInt64, show (0 : Int64).toInt = 0 from rfl, show (3 : Int64).toInt = 3 from rfl]; exact hp)]
  refine zy_b (mr := zm_m187) rfl rfl (show _ = some (12, []) from rfl) ?_
  refine zy_n 1 (mr := zm_m187) rfl (show _ = some (13, [(0, .ref 55), (1, .int a), (2, .int u), (3, .int b), (4, .int v), (5, .int c)], [.int b]) from rfl) ?_
  refine zy_c (mr := zm_m187) (mc := zm_m182) rfl rfl rfl rfl rfl ?_
  refine zh_mpE.mono (fun q h' hq => ?_)
  obtain ⟨hez, rfl⟩ := hq
  rw [hez]
  rw [if_pos (show (0 : Int64).toInt ≤ b.toInt64.toInt ∧ b.toInt64.toInt ≤ (3 : Int64).toInt from by rw [Int32.toInt_toInt64, show (0 : Int64).toInt = 0 from rfl, show (3 : Int64).toInt = 3 from rfl]; exact hq)]
  refine zy_b (mr := zm_m187) rfl rfl (show _ = some (22, []) from rfl) ?_
  refine zy_n 1 (mr := zm_m187) rfl (show _ = some (23, [(0, .ref 55), (1, .int a), (2, .int u), (3, .int b), (4, .int v), (5, .int c)], [.ref 55]) from rfl) ?_
  refine zk_get (mr := zm_m187) rfl rfl hH1 (hH1.2.2 55 rfl) rfl (xfo_ref (k := 55) (f := 1) (a := 56) hH1 rfl rfl rfl) ?_
  refine zy_n 1 (mr := zm_m187) rfl (show _ = some (27, [(0, .ref 55), (1, .int a), (2, .int u), (3, .int b), (4, .int v), (5, .int c)], [.int a, .ref 56]) from rfl) ?_
  refine zk_ild (mr := zm_m187) rfl rfl hH1 (hH1.2.2 56 rfl) rfl g1a hja ?_
  refine zy_b (mr := zm_m187) rfl rfl (show _ = some (zm_if .lt (wd a.toInt.toNat) 40 31, []) from rfl) ?_
  refine zi_lt (fun e => absurd e (fun z => by have z2 := Int32.lt_iff_toInt_lt.mp z; have e0 : (0 : Int32).toInt = 0 := rfl; omega)) (fun _ => ?_)
  refine zy_n 1 (mr := zm_m187) rfl (show _ = some (32, [(0, .ref 55), (1, .int a), (2, .int u), (3, .int b), (4, .int v), (5, .int c)], [.ref 55]) from rfl) ?_
  refine zk_get (mr := zm_m187) rfl rfl hH1 (hH1.2.2 55 rfl) rfl (xfo_ref (k := 55) (f := 1) (a := 56) hH1 rfl rfl rfl) ?_
  refine zy_n 1 (mr := zm_m187) rfl (show _ = some (36, [(0, .ref 55), (1, .int a), (2, .int u), (3, .int b), (4, .int v), (5, .int c)], [.int b, .ref 56]) from rfl) ?_
  refine zk_ild (mr := zm_m187) rfl rfl hH1 (hH1.2.2 56 rfl) rfl g1b hjb ?_
  refine zy_b (mr := zm_m187) rfl rfl (show _ = some (zm_if .ge (wd b.toInt.toNat) 43 40, []) from rfl) ?_
  refine zi_ge (fun e => absurd e (by rw [hm]; decide)) (fun _ => ?_)
  refine zy_n 1 (mr := zm_m187) rfl (show _ = some (42, [(0, .ref 55), (1, .int a), (2, .int u), (3, .int b), (4, .int v), (5, .int c)], [.int (-5)]) from rfl) ?_
  refine zy_r (mr := zm_m187) rfl rfl (show _ = some (some (.int (-5))) from rfl) ⟨rfl, τ, hH1, hX1, by omega, (hF1 _ rfl), hc⟩
theorem yp_m_dif {d : Nat} {a u b v c : Int32} (hH : xHI xKT xSG τ h) (hX : xX τ h) (hc : xRM h wd sz nm) (hp : 0 ≤ a.toInt ∧ a.toInt ≤ 3) (hq : 0 ≤ b.toInt ∧ b.toInt ≤ 3) (hn : ¬ wd a.toInt.toNat = -1) (hm : ¬ wd b.toInt.toNat = -1) (hw : 0 ≤ (wd a.toInt.toNat).toInt) (hw2 : 0 ≤ (wd b.toInt.toNat).toInt) (hd : ¬ wd a.toInt.toNat = wd b.toInt.toNat) : zm_Y og (d + 2) 187 0 [(0, .ref 55), (1, .int a), (2, .int u), (3, .int b), (4, .int v), (5, .int c)] [] h (xCO τ h 0 [(55, 0), (58, 0), (59, 0)] (fun r => r = some (.int (-7))) (fun τ1 h1 => xRM h1 wd sz nm)) := by
  have hla : a.toInt.toNat < 4 := by omega
  have hja := xnat a (hp).1
  obtain ⟨g1a, g2a, g3a⟩ := hc _ hla
  have hlb : b.toInt.toNat < 4 := by omega
  have hjb := xnat b (hq).1
  obtain ⟨g1a, g2a, g3a⟩ := hc _ hla
  obtain ⟨g1b, g2b, g3b⟩ := hc _ hlb
  refine zy_n 2 (mr := zm_m187) rfl (show _ = some (2, [(0, .ref 55), (1, .int a), (2, .int u), (3, .int b), (4, .int v), (5, .int c)], [.int 0, .ref 55]) from rfl) ?_
  refine zk_put (mr := zm_m187) rfl rfl hH hX (hH.2.2 55 rfl) rfl rfl rfl rfl ⟨_, List.mem_cons_self, ⟨_, rfl, by decide, by decide⟩⟩ ?_
  intro h1 hH1 hX1 hW1 hs1 hg1 hF1
  have hc := xRM_F hH (hF1 [(55, 0)] rfl) rfl hc
  obtain ⟨g1a, g2a, g3a⟩ := hc _ hla
  obtain ⟨g1b, g2b, g3b⟩ := hc _ hlb
  refine zy_n 1 (mr := zm_m187) rfl (show _ = some (6, [(0, .ref 55), (1, .int a), (2, .int u), (3, .int b), (4, .int v), (5, .int c)], [.int a]) from rfl) ?_
  refine zy_c (mr := zm_m187) (mc := zm_m182) rfl rfl rfl rfl rfl ?_
  refine zh_mpE.mono (fun q h' hq => ?_)
  obtain ⟨hez, rfl⟩ := hq
  rw [hez]
  rw [if_pos (show (0 : Int64).toInt ≤ a.toInt64.toInt ∧ a.toInt64.toInt ≤ (3 : Int64).toInt from by rw [Int32.toInt_toInt64, show (0 : Int64).toInt = 0 from rfl, show (3 : Int64).toInt = 3 from rfl]; exact hp)]
  refine zy_b (mr := zm_m187) rfl rfl (show _ = some (12, []) from rfl) ?_
  refine zy_n 1 (mr := zm_m187) rfl (show _ = some (13, [(0, .ref 55), (1, .int a), (2, .int u), (3, .int b), (4, .int v), (5, .int c)], [.int b]) from rfl) ?_
  refine zy_c (mr := zm_m187) (mc := zm_m182) rfl rfl rfl rfl rfl ?_
  refine zh_mpE.mono (fun q h' hq => ?_)
  obtain ⟨hez, rfl⟩ := hq
  rw [hez]
  rw [if_pos (show (0 : Int64).toInt ≤ b.toInt64.toInt ∧ b.toInt64.toInt ≤ (3 : Int64).toInt from by rw [Int32.toInt_toInt64, show (0 : Int64).toInt = 0 from rfl, show (3 : Int64).toInt = 3 from rfl]; exact hq)]
  refine zy_b (mr := zm_m187) rfl rfl (show _ = some (22, []) from rfl) ?_
  refine zy_n 1 (mr := zm_m187) rfl (show _ = some (23, [(0, .ref 55), (1, .int a), (2, .int u), (3, .int b), (4, .int v), (5, .int c)], [.ref 55]) from rfl) ?_
  refine zk_get (mr := zm_m187) rfl rfl hH1 (hH1.2.2 55 rfl) rfl (xfo_ref (k := 55) (f := 1) (a := 56) hH1 rfl rfl rfl) ?_
  refine zy_n 1 (mr := zm_m187) rfl (show _ = some (27, [(0, .ref 55), (1, .int a), (2, .int u), (3, .int b), (4, .int v), (5, .int c)], [.int a, .ref 56]) from rfl) ?_
  refine zk_ild (mr := zm_m187) rfl rfl hH1 (hH1.2.2 56 rfl) rfl g1a hja ?_
  refine zy_b (mr := zm_m187) rfl rfl (show _ = some (zm_if .lt (wd a.toInt.toNat) 40 31, []) from rfl) ?_
  refine zi_lt (fun e => absurd e (fun z => by have z2 := Int32.lt_iff_toInt_lt.mp z; have e0 : (0 : Int32).toInt = 0 := rfl; omega)) (fun _ => ?_)
  refine zy_n 1 (mr := zm_m187) rfl (show _ = some (32, [(0, .ref 55), (1, .int a), (2, .int u), (3, .int b), (4, .int v), (5, .int c)], [.ref 55]) from rfl) ?_
  refine zk_get (mr := zm_m187) rfl rfl hH1 (hH1.2.2 55 rfl) rfl (xfo_ref (k := 55) (f := 1) (a := 56) hH1 rfl rfl rfl) ?_
  refine zy_n 1 (mr := zm_m187) rfl (show _ = some (36, [(0, .ref 55), (1, .int a), (2, .int u), (3, .int b), (4, .int v), (5, .int c)], [.int b, .ref 56]) from rfl) ?_
  refine zk_ild (mr := zm_m187) rfl rfl hH1 (hH1.2.2 56 rfl) rfl g1b hjb ?_
  refine zy_b (mr := zm_m187) rfl rfl (show _ = some (zm_if .ge (wd b.toInt.toNat) 43 40, []) from rfl) ?_
  refine zi_ge (fun _ => ?_) (fun e => absurd (Int32.le_iff_toInt_le.mpr (by show (0 : Int) ≤ _; omega)) e)
  refine zy_n 1 (mr := zm_m187) rfl (show _ = some (44, [(0, .ref 55), (1, .int a), (2, .int u), (3, .int b), (4, .int v), (5, .int c)], [.ref 55]) from rfl) ?_
  refine zk_get (mr := zm_m187) rfl rfl hH1 (hH1.2.2 55 rfl) rfl (xfo_ref (k := 55) (f := 1) (a := 56) hH1 rfl rfl rfl) ?_
  refine zy_n 1 (mr := zm_m187) rfl (show _ = some (48, [(0, .ref 55), (1, .int a), (2, .int u), (3, .int b), (4, .int v), (5, .int c)], [.int a, .ref 56]) from rfl) ?_
  refine zk_ild (mr := zm_m187) rfl rfl hH1 (hH1.2.2 56 rfl) rfl g1a hja ?_
  refine zy_n 1 (mr := zm_m187) rfl (show _ = some (50, [(0, .ref 55), (1, .int a), (2, .int u), (3, .int b), (4, .int v), (5, .int c)], [.ref 55, .int (wd a.toInt.toNat)]) from rfl) ?_
  refine zk_get (mr := zm_m187) rfl rfl hH1 (hH1.2.2 55 rfl) rfl (xfo_ref (k := 55) (f := 1) (a := 56) hH1 rfl rfl rfl) ?_
  refine zy_n 1 (mr := zm_m187) rfl (show _ = some (54, [(0, .ref 55), (1, .int a), (2, .int u), (3, .int b), (4, .int v), (5, .int c)], [.int b, .ref 56, .int (wd a.toInt.toNat)]) from rfl) ?_
  refine zk_ild (mr := zm_m187) rfl rfl hH1 (hH1.2.2 56 rfl) rfl g1b hjb ?_
  refine zy_b (mr := zm_m187) rfl rfl (show _ = some (zm_ic .eq (wd a.toInt.toNat) (wd b.toInt.toNat) 61 58, []) from rfl) ?_
  refine zc_eq (fun e => absurd e hd) (fun _ => ?_)
  refine zy_n 1 (mr := zm_m187) rfl (show _ = some (60, [(0, .ref 55), (1, .int a), (2, .int u), (3, .int b), (4, .int v), (5, .int c)], [.int (-7)]) from rfl) ?_
  refine zy_r (mr := zm_m187) rfl rfl (show _ = some (some (.int (-7))) from rfl) ⟨rfl, τ, hH1, hX1, by omega, (hF1 _ rfl), hc⟩
theorem yp_m_bey {d : Nat} {a u b v c : Int32} (hH : xHI xKT xSG τ h) (hX : xX τ h) (hc : xRM h wd sz nm) (hp : 0 ≤ a.toInt ∧ a.toInt ≤ 3) (hq : 0 ≤ b.toInt ∧ b.toInt ≤ 3) (hn : ¬ wd a.toInt.toNat = -1) (hm : ¬ wd b.toInt.toNat = -1) (hw : 0 ≤ (wd a.toInt.toNat).toInt) (hw2 : 0 ≤ (wd b.toInt.toNat).toInt) (hz : 0 ≤ (sz a.toInt.toNat).toInt ∧ (sz a.toInt.toNat).toInt ≤ 60) (hz2 : 0 ≤ (sz b.toInt.toNat).toInt ∧ (sz b.toInt.toNat).toInt ≤ 60) (hd : wd a.toInt.toNat = wd b.toInt.toNat) (hr : ¬ ((0 ≤ u.toInt ∧ 0 ≤ c.toInt ∧ u.toInt + c.toInt ≤ (sz a.toInt.toNat).toInt) ∧ 0 ≤ v.toInt ∧ 0 ≤ c.toInt ∧ v.toInt + c.toInt ≤ (sz b.toInt.toNat).toInt)) : zm_Y og (d + 2) 187 0 [(0, .ref 55), (1, .int a), (2, .int u), (3, .int b), (4, .int v), (5, .int c)] [] h (xCO τ h 0 [(55, 0), (58, 0), (59, 0)] (fun r => r = some (.int (-6))) (fun τ1 h1 => xRM h1 wd sz nm)) := by
  have hla : a.toInt.toNat < 4 := by omega
  have hja := xnat a (hp).1
  obtain ⟨g1a, g2a, g3a⟩ := hc _ hla
  have hlb : b.toInt.toNat < 4 := by omega
  have hjb := xnat b (hq).1
  obtain ⟨g1a, g2a, g3a⟩ := hc _ hla
  obtain ⟨g1b, g2b, g3b⟩ := hc _ hlb
  refine zy_n 2 (mr := zm_m187) rfl (show _ = some (2, [(0, .ref 55), (1, .int a), (2, .int u), (3, .int b), (4, .int v), (5, .int c)], [.int 0, .ref 55]) from rfl) ?_
  refine zk_put (mr := zm_m187) rfl rfl hH hX (hH.2.2 55 rfl) rfl rfl rfl rfl ⟨_, List.mem_cons_self, ⟨_, rfl, by decide, by decide⟩⟩ ?_
  intro h1 hH1 hX1 hW1 hs1 hg1 hF1
  have hc := xRM_F hH (hF1 [(55, 0)] rfl) rfl hc
  obtain ⟨g1a, g2a, g3a⟩ := hc _ hla
  obtain ⟨g1b, g2b, g3b⟩ := hc _ hlb
  refine zy_n 1 (mr := zm_m187) rfl (show _ = some (6, [(0, .ref 55), (1, .int a), (2, .int u), (3, .int b), (4, .int v), (5, .int c)], [.int a]) from rfl) ?_
  refine zy_c (mr := zm_m187) (mc := zm_m182) rfl rfl rfl rfl rfl ?_
  refine zh_mpE.mono (fun q h' hq => ?_)
  obtain ⟨hez, rfl⟩ := hq
  rw [hez]
  rw [if_pos (show (0 : Int64).toInt ≤ a.toInt64.toInt ∧ a.toInt64.toInt ≤ (3 : Int64).toInt from by rw [Int32.toInt_toInt64, show (0 : Int64).toInt = 0 from rfl, show (3 : Int64).toInt = 3 from rfl]; exact hp)]
  refine zy_b (mr := zm_m187) rfl rfl (show _ = some (12, []) from rfl) ?_
  refine zy_n 1 (mr := zm_m187) rfl (show _ = some (13, [(0, .ref 55), (1, .int a), (2, .int u), (3, .int b), (4, .int v), (5, .int c)], [.int b]) from rfl) ?_
  refine zy_c (mr := zm_m187) (mc := zm_m182) rfl rfl rfl rfl rfl ?_
  refine zh_mpE.mono (fun q h' hq => ?_)
  obtain ⟨hez, rfl⟩ := hq
  rw [hez]
  rw [if_pos (show (0 : Int64).toInt ≤ b.toInt64.toInt ∧ b.toInt64.toInt ≤ (3 : Int64).toInt from by rw [Int32.toInt_toInt64, show (0 : Int64).toInt = 0 from rfl, show (3 : Int64).toInt = 3 from rfl]; exact hq)]
  refine zy_b (mr := zm_m187) rfl rfl (show _ = some (22, []) from rfl) ?_
  refine zy_n 1 (mr := zm_m187) rfl (show _ = some (23, [(0, .ref 55), (1, .int a), (2, .int u), (3, .int b), (4, .int v), (5, .int c)], [.ref 55]) from rfl) ?_
  refine zk_get (mr := zm_m187) rfl rfl hH1 (hH1.2.2 55 rfl) rfl (xfo_ref (k := 55) (f := 1) (a := 56) hH1 rfl rfl rfl) ?_
  refine zy_n 1 (mr := zm_m187) rfl (show _ = some (27, [(0, .ref 55), (1, .int a), (2, .int u), (3, .int b), (4, .int v), (5, .int c)], [.int a, .ref 56]) from rfl) ?_
  refine zk_ild (mr := zm_m187) rfl rfl hH1 (hH1.2.2 56 rfl) rfl g1a hja ?_
  refine zy_b (mr := zm_m187) rfl rfl (show _ = some (zm_if .lt (wd a.toInt.toNat) 40 31, []) from rfl) ?_
  refine zi_lt (fun e => absurd e (fun z => by have z2 := Int32.lt_iff_toInt_lt.mp z; have e0 : (0 : Int32).toInt = 0 := rfl; omega)) (fun _ => ?_)
  refine zy_n 1 (mr := zm_m187) rfl (show _ = some (32, [(0, .ref 55), (1, .int a), (2, .int u), (3, .int b), (4, .int v), (5, .int c)], [.ref 55]) from rfl) ?_
  refine zk_get (mr := zm_m187) rfl rfl hH1 (hH1.2.2 55 rfl) rfl (xfo_ref (k := 55) (f := 1) (a := 56) hH1 rfl rfl rfl) ?_
  refine zy_n 1 (mr := zm_m187) rfl (show _ = some (36, [(0, .ref 55), (1, .int a), (2, .int u), (3, .int b), (4, .int v), (5, .int c)], [.int b, .ref 56]) from rfl) ?_
  refine zk_ild (mr := zm_m187) rfl rfl hH1 (hH1.2.2 56 rfl) rfl g1b hjb ?_
  refine zy_b (mr := zm_m187) rfl rfl (show _ = some (zm_if .ge (wd b.toInt.toNat) 43 40, []) from rfl) ?_
  refine zi_ge (fun _ => ?_) (fun e => absurd (Int32.le_iff_toInt_le.mpr (by show (0 : Int) ≤ _; omega)) e)
  refine zy_n 1 (mr := zm_m187) rfl (show _ = some (44, [(0, .ref 55), (1, .int a), (2, .int u), (3, .int b), (4, .int v), (5, .int c)], [.ref 55]) from rfl) ?_
  refine zk_get (mr := zm_m187) rfl rfl hH1 (hH1.2.2 55 rfl) rfl (xfo_ref (k := 55) (f := 1) (a := 56) hH1 rfl rfl rfl) ?_
  refine zy_n 1 (mr := zm_m187) rfl (show _ = some (48, [(0, .ref 55), (1, .int a), (2, .int u), (3, .int b), (4, .int v), (5, .int c)], [.int a, .ref 56]) from rfl) ?_
  refine zk_ild (mr := zm_m187) rfl rfl hH1 (hH1.2.2 56 rfl) rfl g1a hja ?_
  refine zy_n 1 (mr := zm_m187) rfl (show _ = some (50, [(0, .ref 55), (1, .int a), (2, .int u), (3, .int b), (4, .int v), (5, .int c)], [.ref 55, .int (wd a.toInt.toNat)]) from rfl) ?_
  refine zk_get (mr := zm_m187) rfl rfl hH1 (hH1.2.2 55 rfl) rfl (xfo_ref (k := 55) (f := 1) (a := 56) hH1 rfl rfl rfl) ?_
  refine zy_n 1 (mr := zm_m187) rfl (show _ = some (54, [(0, .ref 55), (1, .int a), (2, .int u), (3, .int b), (4, .int v), (5, .int c)], [.int b, .ref 56, .int (wd a.toInt.toNat)]) from rfl) ?_
  refine zk_ild (mr := zm_m187) rfl rfl hH1 (hH1.2.2 56 rfl) rfl g1b hjb ?_
  refine zy_b (mr := zm_m187) rfl rfl (show _ = some (zm_ic .eq (wd a.toInt.toNat) (wd b.toInt.toNat) 61 58, []) from rfl) ?_
  refine zc_eq (fun _ => ?_) (fun e => absurd hd e)
  refine zy_n 1 (mr := zm_m187) rfl (show _ = some (62, [(0, .ref 55), (1, .int a), (2, .int u), (3, .int b), (4, .int v), (5, .int c)], [.int u]) from rfl) ?_
  have e0 : (0 : Int32).toInt = 0 := rfl
  refine zy_b (mr := zm_m187) rfl rfl (show _ = some (zm_if .lt u 110 65, []) from rfl) ?_
  refine zi_lt (fun c0 => ?_) (fun c0 => ?_)
  · refine zy_n 1 (mr := zm_m187) rfl (show _ = some (112, [(0, .ref 55), (1, .int a), (2, .int u), (3, .int b), (4, .int v), (5, .int c)], [.int (-6)]) from rfl) ?_
    refine zy_r (mr := zm_m187) rfl rfl (show _ = some (some (.int (-6))) from rfl) ⟨rfl, τ, hH1, hX1, by omega, (hF1 _ rfl), hc⟩
  have c0 := Int32.le_iff_toInt_le.mp (Int32.not_lt.mp c0)
  refine zy_n 1 (mr := zm_m187) rfl (show _ = some (67, [(0, .ref 55), (1, .int a), (2, .int u), (3, .int b), (4, .int v), (5, .int c)], [.int v]) from rfl) ?_
  refine zy_b (mr := zm_m187) rfl rfl (show _ = some (zm_if .lt v 110 70, []) from rfl) ?_
  refine zi_lt (fun c1 => ?_) (fun c1 => ?_)
  · refine zy_n 1 (mr := zm_m187) rfl (show _ = some (112, [(0, .ref 55), (1, .int a), (2, .int u), (3, .int b), (4, .int v), (5, .int c)], [.int (-6)]) from rfl) ?_
    refine zy_r (mr := zm_m187) rfl rfl (show _ = some (some (.int (-6))) from rfl) ⟨rfl, τ, hH1, hX1, by omega, (hF1 _ rfl), hc⟩
  have c1 := Int32.le_iff_toInt_le.mp (Int32.not_lt.mp c1)
  refine zy_n 1 (mr := zm_m187) rfl (show _ = some (72, [(0, .ref 55), (1, .int a), (2, .int u), (3, .int b), (4, .int v), (5, .int c)], [.int c]) from rfl) ?_
  refine zy_b (mr := zm_m187) rfl rfl (show _ = some (zm_if .lt c 110 75, []) from rfl) ?_
  refine zi_lt (fun c2 => ?_) (fun c2 => ?_)
  · refine zy_n 1 (mr := zm_m187) rfl (show _ = some (112, [(0, .ref 55), (1, .int a), (2, .int u), (3, .int b), (4, .int v), (5, .int c)], [.int (-6)]) from rfl) ?_
    refine zy_r (mr := zm_m187) rfl rfl (show _ = some (some (.int (-6))) from rfl) ⟨rfl, τ, hH1, hX1, by omega, (hF1 _ rfl), hc⟩
  have c2 := Int32.le_iff_toInt_le.mp (Int32.not_lt.mp c2)
  refine zy_n 6 (mr := zm_m187) rfl (show _ = some (82, [(0, .ref 55), (1, .int a), (2, .int u), (3, .int b), (4, .int v), (5, .int c)], [.ref 55, .long (u.toInt64 + c.toInt64)]) from rfl) ?_
  refine zk_get (mr := zm_m187) rfl rfl hH1 (hH1.2.2 55 rfl) rfl (xfo_ref (k := 55) (f := 2) (a := 57) hH1 rfl rfl rfl) ?_
  refine zy_n 1 (mr := zm_m187) rfl (show _ = some (86, [(0, .ref 55), (1, .int a), (2, .int u), (3, .int b), (4, .int v), (5, .int c)], [.int a, .ref 57, .long (u.toInt64 + c.toInt64)]) from rfl) ?_
  refine zk_ild (mr := zm_m187) rfl rfl hH1 (hH1.2.2 57 rfl) rfl g2a hja ?_
  refine zy_n 2 (mr := zm_m187) rfl (show _ = some (89, [(0, .ref 55), (1, .int a), (2, .int u), (3, .int b), (4, .int v), (5, .int c)], [.int (lg_cmp (u.toInt64 + c.toInt64) ((sz a.toInt.toNat).toInt64))]) from rfl) ?_
  refine zy_b (mr := zm_m187) rfl rfl (show _ = some (zm_if .gt (lg_cmp (u.toInt64 + c.toInt64) ((sz a.toInt.toNat).toInt64)) 110 92, []) from rfl) ?_
  refine zi_gt (fun c3 => ?_) (fun c3 => ?_)
  · refine zy_n 1 (mr := zm_m187) rfl (show _ = some (112, [(0, .ref 55), (1, .int a), (2, .int u), (3, .int b), (4, .int v), (5, .int c)], [.int (-6)]) from rfl) ?_
    refine zy_r (mr := zm_m187) rfl rfl (show _ = some (some (.int (-6))) from rfl) ⟨rfl, τ, hH1, hX1, by omega, (hF1 _ rfl), hc⟩
  have c3 := mt (xlgc _ _).2.mpr c3
  rw [xl64, Int32.toInt_toInt64] at c3
  refine zy_n 6 (mr := zm_m187) rfl (show _ = some (100, [(0, .ref 55), (1, .int a), (2, .int u), (3, .int b), (4, .int v), (5, .int c)], [.ref 55, .long (v.toInt64 + c.toInt64)]) from rfl) ?_
  refine zk_get (mr := zm_m187) rfl rfl hH1 (hH1.2.2 55 rfl) rfl (xfo_ref (k := 55) (f := 2) (a := 57) hH1 rfl rfl rfl) ?_
  refine zy_n 1 (mr := zm_m187) rfl (show _ = some (104, [(0, .ref 55), (1, .int a), (2, .int u), (3, .int b), (4, .int v), (5, .int c)], [.int b, .ref 57, .long (v.toInt64 + c.toInt64)]) from rfl) ?_
  refine zk_ild (mr := zm_m187) rfl rfl hH1 (hH1.2.2 57 rfl) rfl g2b hjb ?_
  refine zy_n 2 (mr := zm_m187) rfl (show _ = some (107, [(0, .ref 55), (1, .int a), (2, .int u), (3, .int b), (4, .int v), (5, .int c)], [.int (lg_cmp (v.toInt64 + c.toInt64) ((sz b.toInt.toNat).toInt64))]) from rfl) ?_
  refine zy_b (mr := zm_m187) rfl rfl (show _ = some (zm_if .le (lg_cmp (v.toInt64 + c.toInt64) ((sz b.toInt.toNat).toInt64)) 113 110, []) from rfl) ?_
  refine zi_le (fun c4 => ?_) (fun c4 => ?_)
  · have c4 : ¬ 0 < lg_cmp (v.toInt64 + c.toInt64) (sz b.toInt.toNat).toInt64 := Int32.not_lt.mpr c4
    have c4 := mt (xlgc _ _).2.mpr c4
    rw [xl64, Int32.toInt_toInt64] at c4
    exact absurd ⟨⟨by omega, by omega, by omega⟩, by omega, by omega, by omega⟩ hr
  · refine zy_n 1 (mr := zm_m187) rfl (show _ = some (112, [(0, .ref 55), (1, .int a), (2, .int u), (3, .int b), (4, .int v), (5, .int c)], [.int (-6)]) from rfl) ?_
    refine zy_r (mr := zm_m187) rfl rfl (show _ = some (some (.int (-6))) from rfl) ⟨rfl, τ, hH1, hX1, by omega, (hF1 _ rfl), hc⟩
theorem yp_m_ok {d : Nat} {a u b v c : Int32} (hH : xHI xKT xSG τ h) (hX : xX τ h) (hc : xRM h wd sz nm) (hp : 0 ≤ a.toInt ∧ a.toInt ≤ 3) (hq : 0 ≤ b.toInt ∧ b.toInt ≤ 3) (hn : ¬ wd a.toInt.toNat = -1) (hm : ¬ wd b.toInt.toNat = -1) (hw : 0 ≤ (wd a.toInt.toNat).toInt) (hw2 : 0 ≤ (wd b.toInt.toNat).toInt) (hz : 0 ≤ (sz a.toInt.toNat).toInt ∧ (sz a.toInt.toNat).toInt ≤ 60) (hz2 : 0 ≤ (sz b.toInt.toNat).toInt ∧ (sz b.toInt.toNat).toInt ≤ 60) (hd : wd a.toInt.toNat = wd b.toInt.toNat) (rA : 0 ≤ u.toInt ∧ 0 ≤ c.toInt ∧ u.toInt + c.toInt ≤ (sz a.toInt.toNat).toInt) (rB : 0 ≤ v.toInt ∧ 0 ≤ c.toInt ∧ v.toInt + c.toInt ≤ (sz b.toInt.toNat).toInt) : zm_Y og (d + 2) 187 0 [(0, .ref 55), (1, .int a), (2, .int u), (3, .int b), (4, .int v), (5, .int c)] [] h (xCO τ h 0 [(55, 0), (58, 0), (59, 0)] (fun r => r = some (.int 0)) (fun τ1 h1 => xRM h1 wd sz (xpst nm a.toInt.toNat u.toInt.toNat b.toInt.toNat v.toInt.toNat c.toInt.toNat))) := by
  have hla : a.toInt.toNat < 4 := by omega
  have hja := xnat a (hp).1
  obtain ⟨g1a, g2a, g3a⟩ := hc _ hla
  have hlb : b.toInt.toNat < 4 := by omega
  have hjb := xnat b (hq).1
  obtain ⟨g1a, g2a, g3a⟩ := hc _ hla
  obtain ⟨g1b, g2b, g3b⟩ := hc _ hlb
  refine zy_n 2 (mr := zm_m187) rfl (show _ = some (2, [(0, .ref 55), (1, .int a), (2, .int u), (3, .int b), (4, .int v), (5, .int c)], [.int 0, .ref 55]) from rfl) ?_
  refine zk_put (mr := zm_m187) rfl rfl hH hX (hH.2.2 55 rfl) rfl rfl rfl rfl ⟨_, List.mem_cons_self, ⟨_, rfl, by decide, by decide⟩⟩ ?_
  intro h1 hH1 hX1 hW1 hs1 hg1 hF1
  have hc := xRM_F hH (hF1 [(55, 0)] rfl) rfl hc
  obtain ⟨g1a, g2a, g3a⟩ := hc _ hla
  obtain ⟨g1b, g2b, g3b⟩ := hc _ hlb
  refine zy_n 1 (mr := zm_m187) rfl (show _ = some (6, [(0, .ref 55), (1, .int a), (2, .int u), (3, .int b), (4, .int v), (5, .int c)], [.int a]) from rfl) ?_
  refine zy_c (mr := zm_m187) (mc := zm_m182) rfl rfl rfl rfl rfl ?_
  refine zh_mpE.mono (fun q h' hq => ?_)
  obtain ⟨hez, rfl⟩ := hq
  rw [hez]
  rw [if_pos (show (0 : Int64).toInt ≤ a.toInt64.toInt ∧ a.toInt64.toInt ≤ (3 : Int64).toInt from by rw [Int32.toInt_toInt64, show (0 : Int64).toInt = 0 from rfl, show (3 : Int64).toInt = 3 from rfl]; exact hp)]
  refine zy_b (mr := zm_m187) rfl rfl (show _ = some (12, []) from rfl) ?_
  refine zy_n 1 (mr := zm_m187) rfl (show _ = some (13, [(0, .ref 55), (1, .int a), (2, .int u), (3, .int b), (4, .int v), (5, .int c)], [.int b]) from rfl) ?_
  refine zy_c (mr := zm_m187) (mc := zm_m182) rfl rfl rfl rfl rfl ?_
  refine zh_mpE.mono (fun q h' hq => ?_)
  obtain ⟨hez, rfl⟩ := hq
  rw [hez]
  rw [if_pos (show (0 : Int64).toInt ≤ b.toInt64.toInt ∧ b.toInt64.toInt ≤ (3 : Int64).toInt from by rw [Int32.toInt_toInt64, show (0 : Int64).toInt = 0 from rfl, show (3 : Int64).toInt = 3 from rfl]; exact hq)]
  refine zy_b (mr := zm_m187) rfl rfl (show _ = some (22, []) from rfl) ?_
  refine zy_n 1 (mr := zm_m187) rfl (show _ = some (23, [(0, .ref 55), (1, .int a), (2, .int u), (3, .int b), (4, .int v), (5, .int c)], [.ref 55]) from rfl) ?_
  refine zk_get (mr := zm_m187) rfl rfl hH1 (hH1.2.2 55 rfl) rfl (xfo_ref (k := 55) (f := 1) (a := 56) hH1 rfl rfl rfl) ?_
  refine zy_n 1 (mr := zm_m187) rfl (show _ = some (27, [(0, .ref 55), (1, .int a), (2, .int u), (3, .int b), (4, .int v), (5, .int c)], [.int a, .ref 56]) from rfl) ?_
  refine zk_ild (mr := zm_m187) rfl rfl hH1 (hH1.2.2 56 rfl) rfl g1a hja ?_
  refine zy_b (mr := zm_m187) rfl rfl (show _ = some (zm_if .lt (wd a.toInt.toNat) 40 31, []) from rfl) ?_
  refine zi_lt (fun e => absurd e (fun z => by have z2 := Int32.lt_iff_toInt_lt.mp z; have e0 : (0 : Int32).toInt = 0 := rfl; omega)) (fun _ => ?_)
  refine zy_n 1 (mr := zm_m187) rfl (show _ = some (32, [(0, .ref 55), (1, .int a), (2, .int u), (3, .int b), (4, .int v), (5, .int c)], [.ref 55]) from rfl) ?_
  refine zk_get (mr := zm_m187) rfl rfl hH1 (hH1.2.2 55 rfl) rfl (xfo_ref (k := 55) (f := 1) (a := 56) hH1 rfl rfl rfl) ?_
  refine zy_n 1 (mr := zm_m187) rfl (show _ = some (36, [(0, .ref 55), (1, .int a), (2, .int u), (3, .int b), (4, .int v), (5, .int c)], [.int b, .ref 56]) from rfl) ?_
  refine zk_ild (mr := zm_m187) rfl rfl hH1 (hH1.2.2 56 rfl) rfl g1b hjb ?_
  refine zy_b (mr := zm_m187) rfl rfl (show _ = some (zm_if .ge (wd b.toInt.toNat) 43 40, []) from rfl) ?_
  refine zi_ge (fun _ => ?_) (fun e => absurd (Int32.le_iff_toInt_le.mpr (by show (0 : Int) ≤ _; omega)) e)
  refine zy_n 1 (mr := zm_m187) rfl (show _ = some (44, [(0, .ref 55), (1, .int a), (2, .int u), (3, .int b), (4, .int v), (5, .int c)], [.ref 55]) from rfl) ?_
  refine zk_get (mr := zm_m187) rfl rfl hH1 (hH1.2.2 55 rfl) rfl (xfo_ref (k := 55) (f := 1) (a := 56) hH1 rfl rfl rfl) ?_
  refine zy_n 1 (mr := zm_m187) rfl (show _ = some (48, [(0, .ref 55), (1, .int a), (2, .int u), (3, .int b), (4, .int v), (5, .int c)], [.int a, .ref 56]) from rfl) ?_
  refine zk_ild (mr := zm_m187) rfl rfl hH1 (hH1.2.2 56 rfl) rfl g1a hja ?_
  refine zy_n 1 (mr := zm_m187) rfl (show _ = some (50, [(0, .ref 55), (1, .int a), (2, .int u), (3, .int b), (4, .int v), (5, .int c)], [.ref 55, .int (wd a.toInt.toNat)]) from rfl) ?_
  refine zk_get (mr := zm_m187) rfl rfl hH1 (hH1.2.2 55 rfl) rfl (xfo_ref (k := 55) (f := 1) (a := 56) hH1 rfl rfl rfl) ?_
  refine zy_n 1 (mr := zm_m187) rfl (show _ = some (54, [(0, .ref 55), (1, .int a), (2, .int u), (3, .int b), (4, .int v), (5, .int c)], [.int b, .ref 56, .int (wd a.toInt.toNat)]) from rfl) ?_
  refine zk_ild (mr := zm_m187) rfl rfl hH1 (hH1.2.2 56 rfl) rfl g1b hjb ?_
  refine zy_b (mr := zm_m187) rfl rfl (show _ = some (zm_ic .eq (wd a.toInt.toNat) (wd b.toInt.toNat) 61 58, []) from rfl) ?_
  refine zc_eq (fun _ => ?_) (fun e => absurd hd e)
  refine zy_n 1 (mr := zm_m187) rfl (show _ = some (62, [(0, .ref 55), (1, .int a), (2, .int u), (3, .int b), (4, .int v), (5, .int c)], [.int u]) from rfl) ?_
  refine zy_b (mr := zm_m187) rfl rfl (show _ = some (zm_if .lt u 110 65, []) from rfl) ?_
  refine zi_lt (fun e => absurd e (fun z => by have z2 := Int32.lt_iff_toInt_lt.mp z; have e0 : (0 : Int32).toInt = 0 := rfl; omega)) (fun _ => ?_)
  refine zy_n 1 (mr := zm_m187) rfl (show _ = some (67, [(0, .ref 55), (1, .int a), (2, .int u), (3, .int b), (4, .int v), (5, .int c)], [.int v]) from rfl) ?_
  refine zy_b (mr := zm_m187) rfl rfl (show _ = some (zm_if .lt v 110 70, []) from rfl) ?_
  refine zi_lt (fun e => absurd e (fun z => by have z2 := Int32.lt_iff_toInt_lt.mp z; have e0 : (0 : Int32).toInt = 0 := rfl; omega)) (fun _ => ?_)
  refine zy_n 1 (mr := zm_m187) rfl (show _ = some (72, [(0, .ref 55), (1, .int a), (2, .int u), (3, .int b), (4, .int v), (5, .int c)], [.int c]) from rfl) ?_
  refine zy_b (mr := zm_m187) rfl rfl (show _ = some (zm_if .lt c 110 75, []) from rfl) ?_
  refine zi_lt (fun e => absurd e (fun z => by have z2 := Int32.lt_iff_toInt_lt.mp z; have e0 : (0 : Int32).toInt = 0 := rfl; omega)) (fun _ => ?_)
  refine zy_n 6 (mr := zm_m187) rfl (show _ = some (82, [(0, .ref 55), (1, .int a), (2, .int u), (3, .int b), (4, .int v), (5, .int c)], [.ref 55, .long (u.toInt64 + c.toInt64)]) from rfl) ?_
  refine zk_get (mr := zm_m187) rfl rfl hH1 (hH1.2.2 55 rfl) rfl (xfo_ref (k := 55) (f := 2) (a := 57) hH1 rfl rfl rfl) ?_
  refine zy_n 1 (mr := zm_m187) rfl (show _ = some (86, [(0, .ref 55), (1, .int a), (2, .int u), (3, .int b), (4, .int v), (5, .int c)], [.int a, .ref 57, .long (u.toInt64 + c.toInt64)]) from rfl) ?_
  refine zk_ild (mr := zm_m187) rfl rfl hH1 (hH1.2.2 57 rfl) rfl g2a hja ?_
  refine zy_n 2 (mr := zm_m187) rfl (show _ = some (89, [(0, .ref 55), (1, .int a), (2, .int u), (3, .int b), (4, .int v), (5, .int c)], [.int (lg_cmp (u.toInt64 + c.toInt64) ((sz a.toInt.toNat).toInt64))]) from rfl) ?_
  refine zy_b (mr := zm_m187) rfl rfl (show _ = some (zm_if .gt (lg_cmp (u.toInt64 + c.toInt64) ((sz a.toInt.toNat).toInt64)) 110 92, []) from rfl) ?_
  refine zi_gt (fun e => absurd e (fun z => by have z2 := (xlgc _ _).2.mp z; rw [xl64, Int32.toInt_toInt64] at z2; omega)) (fun _ => ?_)
  refine zy_n 6 (mr := zm_m187) rfl (show _ = some (100, [(0, .ref 55), (1, .int a), (2, .int u), (3, .int b), (4, .int v), (5, .int c)], [.ref 55, .long (v.toInt64 + c.toInt64)]) from rfl) ?_
  refine zk_get (mr := zm_m187) rfl rfl hH1 (hH1.2.2 55 rfl) rfl (xfo_ref (k := 55) (f := 2) (a := 57) hH1 rfl rfl rfl) ?_
  refine zy_n 1 (mr := zm_m187) rfl (show _ = some (104, [(0, .ref 55), (1, .int a), (2, .int u), (3, .int b), (4, .int v), (5, .int c)], [.int b, .ref 57, .long (v.toInt64 + c.toInt64)]) from rfl) ?_
  refine zk_ild (mr := zm_m187) rfl rfl hH1 (hH1.2.2 57 rfl) rfl g2b hjb ?_
  refine zy_n 2 (mr := zm_m187) rfl (show _ = some (107, [(0, .ref 55), (1, .int a), (2, .int u), (3, .int b), (4, .int v), (5, .int c)], [.int (lg_cmp (v.toInt64 + c.toInt64) ((sz b.toInt.toNat).toInt64))]) from rfl) ?_
  refine zy_b (mr := zm_m187) rfl rfl (show _ = some (zm_if .le (lg_cmp (v.toInt64 + c.toInt64) ((sz b.toInt.toNat).toInt64)) 113 110, []) from rfl) ?_
  refine zi_le (fun _ => ?_) (fun e => absurd (Int32.not_lt.mp (fun z => by have z2 := (xlgc _ _).2.mp z; rw [xl64, Int32.toInt_toInt64] at z2; omega)) e)
  refine zy_n 2 (mr := zm_m187) rfl (show _ = some (116, [(6, .int 0), (0, .ref 55), (1, .int a), (2, .int u), (3, .int b), (4, .int v), (5, .int c)], []) from rfl) ?_
  refine zy_sub [(0, .ref 55), (1, .int a), (2, .int u), (3, .int b), (4, .int v), (5, .int c), (6, .int (Int32.ofNat 0))] (by simp) (fun q hq => by simp only [List.mem_cons, List.not_mem_nil, or_false] at hq; rcases hq with rfl | rfl | rfl | rfl | rfl | rfl | rfl <;> rfl) (zy_p1 hp rA.1 rA.2.1 (by omega) c.toInt.toNat 0 h1 (by omega) hH1 hX1 hc (fun q hq => absurd hq (Nat.not_lt_zero q)) (fun h9 hH9 hX9 hW9 hF9 hc h8 => ?_))
  refine zy_n 2 (mr := zm_m187) rfl (show _ = some (153, [(6, .int 0), (0, .ref 55), (1, .int a), (2, .int u), (3, .int b), (4, .int v), (5, .int c)], []) from rfl) ?_
  have hc : xRM h9 wd sz (xpst nm a.toInt.toNat u.toInt.toNat b.toInt.toNat v.toInt.toNat 0) := by rw [xpst_0]; exact hc
  refine (zy_sub [(0, .ref 55), (1, .int a), (2, .int u), (3, .int b), (4, .int v), (5, .int c), (6, .int (Int32.ofNat 0))] (by simp) (fun q hq => by simp only [List.mem_cons, List.not_mem_nil, or_false] at hq; rcases hq with rfl | rfl | rfl | rfl | rfl | rfl | rfl <;> rfl) (zy_p2 hq rB.1 rB.2.1 (by omega) c.toInt.toNat 0 h9 (by omega) hH9 hX9 hc h8)).mono (fun r h2 hq => xCO_tr (g1 := 0) (g2 := 0) ((xF_trans (hF1 _ rfl) (xF_weak hF9 (xmsS rfl)))) (by omega) (Nat.le_refl _) ?_)
  obtain ⟨p, τ2, a1, a2, a3, a4, a5⟩ := hq
  exact ⟨p, τ2, a1, a2, a3, xF_weak a4 (xmsS rfl), a5⟩
end XR2
