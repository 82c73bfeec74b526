/-! PLACES and PAIRS: piece 3 (made by a program) -/
section XR2
set_option maxRecDepth 100000
variable {og : Nat → Option zm_C} {τ τ' : List Nat} {h h' : zm_H} {ms : List (Nat × Nat)} {rp : Nat → Nat} {wd sz : Nat → Int32} {nm : Nat → Nat → Int64}
theorem xw03 {w : Int32} (hw : 0 ≤ w.toInt ∧ w.toInt ≤ 3) : w = 0 ∨ w = 1 ∨ w = 2 ∨ w = 3 := by
  rcases (show w.toInt = 0 ∨ w.toInt = 1 ∨ w.toInt = 2 ∨ w.toInt = 3 by omega) with e | e | e | e
  · exact Or.inl (Int32.toInt_inj.mp e)
  · exact Or.inr (Or.inl (Int32.toInt_inj.mp e))
  · exact Or.inr (Or.inr (Or.inl (Int32.toInt_inj.mp e)))
  · exact Or.inr (Or.inr (Or.inr (Int32.toInt_inj.mp e)))
theorem zh_cut {d : Nat} {v : Int64} {w : Int32} (hw : 0 ≤ w.toInt ∧ w.toInt ≤ 3) : zm_Y og d 177 0 [(0, .long v), (2, .int w)] [] h (fun r h' => h' = h ∧ r = some (.long (xcut w v))) := by
  rcases xw03 hw with rfl | rfl | rfl | rfl
  · refine zy_n 1 (mr := zm_m177) rfl rfl ?_
    refine zy_b (mr := zm_m177) rfl rfl (show _ = some (28, []) from rfl) ?_
    refine zy_n 4 (mr := zm_m177) rfl rfl ?_
    exact zy_r (mr := zm_m177) rfl rfl rfl ⟨rfl, rfl⟩
  · refine zy_n 1 (mr := zm_m177) rfl rfl ?_
    refine zy_b (mr := zm_m177) rfl rfl (show _ = some (33, []) from rfl) ?_
    refine zy_n 4 (mr := zm_m177) rfl rfl ?_
    exact zy_r (mr := zm_m177) rfl rfl rfl ⟨rfl, rfl⟩
  · refine zy_n 1 (mr := zm_m177) rfl rfl ?_
    refine zy_b (mr := zm_m177) rfl rfl (show _ = some (38, []) from rfl) ?_
    refine zy_n 3 (mr := zm_m177) rfl rfl ?_
    exact zy_r (mr := zm_m177) rfl rfl rfl ⟨rfl, rfl⟩
  · refine zy_n 1 (mr := zm_m177) rfl rfl ?_
    refine zy_b (mr := zm_m177) rfl rfl (show _ = some (42, []) from rfl) ?_
    refine zy_n 1 (mr := zm_m177) rfl rfl ?_
    exact zy_r (mr := zm_m177) rfl rfl rfl ⟨rfl, rfl⟩
theorem zh_mcut {d : Nat} {v : Int64} {w : Int32} (hw : 0 ≤ w.toInt ∧ w.toInt ≤ 3) : zm_Y og d 186 0 [(0, .int w), (1, .long v)] [] h (fun r h' => h' = h ∧ r = some (.long (xcut w v))) := by
  rcases xw03 hw with rfl | rfl | rfl | rfl
  · refine zy_n 1 (mr := zm_m186) rfl rfl ?_
    refine zy_b (mr := zm_m186) rfl rfl (show _ = some (4, []) from rfl) ?_
    refine zy_n 5 (mr := zm_m186) rfl rfl ?_
    exact zy_r (mr := zm_m186) rfl rfl rfl ⟨rfl, rfl⟩
  · refine zy_n 1 (mr := zm_m186) rfl rfl ?_
    refine zy_b (mr := zm_m186) rfl rfl (show _ = some (11, []) from rfl) ?_
    refine zy_n 2 (mr := zm_m186) rfl rfl ?_
    refine zy_b (mr := zm_m186) rfl rfl (show _ = some (16, []) from rfl) ?_
    refine zy_n 5 (mr := zm_m186) rfl rfl ?_
    exact zy_r (mr := zm_m186) rfl rfl rfl ⟨rfl, rfl⟩
  · refine zy_n 1 (mr := zm_m186) rfl rfl ?_
    refine zy_b (mr := zm_m186) rfl rfl (show _ = some (11, []) from rfl) ?_
    refine zy_n 2 (mr := zm_m186) rfl rfl ?_
    refine zy_b (mr := zm_m186) rfl rfl (show _ = some (23, []) from rfl) ?_
    refine zy_n 2 (mr := zm_m186) rfl rfl ?_
    refine zy_b (mr := zm_m186) rfl rfl (show _ = some (28, []) from rfl) ?_
    refine zy_n 4 (mr := zm_m186) rfl rfl ?_
    exact zy_r (mr := zm_m186) rfl rfl rfl ⟨rfl, rfl⟩
  · refine zy_n 1 (mr := zm_m186) rfl rfl ?_
    refine zy_b (mr := zm_m186) rfl rfl (show _ = some (11, []) from rfl) ?_
    refine zy_n 2 (mr := zm_m186) rfl rfl ?_
    refine zy_b (mr := zm_m186) rfl rfl (show _ = some (23, []) from rfl) ?_
    refine zy_n 2 (mr := zm_m186) rfl rfl ?_
    refine zy_b (mr := zm_m186) rfl rfl (show _ = some (34, []) from rfl) ?_
    refine zy_n 1 (mr := zm_m186) rfl rfl ?_
    exact zy_r (mr := zm_m186) rfl rfl rfl ⟨rfl, rfl⟩
theorem xsubI {x : Int32} (hx : 0 ≤ x.toInt) : (x - 1).toInt = x.toInt - 1 := by
  have ea : xI32a = -2147483648 := rfl
  have eb : xI32b = 2147483647 := rfl
  have r := xb_rng x
  rw [ea, eb] at r
  rw [Int32.toInt_sub, show (1 : Int32).toInt = 1 from rfl, xb_bm32 (by omega) (by omega)]
theorem yw_x_bad {d : Nat} {a b : Int32} {v : Int64} (hH : xHI xKT xSG τ h) (hX : xX τ h) (hc : xRXa rp τ h wd sz nm) (hp : ¬ (0 ≤ a.toInt ∧ a.toInt ≤ 3)) : zm_Y og (d + 2) 176 0 [(0, .ref 0), (1, .int a), (2, .int b), (3, .long v)] [] h (xCO τ h 0 [(211, 0)] (fun r => r = some (.int (-2))) (fun τ1 h1 => xRX τ1 h1 wd sz nm)) := by
  refine zy_n 1 (mr := zm_m176) rfl (show _ = some (1, [(0, .ref 0), (1, .int a), (2, .int b), (3, .long v)], [.int a]) from rfl) ?_
  refine zy_c (mr := zm_m176) (mc := zm_m19) rfl rfl rfl rfl rfl ?_
  refine zh_ipE.mono (fun q h' hq => ?_)
  obtain ⟨hez, rfl⟩ := hq
  rw [hez]
  rw [if_neg (show ¬ ((0 : Int32).toInt ≤ a.toInt ∧ a.toInt ≤ (3 : Int32).toInt) from by rw [show (0 : Int32).toInt = 0 from rfl, show (3 : Int32).toInt = 3 from rfl]; exact hp)]
  refine zy_b (mr := zm_m176) rfl rfl (show _ = some (7, []) from rfl) ?_
  refine zy_n 1 (mr := zm_m176) rfl (show _ = some (9, [(0, .ref 0), (1, .int a), (2, .int b), (3, .long v)], [.int (-2)]) from rfl) ?_
  refine zy_r (mr := zm_m176) rfl rfl (show _ = some (some (.int (-2))) from rfl) ⟨rfl, τ, hH, hX, Nat.le_add_right _ _, xF_refl _ _ _, ⟨rp, hc⟩⟩
theorem yw_x_no {d : Nat} {a b : Int32} {v : Int64} (hH : xHI xKT xSG τ h) (hX : xX τ h) (hc : xRXa rp τ h wd sz nm) (hp : 0 ≤ a.toInt ∧ a.toInt ≤ 3) (hn : wd a.toInt.toNat = -1) : zm_Y og (d + 2) 176 0 [(0, .ref 0), (1, .int a), (2, .int b), (3, .long v)] [] h (xCO τ h 0 [(211, 0)] (fun r => r = some (.int (-5))) (fun τ1 h1 => xRX τ1 h1 wd sz nm)) := by
  have hla : a.toInt.toNat < 4 := by omega
  have hja := xnat a (hp).1
  obtain ⟨g1a, g2a, g3a, g4a, g5a⟩ := hc.1 _ hla
  refine zy_n 1 (mr := zm_m176) rfl (show _ = some (1, [(0, .ref 0), (1, .int a), (2, .int b), (3, .long v)], [.int a]) from rfl) ?_
  refine zy_c (mr := zm_m176) (mc := zm_m19) rfl rfl rfl rfl rfl ?_
  refine zh_ipE.mono (fun q h' hq => ?_)
  obtain ⟨hez, rfl⟩ := hq
  rw [hez]
  rw [if_pos (show (0 : Int32).toInt ≤ a.toInt ∧ a.toInt ≤ (3 : Int32).toInt from by rw [show (0 : Int32).toInt = 0 from rfl, show (3 : Int32).toInt = 3 from rfl]; exact hp)]
  refine zy_b (mr := zm_m176) rfl rfl (show _ = some (10, []) from rfl) ?_
  refine zy_n 1 (mr := zm_m176) rfl (show _ = some (11, [(0, .ref 0), (1, .int a), (2, .int b), (3, .long v)], [.ref 0]) from rfl) ?_
  refine zk_get (mr := zm_m176) rfl rfl hH (hH.2.2 0 rfl) rfl (xfo_ref (k := 0) (f := 12) (a := 45) hH rfl rfl rfl) ?_
  refine zy_n 1 (mr := zm_m176) rfl (show _ = some (15, [(0, .ref 0), (1, .int a), (2, .int b), (3, .long v)], [.int a, .ref 45]) from rfl) ?_
  refine zy_c (mr := zm_m176) (mc := zm_m20) rfl rfl (zk_co (A := [.int a]) hH rfl rfl rfl rfl) rfl rfl ?_
  refine (zh_hasE hH hc hp).mono (fun q h' hq => ?_)
  obtain ⟨hez, rfl⟩ := hq
  rw [hez]
  rw [if_neg (fun z => z hn)]
  refine zy_b (mr := zm_m176) rfl rfl (show _ = some (21, []) from rfl) ?_
  refine zy_n 1 (mr := zm_m176) rfl (show _ = some (23, [(0, .ref 0), (1, .int a), (2, .int b), (3, .long v)], [.int (-5)]) from rfl) ?_
  refine zy_r (mr := zm_m176) rfl rfl (show _ = some (some (.int (-5))) from rfl) ⟨rfl, τ, hH, hX, Nat.le_add_right _ _, xF_refl _ _ _, ⟨rp, hc⟩⟩
theorem yw_x_bey {d : Nat} {a b : Int32} {v : Int64} (hH : xHI xKT xSG τ h) (hX : xX τ h) (hc : xRXa rp τ h wd sz nm) (hp : 0 ≤ a.toInt ∧ a.toInt ≤ 3) (hn : ¬ wd a.toInt.toNat = -1) (hw : 0 ≤ (wd a.toInt.toNat).toInt ∧ (wd a.toInt.toNat).toInt ≤ 3) (hz : 0 ≤ (sz a.toInt.toNat).toInt) (hz60 : (sz a.toInt.toNat).toInt ≤ 60) (hi : ¬ (0 ≤ b.toInt ∧ b.toInt < (sz a.toInt.toNat).toInt)) : zm_Y og (d + 2) 176 0 [(0, .ref 0), (1, .int a), (2, .int b), (3, .long v)] [] h (xCO τ h 0 [(211, 0)] (fun r => r = some (.int (-6))) (fun τ1 h1 => xRX τ1 h1 wd sz nm)) := by
  have hla : a.toInt.toNat < 4 := by omega
  have hja := xnat a (hp).1
  obtain ⟨g1a, g2a, g3a, g4a, g5a⟩ := hc.1 _ hla
  refine zy_n 1 (mr := zm_m176) rfl (show _ = some (1, [(0, .ref 0), (1, .int a), (2, .int b), (3, .long v)], [.int a]) from rfl) ?_
  refine zy_c (mr := zm_m176) (mc := zm_m19) rfl rfl rfl rfl rfl ?_
  refine zh_ipE.mono (fun q h' hq => ?_)
  obtain ⟨hez, rfl⟩ := hq
  rw [hez]
  rw [if_pos (show (0 : Int32).toInt ≤ a.toInt ∧ a.toInt ≤ (3 : Int32).toInt from by rw [show (0 : Int32).toInt = 0 from rfl, show (3 : Int32).toInt = 3 from rfl]; exact hp)]
  refine zy_b (mr := zm_m176) rfl rfl (show _ = some (10, []) from rfl) ?_
  refine zy_n 1 (mr := zm_m176) rfl (show _ = some (11, [(0, .ref 0), (1, .int a), (2, .int b), (3, .long v)], [.ref 0]) from rfl) ?_
  refine zk_get (mr := zm_m176) rfl rfl hH (hH.2.2 0 rfl) rfl (xfo_ref (k := 0) (f := 12) (a := 45) hH rfl rfl rfl) ?_
  refine zy_n 1 (mr := zm_m176) rfl (show _ = some (15, [(0, .ref 0), (1, .int a), (2, .int b), (3, .long v)], [.int a, .ref 45]) from rfl) ?_
  refine zy_c (mr := zm_m176) (mc := zm_m20) rfl rfl (zk_co (A := [.int a]) hH rfl rfl rfl rfl) rfl rfl ?_
  refine (zh_hasE hH hc hp).mono (fun q h' hq => ?_)
  obtain ⟨hez, rfl⟩ := hq
  rw [hez]
  rw [if_pos hn]
  refine zy_b (mr := zm_m176) rfl rfl (show _ = some (24, []) from rfl) ?_
  refine zy_n 3 (mr := zm_m176) rfl (show _ = some (27, [(0, .ref 0), (1, .int a), (2, .int b), (3, .long v)], [.ref 0, .int 0, .int b]) from rfl) ?_
  refine zk_get (mr := zm_m176) rfl rfl hH (hH.2.2 0 rfl) rfl (xfo_ref (k := 0) (f := 12) (a := 45) hH rfl rfl rfl) ?_
  refine zk_get (mr := zm_m176) rfl rfl hH (hH.2.2 45 rfl) rfl (xfo_ref (k := 45) (f := 2) (a := 52) hH rfl rfl rfl) ?_
  refine zy_n 1 (mr := zm_m176) rfl (show _ = some (34, [(0, .ref 0), (1, .int a), (2, .int b), (3, .long v)], [.int a, .ref 52, .int 0, .int b]) from rfl) ?_
  refine zk_ild (mr := zm_m176) rfl rfl hH (hH.2.2 52 rfl) rfl g2a hja ?_
  refine zy_n 2 (mr := zm_m176) rfl (show _ = some (37, [(0, .ref 0), (1, .int a), (2, .int b), (3, .long v)], [.int ((sz a.toInt.toNat) - 1), .int 0, .int b]) from rfl) ?_
  refine zy_c (mr := zm_m176) (mc := zm_m10) rfl rfl rfl rfl rfl ?_
  refine zh_withinE.mono (fun q h' hq => ?_)
  obtain ⟨hez, rfl⟩ := hq
  rw [hez]
  rw [if_neg (show ¬ ((0 : Int32).toInt ≤ b.toInt ∧ b.toInt ≤ ((sz a.toInt.toNat) - 1).toInt) from by rw [xsubI hz, show (0 : Int32).toInt = 0 from rfl]; omega)]
  refine zy_b (mr := zm_m176) rfl rfl (show _ = some (43, []) from rfl) ?_
  refine zy_n 1 (mr := zm_m176) rfl (show _ = some (45, [(0, .ref 0), (1, .int a), (2, .int b), (3, .long v)], [.int (-6)]) from rfl) ?_
  refine zy_r (mr := zm_m176) rfl rfl (show _ = some (some (.int (-6))) from rfl) ⟨rfl, τ, hH, hX, Nat.le_add_right _ _, xF_refl _ _ _, ⟨rp, hc⟩⟩
theorem yw_x_ok {d : Nat} {a b : Int32} {v : Int64} (hH : xHI xKT xSG τ h) (hX : xX τ h) (hc : xRXa rp τ h wd sz nm) (hp : 0 ≤ a.toInt ∧ a.toInt ≤ 3) (hn : ¬ wd a.toInt.toNat = -1) (hw : 0 ≤ (wd a.toInt.toNat).toInt ∧ (wd a.toInt.toNat).toInt ≤ 3) (hz : 0 ≤ (sz a.toInt.toNat).toInt) (hz60 : (sz a.toInt.toNat).toInt ≤ 60) (hi : 0 ≤ b.toInt ∧ b.toInt < (sz a.toInt.toNat).toInt) : zm_Y og (d + 2) 176 0 [(0, .ref 0), (1, .int a), (2, .int b), (3, .long v)] [] h (xCO τ h 0 [(211, 0)] (fun r => r = some (.int 0)) (fun τ1 h1 => xRX τ1 h1 wd sz (updN nm a.toInt.toNat b.toInt.toNat (xcut (wd a.toInt.toNat) v)))) := by
  have hla : a.toInt.toNat < 4 := by omega
  have hja := xnat a (hp).1
  obtain ⟨g1a, g2a, g3a, g4a, g5a⟩ := hc.1 _ hla
  refine zy_n 1 (mr := zm_m176) rfl (show _ = some (1, [(0, .ref 0), (1, .int a), (2, .int b), (3, .long v)], [.int a]) from rfl) ?_
  refine zy_c (mr := zm_m176) (mc := zm_m19) rfl rfl rfl rfl rfl ?_
  refine zh_ipE.mono (fun q h' hq => ?_)
  obtain ⟨hez, rfl⟩ := hq
  rw [hez]
  rw [if_pos (show (0 : Int32).toInt ≤ a.toInt ∧ a.toInt ≤ (3 : Int32).toInt from by rw [show (0 : Int32).toInt = 0 from rfl, show (3 : Int32).toInt = 3 from rfl]; exact hp)]
  refine zy_b (mr := zm_m176) rfl rfl (show _ = some (10, []) from rfl) ?_
  refine zy_n 1 (mr := zm_m176) rfl (show _ = some (11, [(0, .ref 0), (1, .int a), (2, .int b), (3, .long v)], [.ref 0]) from rfl) ?_
  refine zk_get (mr := zm_m176) rfl rfl hH (hH.2.2 0 rfl) rfl (xfo_ref (k := 0) (f := 12) (a := 45) hH rfl rfl rfl) ?_
  refine zy_n 1 (mr := zm_m176) rfl (show _ = some (15, [(0, .ref 0), (1, .int a), (2, .int b), (3, .long v)], [.int a, .ref 45]) from rfl) ?_
  refine zy_c (mr := zm_m176) (mc := zm_m20) rfl rfl (zk_co (A := [.int a]) hH rfl rfl rfl rfl) rfl rfl ?_
  refine (zh_hasE hH hc hp).mono (fun q h' hq => ?_)
  obtain ⟨hez, rfl⟩ := hq
  rw [hez]
  rw [if_pos hn]
  refine zy_b (mr := zm_m176) rfl rfl (show _ = some (24, []) from rfl) ?_
  refine zy_n 3 (mr := zm_m176) rfl (show _ = some (27, [(0, .ref 0), (1, .int a), (2, .int b), (3, .long v)], [.ref 0, .int 0, .int b]) from rfl) ?_
  refine zk_get (mr := zm_m176) rfl rfl hH (hH.2.2 0 rfl) rfl (xfo_ref (k := 0) (f := 12) (a := 45) hH rfl rfl rfl) ?_
  refine zk_get (mr := zm_m176) rfl rfl hH (hH.2.2 45 rfl) rfl (xfo_ref (k := 45) (f := 2) (a := 52) hH rfl rfl rfl) ?_
  refine zy_n 1 (mr := zm_m176) rfl (show _ = some (34, [(0, .ref 0), (1, .int a), (2, .int b), (3, .long v)], [.int a, .ref 52, .int 0, .int b]) from rfl) ?_
  refine zk_ild (mr := zm_m176) rfl rfl hH (hH.2.2 52 rfl) rfl g2a hja ?_
  refine zy_n 2 (mr := zm_m176) rfl (show _ = some (37, [(0, .ref 0), (1, .int a), (2, .int b), (3, .long v)], [.int ((sz a.toInt.toNat) - 1), .int 0, .int b]) from rfl) ?_
  refine zy_c (mr := zm_m176) (mc := zm_m10) rfl rfl rfl rfl rfl ?_
  refine zh_withinE.mono (fun q h' hq => ?_)
  obtain ⟨hez, rfl⟩ := hq
  rw [hez]
  rw [if_pos (show (0 : Int32).toInt ≤ b.toInt ∧ b.toInt ≤ ((sz a.toInt.toNat) - 1).toInt from by rw [xsubI hz, show (0 : Int32).toInt = 0 from rfl]; omega)]
  refine zy_b (mr := zm_m176) rfl rfl (show _ = some (46, []) from rfl) ?_
  have hjb := xnat b hi.1
  have hb60 : b.toInt.toNat < 60 := by omega
  refine zy_n 1 (mr := zm_m176) rfl (show _ = some (47, [(0, .ref 0), (1, .int a), (2, .int b), (3, .long v)], [.ref 0]) from rfl) ?_
  refine zk_get (mr := zm_m176) rfl rfl hH (hH.2.2 0 rfl) rfl (xfo_ref (k := 0) (f := 12) (a := 45) hH rfl rfl rfl) ?_
  refine zk_get (mr := zm_m176) rfl rfl hH (hH.2.2 45 rfl) rfl (xfo_ref (k := 45) (f := 0) (a := 46) hH rfl rfl rfl) ?_
  refine zy_n 1 (mr := zm_m176) rfl (show _ = some (54, [(0, .ref 0), (1, .int a), (2, .int b), (3, .long v)], [.int a, .ref 46]) from rfl) ?_
  refine zk_ald (mr := zm_m176) rfl rfl hH (hH.2.2 46 rfl) rfl rfl g3a hja ?_
  refine zy_n 3 (mr := zm_m176) rfl (show _ = some (58, [(0, .ref 0), (1, .int a), (2, .int b), (3, .long v)], [.ref 0, .long v, .int b, .ref ((rp a.toInt.toNat))]) from rfl) ?_
  refine zk_get (mr := zm_m176) rfl rfl hH (hH.2.2 0 rfl) rfl (xfo_ref (k := 0) (f := 12) (a := 45) hH rfl rfl rfl) ?_
  refine zk_get (mr := zm_m176) rfl rfl hH (hH.2.2 45 rfl) rfl (xfo_ref (k := 45) (f := 1) (a := 51) hH rfl rfl rfl) ?_
  refine zy_n 1 (mr := zm_m176) rfl (show _ = some (65, [(0, .ref 0), (1, .int a), (2, .int b), (3, .long v)], [.int a, .ref 51, .long v, .int b, .ref ((rp a.toInt.toNat))]) from rfl) ?_
  refine zk_ild (mr := zm_m176) rfl rfl hH (hH.2.2 51 rfl) rfl g1a hja ?_
  refine zy_c (mr := zm_m176) (mc := zm_m177) rfl rfl rfl rfl rfl ?_
  refine (zh_cut hw).mono (fun q h' hq => ?_)
  obtain ⟨hez, rfl⟩ := hq
  rw [hez]
  refine zk_lst (mr := zm_m176) rfl rfl hH hX g4a rfl rfl hjb hb60 List.mem_cons_self ⟨_, rfl⟩ ⟨by show (0 : Int) ≤ _; omega, by show _ ≤ (59 : Int); omega, Or.inl rfl⟩ ?_
  intro h1 hH1 hX1 hW1 hs1 hg1 hF1
  have hc := xRXa_nm hH hc (by omega) hg1 hs1
  obtain ⟨g1a, g2a, g3a, g4a, g5a⟩ := hc.1 _ hla
  refine zy_n 1 (mr := zm_m176) rfl (show _ = some (71, [(0, .ref 0), (1, .int a), (2, .int b), (3, .long v)], [.int 0]) from rfl) ?_
  refine zy_r (mr := zm_m176) rfl rfl (show _ = some (some (.int 0)) from rfl) ⟨rfl, τ, hH1, hX1, by omega, (hF1 _ rfl), ⟨rp, hc⟩⟩
theorem yw_m_bad {d : Nat} {a b : Int32} {v : Int64} (hH : xHI xKT xSG τ h) (hX : xX τ h) (hc : xRM h wd sz nm) (hp : ¬ (0 ≤ a.toInt ∧ a.toInt ≤ 3)) : zm_Y og (d + 2) 185 0 [(0, .ref 55), (1, .int a), (2, .int b), (3, .long v)] [] h (xCO τ h 0 [(55, 0), (58, 0)] (fun r => r = some (.int (-2))) (fun τ1 h1 => xRM h1 wd sz nm)) := by
  refine zy_n 2 (mr := zm_m185) rfl (show _ = some (2, [(0, .ref 55), (1, .int a), (2, .int b), (3, .long v)], [.int 0, .ref 55]) from rfl) ?_
  refine zk_put (mr := zm_m185) rfl rfl hH hX (hH.2.2 55 rfl) rfl rfl rfl rfl ⟨_, List.mem_cons_self, ⟨_, rfl, by decide, by decide⟩⟩ ?_
  intro h1 hH1 hX1 hW1 hs1 hg1 hF1
  have hc := xRM_F hH (hF1 [(55, 0)] rfl) rfl hc
  refine zy_n 1 (mr := zm_m185) rfl (show _ = some (6, [(0, .ref 55), (1, .int a), (2, .int b), (3, .long v)], [.int a]) from rfl) ?_
  refine zy_c (mr := zm_m185) (mc := zm_m182) rfl rfl rfl rfl rfl ?_
  refine zh_mpE.mono (fun q h' hq => ?_)
  obtain ⟨hez, rfl⟩ := hq
  rw [hez]
  rw [if_neg (show ¬ ((0 : Int64).toInt ≤ a.toInt64.toInt ∧ a.toInt64.toInt ≤ (3 : Int64).toInt) from by rw [Int32.toInt_toInt64, show (0 : Int64).toInt = 0 from rfl, show (3 : Int64).toInt = 3 from rfl]; exact hp)]
  refine zy_b (mr := zm_m185) rfl rfl (show _ = some (12, []) from rfl) ?_
  refine zy_n 1 (mr := zm_m185) rfl (show _ = some (14, [(0, .ref 55), (1, .int a), (2, .int b), (3, .long v)], [.int (-2)]) from rfl) ?_
  refine zy_r (mr := zm_m185) rfl rfl (show _ = some (some (.int (-2))) from rfl) ⟨rfl, τ, hH1, hX1, by omega, (hF1 _ rfl), hc⟩
theorem yw_m_no {d : Nat} {a b : Int32} {v : Int64} (hH : xHI xKT xSG τ h) (hX : xX τ h) (hc : xRM h wd sz nm) (hp : 0 ≤ a.toInt ∧ a.toInt ≤ 3) (hn : wd a.toInt.toNat = -1) : zm_Y og (d + 2) 185 0 [(0, .ref 55), (1, .int a), (2, .int b), (3, .long v)] [] h (xCO τ h 0 [(55, 0), (58, 0)] (fun r => r = some (.int (-5))) (fun τ1 h1 => xRM h1 wd sz nm)) := by
  have hla : a.toInt.toNat < 4 := by omega
  have hja := xnat a (hp).1
  obtain ⟨g1a, g2a, g3a⟩ := hc _ hla
  refine zy_n 2 (mr := zm_m185) rfl (show _ = some (2, [(0, .ref 55), (1, .int a), (2, .int b), (3, .long v)], [.int 0, .ref 55]) from rfl) ?_
  refine zk_put (mr := zm_m185) rfl rfl hH hX (hH.2.2 55 rfl) rfl rfl rfl rfl ⟨_, List.mem_cons_self, ⟨_, rfl, by decide, by decide⟩⟩ ?_
  intro h1 hH1 hX1 hW1 hs1 hg1 hF1
  have hc := xRM_F hH (hF1 [(55, 0)] rfl) rfl hc
  obtain ⟨g1a, g2a, g3a⟩ := hc _ hla
  refine zy_n 1 (mr := zm_m185) rfl (show _ = some (6, [(0, .ref 55), (1, .int a), (2, .int b), (3, .long v)], [.int a]) from rfl) ?_
  refine zy_c (mr := zm_m185) (mc := zm_m182) rfl rfl rfl rfl rfl ?_
  refine zh_mpE.mono (fun q h' hq => ?_)
  obtain ⟨hez, rfl⟩ := hq
  rw [hez]
  rw [if_pos (show (0 : Int64).toInt ≤ a.toInt64.toInt ∧ a.toInt64.toInt ≤ (3 : Int64).toInt from by rw [Int32.toInt_toInt64, show (0 : Int64).toInt = 0 from rfl, show (3 : Int64).toInt = 3 from rfl]; exact hp)]
  refine zy_b (mr := zm_m185) rfl rfl (show _ = some (15, []) from rfl) ?_
  refine zy_n 1 (mr := zm_m185) rfl (show _ = some (16, [(0, .ref 55), (1, .int a), (2, .int b), (3, .long v)], [.ref 55]) from rfl) ?_
  refine zk_get (mr := zm_m185) rfl rfl hH1 (hH1.2.2 55 rfl) rfl (xfo_ref (k := 55) (f := 1) (a := 56) hH1 rfl rfl rfl) ?_
  refine zy_n 1 (mr := zm_m185) rfl (show _ = some (20, [(0, .ref 55), (1, .int a), (2, .int b), (3, .long v)], [.int a, .ref 56]) from rfl) ?_
  refine zk_ild (mr := zm_m185) rfl rfl hH1 (hH1.2.2 56 rfl) rfl g1a hja ?_
  refine zy_b (mr := zm_m185) rfl rfl (show _ = some (zm_if .ge (wd a.toInt.toNat) 27 24, []) from rfl) ?_
  refine zi_ge (fun e => absurd e (by rw [hn]; decide)) (fun _ => ?_)
  refine zy_n 1 (mr := zm_m185) rfl (show _ = some (26, [(0, .ref 55), (1, .int a), (2, .int b), (3, .long v)], [.int (-5)]) from rfl) ?_
  refine zy_r (mr := zm_m185) rfl rfl (show _ = some (some (.int (-5))) from rfl) ⟨rfl, τ, hH1, hX1, by omega, (hF1 _ rfl), hc⟩
theorem yw_m_bey {d : Nat} {a b : Int32} {v : Int64} (hH : xHI xKT xSG τ h) (hX : xX τ h) (hc : xRM h wd sz nm) (hp : 0 ≤ a.toInt ∧ a.toInt ≤ 3) (hn : ¬ wd a.toInt.toNat = -1) (hw : 0 ≤ (wd a.toInt.toNat).toInt ∧ (wd a.toInt.toNat).toInt ≤ 3) (hz : 0 ≤ (sz a.toInt.toNat).toInt) (hz60 : (sz a.toInt.toNat).toInt ≤ 60) (hi : ¬ (0 ≤ b.toInt ∧ b.toInt < (sz a.toInt.toNat).toInt)) : zm_Y og (d + 2) 185 0 [(0, .ref 55), (1, .int a), (2, .int b), (3, .long v)] [] h (xCO τ h 0 [(55, 0), (58, 0)] (fun r => r = some (.int (-6))) (fun τ1 h1 => xRM h1 wd sz nm)) := by
  have hla : a.toInt.toNat < 4 := by omega
  have hja := xnat a (hp).1
  obtain ⟨g1a, g2a, g3a⟩ := hc _ hla
  refine zy_n 2 (mr := zm_m185) rfl (show _ = some (2, [(0, .ref 55), (1, .int a), (2, .int b), (3, .long v)], [.int 0, .ref 55]) from rfl) ?_
  refine zk_put (mr := zm_m185) rfl rfl hH hX (hH.2.2 55 rfl) rfl rfl rfl rfl ⟨_, List.mem_cons_self, ⟨_, rfl, by decide, by decide⟩⟩ ?_
  intro h1 hH1 hX1 hW1 hs1 hg1 hF1
  have hc := xRM_F hH (hF1 [(55, 0)] rfl) rfl hc
  obtain ⟨g1a, g2a, g3a⟩ := hc _ hla
  refine zy_n 1 (mr := zm_m185) rfl (show _ = some (6, [(0, .ref 55), (1, .int a), (2, .int b), (3, .long v)], [.int a]) from rfl) ?_
  refine zy_c (mr := zm_m185) (mc := zm_m182) rfl rfl rfl rfl rfl ?_
  refine zh_mpE.mono (fun q h' hq => ?_)
  obtain ⟨hez, rfl⟩ := hq
  rw [hez]
  rw [if_pos (show (0 : Int64).toInt ≤ a.toInt64.toInt ∧ a.toInt64.toInt ≤ (3 : Int64).toInt from by rw [Int32.toInt_toInt64, show (0 : Int64).toInt = 0 from rfl, show (3 : Int64).toInt = 3 from rfl]; exact hp)]
  refine zy_b (mr := zm_m185) rfl rfl (show _ = some (15, []) from rfl) ?_
  refine zy_n 1 (mr := zm_m185) rfl (show _ = some (16, [(0, .ref 55), (1, .int a), (2, .int b), (3, .long v)], [.ref 55]) from rfl) ?_
  refine zk_get (mr := zm_m185) rfl rfl hH1 (hH1.2.2 55 rfl) rfl (xfo_ref (k := 55) (f := 1) (a := 56) hH1 rfl rfl rfl) ?_
  refine zy_n 1 (mr := zm_m185) rfl (show _ = some (20, [(0, .ref 55), (1, .int a), (2, .int b), (3, .long v)], [.int a, .ref 56]) from rfl) ?_
  refine zk_ild (mr := zm_m185) rfl rfl hH1 (hH1.2.2 56 rfl) rfl g1a hja ?_
  refine zy_b (mr := zm_m185) rfl rfl (show _ = some (zm_if .ge (wd a.toInt.toNat) 27 24, []) from rfl) ?_
  refine zi_ge (fun _ => ?_) (fun e => absurd (Int32.le_iff_toInt_le.mpr (by show (0 : Int) ≤ _; omega)) e)
  refine zy_n 4 (mr := zm_m185) rfl (show _ = some (31, [(0, .ref 55), (1, .int a), (2, .int b), (3, .long v)], [.ref 55, .long 0, .long b.toInt64]) from rfl) ?_
  refine zk_get (mr := zm_m185) rfl rfl hH1 (hH1.2.2 55 rfl) rfl (xfo_ref (k := 55) (f := 2) (a := 57) hH1 rfl rfl rfl) ?_
  refine zy_n 1 (mr := zm_m185) rfl (show _ = some (35, [(0, .ref 55), (1, .int a), (2, .int b), (3, .long v)], [.int a, .ref 57, .long 0, .long b.toInt64]) from rfl) ?_
  refine zk_ild (mr := zm_m185) rfl rfl hH1 (hH1.2.2 57 rfl) rfl g2a hja ?_
  refine zy_n 3 (mr := zm_m185) rfl (show _ = some (39, [(0, .ref 55), (1, .int a), (2, .int b), (3, .long v)], [.long (((sz a.toInt.toNat) - 1).toInt64), .long 0, .long b.toInt64]) from rfl) ?_
  refine zy_c (mr := zm_m185) (mc := zm_m183) rfl rfl rfl rfl rfl ?_
  refine zh_minE.mono (fun q h' hq => ?_)
  obtain ⟨hez, rfl⟩ := hq
  rw [hez]
  rw [if_neg (show ¬ ((0 : Int64).toInt ≤ b.toInt64.toInt ∧ b.toInt64.toInt ≤ ((sz a.toInt.toNat) - 1).toInt64.toInt) from by rw [Int32.toInt_toInt64, Int32.toInt_toInt64, xsubI hz, show (0 : Int64).toInt = 0 from rfl]; omega)]
  refine zy_b (mr := zm_m185) rfl rfl (show _ = some (45, []) from rfl) ?_
  refine zy_n 1 (mr := zm_m185) rfl (show _ = some (47, [(0, .ref 55), (1, .int a), (2, .int b), (3, .long v)], [.int (-6)]) from rfl) ?_
  refine zy_r (mr := zm_m185) rfl rfl (show _ = some (some (.int (-6))) from rfl) ⟨rfl, τ, hH1, hX1, by omega, (hF1 _ rfl), hc⟩
theorem yw_m_ok {d : Nat} {a b : Int32} {v : Int64} (hH : xHI xKT xSG τ h) (hX : xX τ h) (hc : xRM h wd sz nm) (hp : 0 ≤ a.toInt ∧ a.toInt ≤ 3) (hn : ¬ wd a.toInt.toNat = -1) (hw : 0 ≤ (wd a.toInt.toNat).toInt ∧ (wd a.toInt.toNat).toInt ≤ 3) (hz : 0 ≤ (sz a.toInt.toNat).toInt) (hz60 : (sz a.toInt.toNat).toInt ≤ 60) (hi : 0 ≤ b.toInt ∧ b.toInt < (sz a.toInt.toNat).toInt) : zm_Y og (d + 2) 185 0 [(0, .ref 55), (1, .int a), (2, .int b), (3, .long v)] [] h (xCO τ h 0 [(55, 0), (58, 0)] (fun r => r = some (.int 0)) (fun τ1 h1 => xRM h1 wd sz (updN nm a.toInt.toNat b.toInt.toNat (xcut (wd a.toInt.toNat) v)))) := by
  have hla : a.toInt.toNat < 4 := by omega
  have hja := xnat a (hp).1
  obtain ⟨g1a, g2a, g3a⟩ := hc _ hla
  refine zy_n 2 (mr := zm_m185) rfl (show _ = some (2, [(0, .ref 55), (1, .int a), (2, .int b), (3, .long v)], [.int 0, .ref 55]) from rfl) ?_
  refine zk_put (mr := zm_m185) rfl rfl hH hX (hH.2.2 55 rfl) rfl rfl rfl rfl ⟨_, List.mem_cons_self, ⟨_, rfl, by decide, by decide⟩⟩ ?_
  intro h1 hH1 hX1 hW1 hs1 hg1 hF1
  have hc := xRM_F hH (hF1 [(55, 0)] rfl) rfl hc
  obtain ⟨g1a, g2a, g3a⟩ := hc _ hla
  refine zy_n 1 (mr := zm_m185) rfl (show _ = some (6, [(0, .ref 55), (1, .int a), (2, .int b), (3, .long v)], [.int a]) from rfl) ?_
  refine zy_c (mr := zm_m185) (mc := zm_m182) rfl rfl rfl rfl rfl ?_
  refine zh_mpE.mono (fun q h' hq => ?_)
  obtain ⟨hez, rfl⟩ := hq
  rw [hez]
  rw [if_pos (show (0 : Int64).toInt ≤ a.toInt64.toInt ∧ a.toInt64.toInt ≤ (3 : Int64).toInt from by rw [Int32.toInt_toInt64, show (0 : Int64).toInt = 0 from rfl, show (3 : Int64).toInt = 3 from rfl]; exact hp)]
  refine zy_b (mr := zm_m185) rfl rfl (show _ = some (15, []) from rfl) ?_
  refine zy_n 1 (mr := zm_m185) rfl (show _ = some (16, [(0, .ref 55), (1, .int a), (2, .int b), (3, .long v)], [.ref 55]) from rfl) ?_
  refine zk_get (mr := zm_m185) rfl rfl hH1 (hH1.2.2 55 rfl) rfl (xfo_ref (k := 55) (f := 1) (a := 56) hH1 rfl rfl rfl) ?_
  refine zy_n 1 (mr := zm_m185) rfl (show _ = some (20, [(0, .ref 55), (1, .int a), (2, .int b), (3, .long v)], [.int a, .ref 56]) from rfl) ?_
  refine zk_ild (mr := zm_m185) rfl rfl hH1 (hH1.2.2 56 rfl) rfl g1a hja ?_
  refine zy_b (mr := zm_m185) rfl rfl (show _ = some (zm_if .ge (wd a.toInt.toNat) 27 24, []) from rfl) ?_
  refine zi_ge (fun _ => ?_) (fun e => absurd (Int32.le_iff_toInt_le.mpr (by show (0 : Int) ≤ _; omega)) e)
  refine zy_n 4 (mr := zm_m185) rfl (show _ = some (31, [(0, .ref 55), (1, .int a), (2, .int b), (3, .long v)], [.ref 55, .long 0, .long b.toInt64]) from rfl) ?_
  refine zk_get (mr := zm_m185) rfl rfl hH1 (hH1.2.2 55 rfl) rfl (xfo_ref (k := 55) (f := 2) (a := 57) hH1 rfl rfl rfl) ?_
  refine zy_n 1 (mr := zm_m185) rfl (show _ = some (35, [(0, .ref 55), (1, .int a), (2, .int b), (3, .long v)], [.int a, .ref 57, .long 0, .long b.toInt64]) from rfl) ?_
  refine zk_ild (mr := zm_m185) rfl rfl hH1 (hH1.2.2 57 rfl) rfl g2a hja ?_
  refine zy_n 3 (mr := zm_m185) rfl (show _ = some (39, [(0, .ref 55), (1, .int a), (2, .int b), (3, .long v)], [.long (((sz a.toInt.toNat) - 1).toInt64), .long 0, .long b.toInt64]) from rfl) ?_
  refine zy_c (mr := zm_m185) (mc := zm_m183) rfl rfl rfl rfl rfl ?_
  refine zh_minE.mono (fun q h' hq => ?_)
  obtain ⟨hez, rfl⟩ := hq
  rw [hez]
  rw [if_pos (show (0 : Int64).toInt ≤ b.toInt64.toInt ∧ b.toInt64.toInt ≤ ((sz a.toInt.toNat) - 1).toInt64.toInt from by rw [Int32.toInt_toInt64, Int32.toInt_toInt64, xsubI hz, show (0 : Int64).toInt = 0 from rfl]; omega)]
  refine zy_b (mr := zm_m185) rfl rfl (show _ = some (48, []) from rfl) ?_
  have hjb := xnat b hi.1
  have hb60 : b.toInt.toNat < 60 := by omega
  have hix := xix hp hjb hb60
  refine zy_n 1 (mr := zm_m185) rfl (show _ = some (49, [(0, .ref 55), (1, .int a), (2, .int b), (3, .long v)], [.ref 55]) from rfl) ?_
  refine zk_get (mr := zm_m185) rfl rfl hH1 (hH1.2.2 55 rfl) rfl (xfo_ref (k := 55) (f := 3) (a := 58) hH1 rfl rfl rfl) ?_
  refine zy_n 6 (mr := zm_m185) rfl (show _ = some (59, [(0, .ref 55), (1, .int a), (2, .int b), (3, .long v)], [.ref 55, .int ((60 * a) + b), .ref 58]) from rfl) ?_
  refine zk_get (mr := zm_m185) rfl rfl hH1 (hH1.2.2 55 rfl) rfl (xfo_ref (k := 55) (f := 1) (a := 56) hH1 rfl rfl rfl) ?_
  refine zy_n 1 (mr := zm_m185) rfl (show _ = some (63, [(0, .ref 55), (1, .int a), (2, .int b), (3, .long v)], [.int a, .ref 56, .int ((60 * a) + b), .ref 58]) from rfl) ?_
  refine zk_ild (mr := zm_m185) rfl rfl hH1 (hH1.2.2 56 rfl) rfl g1a hja ?_
  refine zy_n 1 (mr := zm_m185) rfl (show _ = some (65, [(0, .ref 55), (1, .int a), (2, .int b), (3, .long v)], [.long v, .int (wd a.toInt.toNat), .int ((60 * a) + b), .ref 58]) from rfl) ?_
  refine zy_c (mr := zm_m185) (mc := zm_m186) rfl rfl rfl rfl rfl ?_
  refine (zh_mcut hw).mono (fun q h' hq => ?_)
  obtain ⟨hez, rfl⟩ := hq
  rw [hez]
  refine zk_lst (mr := zm_m185) rfl rfl hH1 hX1 (hH1.2.2 58 rfl) rfl rfl hix (by omega) List.mem_cons_self ⟨_, rfl⟩ ⟨by show (0 : Int) ≤ _; omega, by show _ ≤ (239 : Int); omega, Or.inl rfl⟩ ?_
  intro h2 hH2 hX2 hW2 hs2 hg2 hF2
  have hc := xRM_nm hc hb60 hg2 hs2
  obtain ⟨g1a, g2a, g3a⟩ := hc _ hla
  refine zy_n 1 (mr := zm_m185) rfl (show _ = some (70, [(0, .ref 55), (1, .int a), (2, .int b), (3, .long v)], [.int 0]) from rfl) ?_
  refine zy_r (mr := zm_m185) rfl rfl (show _ = some (some (.int 0)) from rfl) ⟨rfl, τ, hH2, hX2, by omega, (xF_trans (hF1 _ rfl) (hF2 _ rfl)), hc⟩
end XR2
