/-! Houses, years, lines: piece 8 (made by a program) -/
section XC1
variable {og : Nat → Option zm_C} {τ τ' : List Nat} {h h' : zm_H} {ms : List (Nat × Nat)} {ad : Nat → Nat} {n : Nat} {st dn rf : Nat → Int32} {nr y L : Int32} {wk : Nat → Int32}
theorem xw_x_bad {a s : Int32} (hH : xHI xKT xSG τ h) (hX : xX τ h) (hc : xCXa ad τ h n st dn rf nr y L wk) (hb : ¬ ((0 ≤ a.toInt ∧ a.toInt ≤ 3) ∧ 0 ≤ s.toInt ∧ s.toInt ≤ 3)) : zm_Y og 30 120 0 [(0, .ref 0), (1, .int a), (2, .int s)] [] h (xCO τ h 0 [(23, 0), (24, 0), (27, 6), (28, 0), (29, 0), (30, 0), (31, 0), (32, 0), (33, 0), (34, 0)] (fun r => r = some (.int (-2))) (fun τ1 h1 => xCX τ1 h1 n st dn rf nr y L wk)) := by
  obtain ⟨hn, f1, f2, f3, f4, hw, hh, hi⟩ := id hc
  by_cases c0 : 0 ≤ a.toInt ∧ a.toInt ≤ 3
  rotate_left
  · refine zy_n 3 (mr := zm_m120) rfl (show _ = some (3, [(0, .ref 0), (1, .int a), (2, .int s)], [.int 3, .int 0, .int a]) from rfl) ?_
    refine zy_c (mr := zm_m120) (mc := zm_m10) rfl rfl rfl rfl rfl ?_
    refine zh_withinE.mono (fun q h' hq => ?_)
    obtain ⟨hez, rfl⟩ := hq
    rw [hez]
    rw [if_neg (show ¬ ((0 : Int32).toInt ≤ a.toInt ∧ a.toInt ≤ (3 : Int32).toInt) from by rw [show (0 : Int32).toInt = 0 from rfl, show (3 : Int32).toInt = 3 from rfl]; exact c0)]
    refine zy_b (mr := zm_m120) rfl rfl (show _ = some (18, []) from rfl) ?_
    refine zy_n 1 (mr := zm_m120) rfl (show _ = some (20, [(0, .ref 0), (1, .int a), (2, .int s)], [.int (-2)]) from rfl) ?_
    refine zy_r (mr := zm_m120) rfl rfl (show _ = some (some (.int (-2))) from rfl) ⟨rfl, τ, hH, hX, Nat.le_add_right _ _, xF_refl _ _ _, ⟨ad, hc⟩⟩
  by_cases c1 : 0 ≤ s.toInt ∧ s.toInt ≤ 3
  rotate_left
  · refine zy_n 3 (mr := zm_m120) rfl (show _ = some (3, [(0, .ref 0), (1, .int a), (2, .int s)], [.int 3, .int 0, .int a]) from rfl) ?_
    refine zy_c (mr := zm_m120) (mc := zm_m10) rfl rfl rfl rfl rfl ?_
    refine zh_withinE.mono (fun q h' hq => ?_)
    obtain ⟨hez, rfl⟩ := hq
    rw [hez]
    rw [if_pos (show (0 : Int32).toInt ≤ a.toInt ∧ a.toInt ≤ (3 : Int32).toInt from by rw [show (0 : Int32).toInt = 0 from rfl, show (3 : Int32).toInt = 3 from rfl]; exact c0)]
    refine zy_b (mr := zm_m120) rfl rfl (show _ = some (9, []) from rfl) ?_
    refine zy_n 3 (mr := zm_m120) rfl (show _ = some (12, [(0, .ref 0), (1, .int a), (2, .int s)], [.int 3, .int 0, .int s]) from rfl) ?_
    refine zy_c (mr := zm_m120) (mc := zm_m10) rfl rfl rfl rfl rfl ?_
    refine zh_withinE.mono (fun q h' hq => ?_)
    obtain ⟨hez, rfl⟩ := hq
    rw [hez]
    rw [if_neg (show ¬ ((0 : Int32).toInt ≤ s.toInt ∧ s.toInt ≤ (3 : Int32).toInt) from by rw [show (0 : Int32).toInt = 0 from rfl, show (3 : Int32).toInt = 3 from rfl]; exact c1)]
    refine zy_b (mr := zm_m120) rfl rfl (show _ = some (18, []) from rfl) ?_
    refine zy_n 1 (mr := zm_m120) rfl (show _ = some (20, [(0, .ref 0), (1, .int a), (2, .int s)], [.int (-2)]) from rfl) ?_
    refine zy_r (mr := zm_m120) rfl rfl (show _ = some (some (.int (-2))) from rfl) ⟨rfl, τ, hH, hX, Nat.le_add_right _ _, xF_refl _ _ _, ⟨ad, hc⟩⟩
  exact absurd ⟨c0, c1⟩ hb
theorem xw_x_alr {a s : Int32} (hH : xHI xKT xSG τ h) (hX : xX τ h) (hc : xCXa ad τ h n st dn rf nr y L wk) (ok : (0 ≤ a.toInt ∧ a.toInt ≤ 3) ∧ 0 ≤ s.toInt ∧ s.toInt ≤ 3) (hk : wk (4 * a.toInt.toNat + s.toInt.toNat) = y) : zm_Y og 30 120 0 [(0, .ref 0), (1, .int a), (2, .int s)] [] h (xCO τ h 0 [(23, 0), (24, 0), (27, 6), (28, 0), (29, 0), (30, 0), (31, 0), (32, 0), (33, 0), (34, 0)] (fun r => r = some (.int (-9))) (fun τ1 h1 => xCX τ1 h1 n st dn rf nr y L wk)) := by
  obtain ⟨hn, f1, f2, f3, f4, hw, hh, hi⟩ := id hc
  obtain ⟨ha, hs⟩ := ok
  refine zy_n 3 (mr := zm_m120) rfl (show _ = some (3, [(0, .ref 0), (1, .int a), (2, .int s)], [.int 3, .int 0, .int a]) from rfl) ?_
  refine zy_c (mr := zm_m120) (mc := zm_m10) rfl rfl rfl rfl rfl ?_
  refine zh_withinE.mono (fun q h' hq => ?_)
  obtain ⟨hez, rfl⟩ := hq
  rw [hez]
  rw [if_pos (show (0 : Int32).toInt ≤ a.toInt ∧ a.toInt ≤ (3 : Int32).toInt from by rw [show (0 : Int32).toInt = 0 from rfl, show (3 : Int32).toInt = 3 from rfl]; exact ha)]
  refine zy_b (mr := zm_m120) rfl rfl (show _ = some (9, []) from rfl) ?_
  refine zy_n 3 (mr := zm_m120) rfl (show _ = some (12, [(0, .ref 0), (1, .int a), (2, .int s)], [.int 3, .int 0, .int s]) from rfl) ?_
  refine zy_c (mr := zm_m120) (mc := zm_m10) rfl rfl rfl rfl rfl ?_
  refine zh_withinE.mono (fun q h' hq => ?_)
  obtain ⟨hez, rfl⟩ := hq
  rw [hez]
  rw [if_pos (show (0 : Int32).toInt ≤ s.toInt ∧ s.toInt ≤ (3 : Int32).toInt from by rw [show (0 : Int32).toInt = 0 from rfl, show (3 : Int32).toInt = 3 from rfl]; exact hs)]
  refine zy_b (mr := zm_m120) rfl rfl (show _ = some (21, []) from rfl) ?_
  refine zy_n 1 (mr := zm_m120) rfl (show _ = some (22, [(0, .ref 0), (1, .int a), (2, .int s)], [.ref 0]) from rfl) ?_
  refine zk_get (mr := zm_m120) rfl rfl hH (hH.2.2 0 rfl) rfl (xfo_ref (k := 0) (f := 9) (a := 27) hH rfl rfl rfl) ?_
  refine zy_n 3 (mr := zm_m120) rfl (show _ = some (28, [(0, .ref 0), (1, .int a), (2, .int s)], [.ref 0, .int s, .int a, .ref 27]) from rfl) ?_
  refine zk_get (mr := zm_m120) rfl rfl hH (hH.2.2 0 rfl) rfl f3 ?_
  refine zy_c (mr := zm_m120) (mc := zm_m121) rfl rfl (zk_co (A := [.int a, .int s, .int y]) hH rfl rfl rfl rfl) rfl rfl ?_
  refine (zh_hwE ha hs hH hw).mono (fun q h' hq => ?_)
  obtain ⟨hez, rfl⟩ := hq
  rw [hez]
  rw [if_pos hk]
  refine zy_b (mr := zm_m120) rfl rfl (show _ = some (37, []) from rfl) ?_
  refine zy_n 1 (mr := zm_m120) rfl (show _ = some (39, [(0, .ref 0), (1, .int a), (2, .int s)], [.int (-9)]) from rfl) ?_
  refine zy_r (mr := zm_m120) rfl rfl (show _ = some (some (.int (-9))) from rfl) ⟨rfl, τ, hH, hX, Nat.le_add_right _ _, xF_refl _ _ _, ⟨ad, hc⟩⟩
theorem xw_x_full {a s : Int32} (hH : xHI xKT xSG τ h) (hX : xX τ h) (hc : xCXa ad τ h n st dn rf nr y L wk) (ok : (0 ≤ a.toInt ∧ a.toInt ≤ 3) ∧ 0 ≤ s.toInt ∧ s.toInt ≤ 3) (hk : ¬ wk (4 * a.toInt.toNat + s.toInt.toNat) = y) (hfull : ¬ L.toInt + ((xcnt dn st s n : Nat) : Int) ≤ 1200) : zm_Y og 30 120 0 [(0, .ref 0), (1, .int a), (2, .int s)] [] h (xCO τ h 0 [(23, 0), (24, 0), (27, 6), (28, 0), (29, 0), (30, 0), (31, 0), (32, 0), (33, 0), (34, 0)] (fun r => r = some (.int (-3))) (fun τ1 h1 => xCX τ1 h1 n st dn rf nr y L wk)) := by
  obtain ⟨hn, f1, f2, f3, f4, hw, hh, hi⟩ := id hc
  obtain ⟨ha, hs⟩ := ok
  refine zy_n 3 (mr := zm_m120) rfl (show _ = some (3, [(0, .ref 0), (1, .int a), (2, .int s)], [.int 3, .int 0, .int a]) from rfl) ?_
  refine zy_c (mr := zm_m120) (mc := zm_m10) rfl rfl rfl rfl rfl ?_
  refine zh_withinE.mono (fun q h' hq => ?_)
  obtain ⟨hez, rfl⟩ := hq
  rw [hez]
  rw [if_pos (show (0 : Int32).toInt ≤ a.toInt ∧ a.toInt ≤ (3 : Int32).toInt from by rw [show (0 : Int32).toInt = 0 from rfl, show (3 : Int32).toInt = 3 from rfl]; exact ha)]
  refine zy_b (mr := zm_m120) rfl rfl (show _ = some (9, []) from rfl) ?_
  refine zy_n 3 (mr := zm_m120) rfl (show _ = some (12, [(0, .ref 0), (1, .int a), (2, .int s)], [.int 3, .int 0, .int s]) from rfl) ?_
  refine zy_c (mr := zm_m120) (mc := zm_m10) rfl rfl rfl rfl rfl ?_
  refine zh_withinE.mono (fun q h' hq => ?_)
  obtain ⟨hez, rfl⟩ := hq
  rw [hez]
  rw [if_pos (show (0 : Int32).toInt ≤ s.toInt ∧ s.toInt ≤ (3 : Int32).toInt from by rw [show (0 : Int32).toInt = 0 from rfl, show (3 : Int32).toInt = 3 from rfl]; exact hs)]
  refine zy_b (mr := zm_m120) rfl rfl (show _ = some (21, []) from rfl) ?_
  refine zy_n 1 (mr := zm_m120) rfl (show _ = some (22, [(0, .ref 0), (1, .int a), (2, .int s)], [.ref 0]) from rfl) ?_
  refine zk_get (mr := zm_m120) rfl rfl hH (hH.2.2 0 rfl) rfl (xfo_ref (k := 0) (f := 9) (a := 27) hH rfl rfl rfl) ?_
  refine zy_n 3 (mr := zm_m120) rfl (show _ = some (28, [(0, .ref 0), (1, .int a), (2, .int s)], [.ref 0, .int s, .int a, .ref 27]) from rfl) ?_
  refine zk_get (mr := zm_m120) rfl rfl hH (hH.2.2 0 rfl) rfl f3 ?_
  refine zy_c (mr := zm_m120) (mc := zm_m121) rfl rfl (zk_co (A := [.int a, .int s, .int y]) hH rfl rfl rfl rfl) rfl rfl ?_
  refine (zh_hwE ha hs hH hw).mono (fun q h' hq => ?_)
  obtain ⟨hez, rfl⟩ := hq
  rw [hez]
  rw [if_neg hk]
  refine zy_b (mr := zm_m120) rfl rfl (show _ = some (40, []) from rfl) ?_
  refine zy_n 4 (mr := zm_m120) rfl (show _ = some (45, [(4, .int 0), (3, .int 0), (0, .ref 0), (1, .int a), (2, .int s)], []) from rfl) ?_
  have hn16 := hn
  have ry := xryX hH f3
  have rL := xrLX hH f4
  have hcl := xcnt_le (fD := dn) (fS := st) (s := s) n
  have eLn := xLc (L := L) (c := xcnt dn st s n) rL.1 (by omega)
  refine zy_sub [(0, .ref 0), (1, .int a), (2, .int s), (3, .int (Int32.ofNat (xcnt dn st s 0))), (4, .int (Int32.ofNat 0))] (by simp) (fun q hq => by simp only [List.mem_cons, List.not_mem_nil, or_false] at hq; rcases hq with rfl | rfl | rfl | rfl | rfl <;> rfl) (zw_x1 (d := 26) hH hc ?_ n 0 (by omega))
  refine zy_n 1 (mr := zm_m120) rfl (show _ = some (79, [(0, .ref 0), (1, .int a), (2, .int s), (3, .int (Int32.ofNat (xcnt dn st s n)))], [.ref 0]) from rfl) ?_
  refine zk_get (mr := zm_m120) rfl rfl hH (hH.2.2 0 rfl) rfl (xfo_ref (k := 0) (f := 9) (a := 27) hH rfl rfl rfl) ?_
  refine zy_n 1 (mr := zm_m120) rfl (show _ = some (83, [(0, .ref 0), (1, .int a), (2, .int s), (3, .int (Int32.ofNat (xcnt dn st s n)))], [.int (Int32.ofNat (xcnt dn st s n)), .ref 27]) from rfl) ?_
  refine zy_c (mr := zm_m120) (mc := zm_m123) rfl rfl (zk_co (A := [.int (Int32.ofNat (xcnt dn st s n))]) hH rfl rfl rfl rfl) rfl rfl ?_
  refine (zh_hrE hH f4).mono (fun q h' hq => ?_)
  obtain ⟨hez, rfl⟩ := hq
  rw [hez]
  rw [if_neg (by rw [eLn]; omega)]
  refine zy_b (mr := zm_m120) rfl rfl (show _ = some (89, []) from rfl) ?_
  refine zy_n 1 (mr := zm_m120) rfl (show _ = some (91, [(0, .ref 0), (1, .int a), (2, .int s), (3, .int (Int32.ofNat (xcnt dn st s n)))], [.int (-3)]) from rfl) ?_
  refine zy_r (mr := zm_m120) rfl rfl (show _ = some (some (.int (-3))) from rfl) ⟨rfl, τ, hH, hX, Nat.le_add_right _ _, xF_refl _ _ _, ⟨ad, hc⟩⟩
theorem xw_x_ok {a s : Int32} (hH : xHI xKT xSG τ h) (hX : xX τ h) (hc : xCXa ad τ h n st dn rf nr y L wk) (ok : (0 ≤ a.toInt ∧ a.toInt ≤ 3) ∧ 0 ≤ s.toInt ∧ s.toInt ≤ 3) (hk : ¬ wk (4 * a.toInt.toNat + s.toInt.toNat) = y) (hfull : L.toInt + ((xcnt dn st s n : Nat) : Int) ≤ 1200) : zm_Y og 30 120 0 [(0, .ref 0), (1, .int a), (2, .int s)] [] h (xCO τ h 0 [(23, 0), (24, 0), (27, 6), (28, 0), (29, 0), (30, 0), (31, 0), (32, 0), (33, 0), (34, 0)] (fun r => r = some (.int (Int32.ofNat (xcnt dn st s n)))) (fun τ1 h1 => xCX τ1 h1 n st dn rf nr y (L + Int32.ofNat (xcnt dn st s n)) (upd wk (4 * a.toInt.toNat + s.toInt.toNat) y))) := by
  obtain ⟨hn, f1, f2, f3, f4, hw, hh, hi⟩ := id hc
  obtain ⟨ha, hs⟩ := ok
  refine zy_n 3 (mr := zm_m120) rfl (show _ = some (3, [(0, .ref 0), (1, .int a), (2, .int s)], [.int 3, .int 0, .int a]) from rfl) ?_
  refine zy_c (mr := zm_m120) (mc := zm_m10) rfl rfl rfl rfl rfl ?_
  refine zh_withinE.mono (fun q h' hq => ?_)
  obtain ⟨hez, rfl⟩ := hq
  rw [hez]
  rw [if_pos (show (0 : Int32).toInt ≤ a.toInt ∧ a.toInt ≤ (3 : Int32).toInt from by rw [show (0 : Int32).toInt = 0 from rfl, show (3 : Int32).toInt = 3 from rfl]; exact ha)]
  refine zy_b (mr := zm_m120) rfl rfl (show _ = some (9, []) from rfl) ?_
  refine zy_n 3 (mr := zm_m120) rfl (show _ = some (12, [(0, .ref 0), (1, .int a), (2, .int s)], [.int 3, .int 0, .int s]) from rfl) ?_
  refine zy_c (mr := zm_m120) (mc := zm_m10) rfl rfl rfl rfl rfl ?_
  refine zh_withinE.mono (fun q h' hq => ?_)
  obtain ⟨hez, rfl⟩ := hq
  rw [hez]
  rw [if_pos (show (0 : Int32).toInt ≤ s.toInt ∧ s.toInt ≤ (3 : Int32).toInt from by rw [show (0 : Int32).toInt = 0 from rfl, show (3 : Int32).toInt = 3 from rfl]; exact hs)]
  refine zy_b (mr := zm_m120) rfl rfl (show _ = some (21, []) from rfl) ?_
  refine zy_n 1 (mr := zm_m120) rfl (show _ = some (22, [(0, .ref 0), (1, .int a), (2, .int s)], [.ref 0]) from rfl) ?_
  refine zk_get (mr := zm_m120) rfl rfl hH (hH.2.2 0 rfl) rfl (xfo_ref (k := 0) (f := 9) (a := 27) hH rfl rfl rfl) ?_
  refine zy_n 3 (mr := zm_m120) rfl (show _ = some (28, [(0, .ref 0), (1, .int a), (2, .int s)], [.ref 0, .int s, .int a, .ref 27]) from rfl) ?_
  refine zk_get (mr := zm_m120) rfl rfl hH (hH.2.2 0 rfl) rfl f3 ?_
  refine zy_c (mr := zm_m120) (mc := zm_m121) rfl rfl (zk_co (A := [.int a, .int s, .int y]) hH rfl rfl rfl rfl) rfl rfl ?_
  refine (zh_hwE ha hs hH hw).mono (fun q h' hq => ?_)
  obtain ⟨hez, rfl⟩ := hq
  rw [hez]
  rw [if_neg hk]
  refine zy_b (mr := zm_m120) rfl rfl (show _ = some (40, []) from rfl) ?_
  refine zy_n 4 (mr := zm_m120) rfl (show _ = some (45, [(4, .int 0), (3, .int 0), (0, .ref 0), (1, .int a), (2, .int s)], []) from rfl) ?_
  have hn16 := hn
  have ry := xryX hH f3
  have rL := xrLX hH f4
  have hcl := xcnt_le (fD := dn) (fS := st) (s := s) n
  have eLn := xLc (L := L) (c := xcnt dn st s n) rL.1 (by omega)
  refine zy_sub [(0, .ref 0), (1, .int a), (2, .int s), (3, .int (Int32.ofNat (xcnt dn st s 0))), (4, .int (Int32.ofNat 0))] (by simp) (fun q hq => by simp only [List.mem_cons, List.not_mem_nil, or_false] at hq; rcases hq with rfl | rfl | rfl | rfl | rfl <;> rfl) (zw_x1 (d := 26) hH hc ?_ n 0 (by omega))
  refine zy_n 1 (mr := zm_m120) rfl (show _ = some (79, [(0, .ref 0), (1, .int a), (2, .int s), (3, .int (Int32.ofNat (xcnt dn st s n)))], [.ref 0]) from rfl) ?_
  refine zk_get (mr := zm_m120) rfl rfl hH (hH.2.2 0 rfl) rfl (xfo_ref (k := 0) (f := 9) (a := 27) hH rfl rfl rfl) ?_
  refine zy_n 1 (mr := zm_m120) rfl (show _ = some (83, [(0, .ref 0), (1, .int a), (2, .int s), (3, .int (Int32.ofNat (xcnt dn st s n)))], [.int (Int32.ofNat (xcnt dn st s n)), .ref 27]) from rfl) ?_
  refine zy_c (mr := zm_m120) (mc := zm_m123) rfl rfl (zk_co (A := [.int (Int32.ofNat (xcnt dn st s n))]) hH rfl rfl rfl rfl) rfl rfl ?_
  refine (zh_hrE hH f4).mono (fun q h' hq => ?_)
  obtain ⟨hez, rfl⟩ := hq
  rw [hez]
  rw [if_pos (by rw [eLn]; omega)]
  refine zy_b (mr := zm_m120) rfl rfl (show _ = some (92, []) from rfl) ?_
  refine zy_n 1 (mr := zm_m120) rfl (show _ = some (93, [(0, .ref 0), (1, .int a), (2, .int s), (3, .int (Int32.ofNat (xcnt dn st s n)))], [.ref 0]) from rfl) ?_
  refine zk_get (mr := zm_m120) rfl rfl hH (hH.2.2 0 rfl) rfl (xfo_ref (k := 0) (f := 7) (a := 7) hH rfl rfl rfl) ?_
  refine zy_n 1 (mr := zm_m120) rfl (show _ = some (97, [(0, .ref 0), (1, .int a), (2, .int s), (3, .int (Int32.ofNat (xcnt dn st s n)))], [.ref 0, .ref 7]) from rfl) ?_
  refine zk_get (mr := zm_m120) rfl rfl hH (hH.2.2 0 rfl) rfl f3 ?_
  refine zy_c (mr := zm_m120) (mc := zm_m75) rfl rfl (zk_co (A := [.int y]) hH rfl rfl rfl rfl) rfl rfl ?_
  refine ((zc_actOf hH hX).deep (Nat.le_of_ble_eq_true rfl)).mono (fun q h1 hq => ?_)
  obtain ⟨τ1, ⟨tt, rfl, ht⟩, hH1, hX1, hW1, hF1⟩ := hq
  have hc := xCXa_F hH hF1 rfl hc
  obtain ⟨hn, f1, f2, f3, f4, hw, hh, hi⟩ := id hc
  refine zy_n 3 (mr := zm_m120) rfl (show _ = some (108, [(5, .int 0), (4, .ref tt), (0, .ref 0), (1, .int a), (2, .int s), (3, .int (Int32.ofNat (xcnt dn st s n)))], []) from rfl) ?_
  have hc : xCXa ad τ1 h1 n st dn rf nr y (L + Int32.ofNat (xcnt dn st s 0)) wk := by rw [show L + Int32.ofNat (xcnt dn st s 0) = L from Int32.add_zero L]; exact hc
  refine (zy_sub [(0, .ref 0), (1, .int a), (2, .int s), (3, .int (Int32.ofNat (xcnt dn st s n))), (4, .ref tt), (5, .int (Int32.ofNat 0))] (by simp) (fun q hq => by simp only [List.mem_cons, List.not_mem_nil, or_false] at hq; rcases hq with rfl | rfl | rfl | rfl | rfl | rfl <;> rfl) (zw_x2 ha hs rL.1 hfull n 0 τ1 h1 (by omega) hH1 hX1 hc ht)).mono (fun r h2 hq => xCO_tr (g1 := 0) (g2 := 0) ((xF_weak hF1 (xmsS rfl))) (by omega) (Nat.le_refl _) hq)
theorem xw_m_bad {a s : Int32} (hH : xHI xKT xSG τ h) (hX : xX τ h) (hc : xCM h n st dn rf nr y L wk) (hb : ¬ ((0 ≤ a.toInt ∧ a.toInt ≤ 3) ∧ 0 ≤ s.toInt ∧ s.toInt ≤ 3)) : zm_Y og 56 261 0 [(0, .ref 55), (1, .int a), (2, .int s)] [] h (xCO τ h 0 [(55, 0), (55, 8), (55, 51), (55, 56), (55, 57), (55, 58), (55, 59), (55, 60), (55, 61), (55, 62), (55, 63), (55, 64), (55, 65), (55, 66), (55, 67), (55, 68), (55, 69), (55, 70), (55, 71), (55, 72), (55, 73), (55, 74), (55, 75), (55, 76), (55, 77), (55, 78), (55, 79), (55, 80), (87, 0), (88, 0), (89, 0), (90, 0), (91, 0), (92, 0), (93, 0)] (fun r => r = some (.int (-2))) (fun τ1 h1 => xCM h1 n st dn rf nr y L wk)) := by
  obtain ⟨hn, f1, f2, f3, f4, hw, hh, hz⟩ := id hc
  by_cases c0 : 0 ≤ a.toInt ∧ a.toInt ≤ 3
  rotate_left
  · refine zy_n 2 (mr := zm_m261) rfl (show _ = some (2, [(0, .ref 55), (1, .int a), (2, .int s)], [.int 0, .ref 55]) from rfl) ?_
    refine zk_put (mr := zm_m261) rfl rfl hH hX (hH.2.2 55 rfl) rfl rfl rfl rfl ⟨_, List.mem_cons_self, ⟨_, rfl, by decide, by decide⟩⟩ ?_
    intro h1 hH1 hX1 hW1 hs1 hg1 hF1
    have hc := xCM_F hH (hF1 [(55, 0)] rfl) rfl hc
    obtain ⟨hn, f1, f2, f3, f4, hw, hh, hz⟩ := id hc
    refine zy_n 4 (mr := zm_m261) rfl (show _ = some (11, [(0, .ref 55), (1, .int a), (2, .int s)], [.long 3, .long 0, .long a.toInt64]) from rfl) ?_
    refine zy_c (mr := zm_m261) (mc := zm_m183) rfl rfl rfl rfl rfl ?_
    refine zh_minE.mono (fun q h' hq => ?_)
    obtain ⟨hez, rfl⟩ := hq
    rw [hez]
    rw [if_neg (show ¬ ((0 : Int64).toInt ≤ a.toInt64.toInt ∧ a.toInt64.toInt ≤ (3 : Int64).toInt) from by rw [Int32.toInt_toInt64, show (0 : Int64).toInt = 0 from rfl, show (3 : Int64).toInt = 3 from rfl]; exact c0)]
    refine zy_b (mr := zm_m261) rfl rfl (show _ = some (29, []) from rfl) ?_
    refine zy_n 1 (mr := zm_m261) rfl (show _ = some (31, [(0, .ref 55), (1, .int a), (2, .int s)], [.int (-2)]) from rfl) ?_
    refine zy_r (mr := zm_m261) rfl rfl (show _ = some (some (.int (-2))) from rfl) ⟨rfl, τ, hH1, hX1, by omega, (hF1 _ rfl), hc⟩
  by_cases c1 : 0 ≤ s.toInt ∧ s.toInt ≤ 3
  rotate_left
  · refine zy_n 2 (mr := zm_m261) rfl (show _ = some (2, [(0, .ref 55), (1, .int a), (2, .int s)], [.int 0, .ref 55]) from rfl) ?_
    refine zk_put (mr := zm_m261) rfl rfl hH hX (hH.2.2 55 rfl) rfl rfl rfl rfl ⟨_, List.mem_cons_self, ⟨_, rfl, by decide, by decide⟩⟩ ?_
    intro h1 hH1 hX1 hW1 hs1 hg1 hF1
    have hc := xCM_F hH (hF1 [(55, 0)] rfl) rfl hc
    obtain ⟨hn, f1, f2, f3, f4, hw, hh, hz⟩ := id hc
    refine zy_n 4 (mr := zm_m261) rfl (show _ = some (11, [(0, .ref 55), (1, .int a), (2, .int s)], [.long 3, .long 0, .long a.toInt64]) from rfl) ?_
    refine zy_c (mr := zm_m261) (mc := zm_m183) rfl rfl rfl rfl rfl ?_
    refine zh_minE.mono (fun q h' hq => ?_)
    obtain ⟨hez, rfl⟩ := hq
    rw [hez]
    rw [if_pos (show (0 : Int64).toInt ≤ a.toInt64.toInt ∧ a.toInt64.toInt ≤ (3 : Int64).toInt from by rw [Int32.toInt_toInt64, show (0 : Int64).toInt = 0 from rfl, show (3 : Int64).toInt = 3 from rfl]; exact c0)]
    refine zy_b (mr := zm_m261) rfl rfl (show _ = some (17, []) from rfl) ?_
    refine zy_n 4 (mr := zm_m261) rfl (show _ = some (23, [(0, .ref 55), (1, .int a), (2, .int s)], [.long 3, .long 0, .long s.toInt64]) from rfl) ?_
    refine zy_c (mr := zm_m261) (mc := zm_m183) rfl rfl rfl rfl rfl ?_
    refine zh_minE.mono (fun q h' hq => ?_)
    obtain ⟨hez, rfl⟩ := hq
    rw [hez]
    rw [if_neg (show ¬ ((0 : Int64).toInt ≤ s.toInt64.toInt ∧ s.toInt64.toInt ≤ (3 : Int64).toInt) from by rw [Int32.toInt_toInt64, show (0 : Int64).toInt = 0 from rfl, show (3 : Int64).toInt = 3 from rfl]; exact c1)]
    refine zy_b (mr := zm_m261) rfl rfl (show _ = some (29, []) from rfl) ?_
    refine zy_n 1 (mr := zm_m261) rfl (show _ = some (31, [(0, .ref 55), (1, .int a), (2, .int s)], [.int (-2)]) from rfl) ?_
    refine zy_r (mr := zm_m261) rfl rfl (show _ = some (some (.int (-2))) from rfl) ⟨rfl, τ, hH1, hX1, by omega, (hF1 _ rfl), hc⟩
  exact absurd ⟨c0, c1⟩ hb
theorem xw_m_alr {a s : Int32} (hH : xHI xKT xSG τ h) (hX : xX τ h) (hc : xCM h n st dn rf nr y L wk) (ok : (0 ≤ a.toInt ∧ a.toInt ≤ 3) ∧ 0 ≤ s.toInt ∧ s.toInt ≤ 3) (hk : wk (4 * a.toInt.toNat + s.toInt.toNat) = y) : zm_Y og 56 261 0 [(0, .ref 55), (1, .int a), (2, .int s)] [] h (xCO τ h 0 [(55, 0), (55, 8), (55, 51), (55, 56), (55, 57), (55, 58), (55, 59), (55, 60), (55, 61), (55, 62), (55, 63), (55, 64), (55, 65), (55, 66), (55, 67), (55, 68), (55, 69), (55, 70), (55, 71), (55, 72), (55, 73), (55, 74), (55, 75), (55, 76), (55, 77), (55, 78), (55, 79), (55, 80), (87, 0), (88, 0), (89, 0), (90, 0), (91, 0), (92, 0), (93, 0)] (fun r => r = some (.int (-9))) (fun τ1 h1 => xCM h1 n st dn rf nr y L wk)) := by
  obtain ⟨hn, f1, f2, f3, f4, hw, hh, hz⟩ := id hc
  obtain ⟨ha, hs⟩ := ok
  refine zy_n 2 (mr := zm_m261) rfl (show _ = some (2, [(0, .ref 55), (1, .int a), (2, .int s)], [.int 0, .ref 55]) from rfl) ?_
  refine zk_put (mr := zm_m261) rfl rfl hH hX (hH.2.2 55 rfl) rfl rfl rfl rfl ⟨_, List.mem_cons_self, ⟨_, rfl, by decide, by decide⟩⟩ ?_
  intro h1 hH1 hX1 hW1 hs1 hg1 hF1
  have hc := xCM_F hH (hF1 [(55, 0)] rfl) rfl hc
  obtain ⟨hn, f1, f2, f3, f4, hw, hh, hz⟩ := id hc
  refine zy_n 4 (mr := zm_m261) rfl (show _ = some (11, [(0, .ref 55), (1, .int a), (2, .int s)], [.long 3, .long 0, .long a.toInt64]) from rfl) ?_
  refine zy_c (mr := zm_m261) (mc := zm_m183) rfl rfl rfl rfl rfl ?_
  refine zh_minE.mono (fun q h' hq => ?_)
  obtain ⟨hez, rfl⟩ := hq
  rw [hez]
  rw [if_pos (show (0 : Int64).toInt ≤ a.toInt64.toInt ∧ a.toInt64.toInt ≤ (3 : Int64).toInt from by rw [Int32.toInt_toInt64, show (0 : Int64).toInt = 0 from rfl, show (3 : Int64).toInt = 3 from rfl]; exact ha)]
  refine zy_b (mr := zm_m261) rfl rfl (show _ = some (17, []) from rfl) ?_
  refine zy_n 4 (mr := zm_m261) rfl (show _ = some (23, [(0, .ref 55), (1, .int a), (2, .int s)], [.long 3, .long 0, .long s.toInt64]) from rfl) ?_
  refine zy_c (mr := zm_m261) (mc := zm_m183) rfl rfl rfl rfl rfl ?_
  refine zh_minE.mono (fun q h' hq => ?_)
  obtain ⟨hez, rfl⟩ := hq
  rw [hez]
  rw [if_pos (show (0 : Int64).toInt ≤ s.toInt64.toInt ∧ s.toInt64.toInt ≤ (3 : Int64).toInt from by rw [Int32.toInt_toInt64, show (0 : Int64).toInt = 0 from rfl, show (3 : Int64).toInt = 3 from rfl]; exact hs)]
  refine zy_b (mr := zm_m261) rfl rfl (show _ = some (32, []) from rfl) ?_
  refine zy_n 1 (mr := zm_m261) rfl (show _ = some (33, [(0, .ref 55), (1, .int a), (2, .int s)], [.ref 55]) from rfl) ?_
  refine zk_get (mr := zm_m261) rfl rfl hH1 (hH1.2.2 55 rfl) rfl (xfo_ref (k := 55) (f := 48) (a := 93) hH1 rfl rfl rfl) ?_
  refine zy_n 5 (mr := zm_m261) rfl (show _ = some (41, [(0, .ref 55), (1, .int a), (2, .int s)], [.int ((4 * a) + s), .ref 93]) from rfl) ?_
  refine zk_ild (mr := zm_m261) rfl rfl hH1 (hH1.2.2 93 rfl) rfl (hw _ (xidw ha hs).2.2) (xidw ha hs).2.1 ?_
  refine zy_n 1 (mr := zm_m261) rfl (show _ = some (43, [(0, .ref 55), (1, .int a), (2, .int s)], [.ref 55, .int (wk (4 * a.toInt.toNat + s.toInt.toNat))]) from rfl) ?_
  refine zk_get (mr := zm_m261) rfl rfl hH1 (hH1.2.2 55 rfl) rfl f3 ?_
  refine zy_b (mr := zm_m261) rfl rfl (show _ = some (zm_ic .ne (wk (4 * a.toInt.toNat + s.toInt.toNat)) y 52 49, []) from rfl) ?_
  refine zc_ne (fun e => absurd hk e) (fun _ => ?_)
  refine zy_n 1 (mr := zm_m261) rfl (show _ = some (51, [(0, .ref 55), (1, .int a), (2, .int s)], [.int (-9)]) from rfl) ?_
  refine zy_r (mr := zm_m261) rfl rfl (show _ = some (some (.int (-9))) from rfl) ⟨rfl, τ, hH1, hX1, by omega, (hF1 _ rfl), hc⟩
theorem xw_m_full {a s : Int32} (hH : xHI xKT xSG τ h) (hX : xX τ h) (hc : xCM h n st dn rf nr y L wk) (ok : (0 ≤ a.toInt ∧ a.toInt ≤ 3) ∧ 0 ≤ s.toInt ∧ s.toInt ≤ 3) (hk : ¬ wk (4 * a.toInt.toNat + s.toInt.toNat) = y) (hfull : ¬ L.toInt + ((xcnt dn st s n : Nat) : Int) ≤ 1200) : zm_Y og 56 261 0 [(0, .ref 55), (1, .int a), (2, .int s)] [] h (xCO τ h 0 [(55, 0), (55, 8), (55, 51), (55, 56), (55, 57), (55, 58), (55, 59), (55, 60), (55, 61), (55, 62), (55, 63), (55, 64), (55, 65), (55, 66), (55, 67), (55, 68), (55, 69), (55, 70), (55, 71), (55, 72), (55, 73), (55, 74), (55, 75), (55, 76), (55, 77), (55, 78), (55, 79), (55, 80), (87, 0), (88, 0), (89, 0), (90, 0), (91, 0), (92, 0), (93, 0)] (fun r => r = some (.int (-3))) (fun τ1 h1 => xCM h1 n st dn rf nr y L wk)) := by
  obtain ⟨hn, f1, f2, f3, f4, hw, hh, hz⟩ := id hc
  obtain ⟨ha, hs⟩ := ok
  refine zy_n 2 (mr := zm_m261) rfl (show _ = some (2, [(0, .ref 55), (1, .int a), (2, .int s)], [.int 0, .ref 55]) from rfl) ?_
  refine zk_put (mr := zm_m261) rfl rfl hH hX (hH.2.2 55 rfl) rfl rfl rfl rfl ⟨_, List.mem_cons_self, ⟨_, rfl, by decide, by decide⟩⟩ ?_
  intro h1 hH1 hX1 hW1 hs1 hg1 hF1
  have hc := xCM_F hH (hF1 [(55, 0)] rfl) rfl hc
  obtain ⟨hn, f1, f2, f3, f4, hw, hh, hz⟩ := id hc
  refine zy_n 4 (mr := zm_m261) rfl (show _ = some (11, [(0, .ref 55), (1, .int a), (2, .int s)], [.long 3, .long 0, .long a.toInt64]) from rfl) ?_
  refine zy_c (mr := zm_m261) (mc := zm_m183) rfl rfl rfl rfl rfl ?_
  refine zh_minE.mono (fun q h' hq => ?_)
  obtain ⟨hez, rfl⟩ := hq
  rw [hez]
  rw [if_pos (show (0 : Int64).toInt ≤ a.toInt64.toInt ∧ a.toInt64.toInt ≤ (3 : Int64).toInt from by rw [Int32.toInt_toInt64, show (0 : Int64).toInt = 0 from rfl, show (3 : Int64).toInt = 3 from rfl]; exact ha)]
  refine zy_b (mr := zm_m261) rfl rfl (show _ = some (17, []) from rfl) ?_
  refine zy_n 4 (mr := zm_m261) rfl (show _ = some (23, [(0, .ref 55), (1, .int a), (2, .int s)], [.long 3, .long 0, .long s.toInt64]) from rfl) ?_
  refine zy_c (mr := zm_m261) (mc := zm_m183) rfl rfl rfl rfl rfl ?_
  refine zh_minE.mono (fun q h' hq => ?_)
  obtain ⟨hez, rfl⟩ := hq
  rw [hez]
  rw [if_pos (show (0 : Int64).toInt ≤ s.toInt64.toInt ∧ s.toInt64.toInt ≤ (3 : Int64).toInt from by rw [Int32.toInt_toInt64, show (0 : Int64).toInt = 0 from rfl, show (3 : Int64).toInt = 3 from rfl]; exact hs)]
  refine zy_b (mr := zm_m261) rfl rfl (show _ = some (32, []) from rfl) ?_
  refine zy_n 1 (mr := zm_m261) rfl (show _ = some (33, [(0, .ref 55), (1, .int a), (2, .int s)], [.ref 55]) from rfl) ?_
  refine zk_get (mr := zm_m261) rfl rfl hH1 (hH1.2.2 55 rfl) rfl (xfo_ref (k := 55) (f := 48) (a := 93) hH1 rfl rfl rfl) ?_
  refine zy_n 5 (mr := zm_m261) rfl (show _ = some (41, [(0, .ref 55), (1, .int a), (2, .int s)], [.int ((4 * a) + s), .ref 93]) from rfl) ?_
  refine zk_ild (mr := zm_m261) rfl rfl hH1 (hH1.2.2 93 rfl) rfl (hw _ (xidw ha hs).2.2) (xidw ha hs).2.1 ?_
  refine zy_n 1 (mr := zm_m261) rfl (show _ = some (43, [(0, .ref 55), (1, .int a), (2, .int s)], [.ref 55, .int (wk (4 * a.toInt.toNat + s.toInt.toNat))]) from rfl) ?_
  refine zk_get (mr := zm_m261) rfl rfl hH1 (hH1.2.2 55 rfl) rfl f3 ?_
  refine zy_b (mr := zm_m261) rfl rfl (show _ = some (zm_ic .ne (wk (4 * a.toInt.toNat + s.toInt.toNat)) y 52 49, []) from rfl) ?_
  refine zc_ne (fun _ => ?_) (fun e => absurd e hk)
  refine zy_n 4 (mr := zm_m261) rfl (show _ = some (57, [(4, .int 0), (3, .int 0), (0, .ref 55), (1, .int a), (2, .int s)], []) from rfl) ?_
  have hn16 := hn
  have ry := xryM hH1 f3
  have rL := xrLM hH1 f4
  have hcl := xcnt_le (fD := dn) (fS := st) (s := s) n
  have eLn := xLc (L := L) (c := xcnt dn st s n) rL.1 (by omega)
  refine zy_sub [(0, .ref 55), (1, .int a), (2, .int s), (3, .int (Int32.ofNat (xcnt dn st s 0))), (4, .int (Int32.ofNat 0))] (by simp) (fun q hq => by simp only [List.mem_cons, List.not_mem_nil, or_false] at hq; rcases hq with rfl | rfl | rfl | rfl | rfl <;> rfl) (zw_m1 (d := 52) hH1 hc ?_ n 0 (by omega))
  refine zy_n 1 (mr := zm_m261) rfl (show _ = some (102, [(0, .ref 55), (1, .int a), (2, .int s), (3, .int (Int32.ofNat (xcnt dn st s n)))], [.ref 55]) from rfl) ?_
  refine zk_get (mr := zm_m261) rfl rfl hH1 (hH1.2.2 55 rfl) rfl f4 ?_
  refine zy_n 3 (mr := zm_m261) rfl (show _ = some (110, [(0, .ref 55), (1, .int a), (2, .int s), (3, .int (Int32.ofNat (xcnt dn st s n)))], [.int 1200, .int (L + (Int32.ofNat (xcnt dn st s n)))]) from rfl) ?_
  refine zy_b (mr := zm_m261) rfl rfl (show _ = some (zm_ic .le (L + (Int32.ofNat (xcnt dn st s n))) 1200 116 113, []) from rfl) ?_
  refine zc_le (fun e => absurd e (fun z => by have z2 := Int32.le_iff_toInt_le.mp z; rw [eLn, show (1200 : Int32).toInt = 1200 from rfl] at z2; omega)) (fun _ => ?_)
  refine zy_n 1 (mr := zm_m261) rfl (show _ = some (115, [(0, .ref 55), (1, .int a), (2, .int s), (3, .int (Int32.ofNat (xcnt dn st s n)))], [.int (-3)]) from rfl) ?_
  refine zy_r (mr := zm_m261) rfl rfl (show _ = some (some (.int (-3))) from rfl) ⟨rfl, τ, hH1, hX1, by omega, (hF1 _ rfl), hc⟩
theorem xw_m_ok {a s : Int32} (hH : xHI xKT xSG τ h) (hX : xX τ h) (hc : xCM h n st dn rf nr y L wk) (ok : (0 ≤ a.toInt ∧ a.toInt ≤ 3) ∧ 0 ≤ s.toInt ∧ s.toInt ≤ 3) (hk : ¬ wk (4 * a.toInt.toNat + s.toInt.toNat) = y) (hfull : L.toInt + ((xcnt dn st s n : Nat) : Int) ≤ 1200) : zm_Y og 56 261 0 [(0, .ref 55), (1, .int a), (2, .int s)] [] h (xCO τ h 0 [(55, 0), (55, 8), (55, 51), (55, 56), (55, 57), (55, 58), (55, 59), (55, 60), (55, 61), (55, 62), (55, 63), (55, 64), (55, 65), (55, 66), (55, 67), (55, 68), (55, 69), (55, 70), (55, 71), (55, 72), (55, 73), (55, 74), (55, 75), (55, 76), (55, 77), (55, 78), (55, 79), (55, 80), (87, 0), (88, 0), (89, 0), (90, 0), (91, 0), (92, 0), (93, 0)] (fun r => r = some (.int (Int32.ofNat (xcnt dn st s n)))) (fun τ1 h1 => xCM h1 n st dn rf nr y (L + Int32.ofNat (xcnt dn st s n)) (upd wk (4 * a.toInt.toNat + s.toInt.toNat) y))) := by
  obtain ⟨hn, f1, f2, f3, f4, hw, hh, hz⟩ := id hc
  obtain ⟨ha, hs⟩ := ok
  refine zy_n 2 (mr := zm_m261) rfl (show _ = some (2, [(0, .ref 55), (1, .int a), (2, .int s)], [.int 0, .ref 55]) from rfl) ?_
  refine zk_put (mr := zm_m261) rfl rfl hH hX (hH.2.2 55 rfl) rfl rfl rfl rfl ⟨_, List.mem_cons_self, ⟨_, rfl, by decide, by decide⟩⟩ ?_
  intro h1 hH1 hX1 hW1 hs1 hg1 hF1
  have hc := xCM_F hH (hF1 [(55, 0)] rfl) rfl hc
  obtain ⟨hn, f1, f2, f3, f4, hw, hh, hz⟩ := id hc
  refine zy_n 4 (mr := zm_m261) rfl (show _ = some (11, [(0, .ref 55), (1, .int a), (2, .int s)], [.long 3, .long 0, .long a.toInt64]) from rfl) ?_
  refine zy_c (mr := zm_m261) (mc := zm_m183) rfl rfl rfl rfl rfl ?_
  refine zh_minE.mono (fun q h' hq => ?_)
  obtain ⟨hez, rfl⟩ := hq
  rw [hez]
  rw [if_pos (show (0 : Int64).toInt ≤ a.toInt64.toInt ∧ a.toInt64.toInt ≤ (3 : Int64).toInt from by rw [Int32.toInt_toInt64, show (0 : Int64).toInt = 0 from rfl, show (3 : Int64).toInt = 3 from rfl]; exact ha)]
  refine zy_b (mr := zm_m261) rfl rfl (show _ = some (17, []) from rfl) ?_
  refine zy_n 4 (mr := zm_m261) rfl (show _ = some (23, [(0, .ref 55), (1, .int a), (2, .int s)], [.long 3, .long 0, .long s.toInt64]) from rfl) ?_
  refine zy_c (mr := zm_m261) (mc := zm_m183) rfl rfl rfl rfl rfl ?_
  refine zh_minE.mono (fun q h' hq => ?_)
  obtain ⟨hez, rfl⟩ := hq
  rw [hez]
  rw [if_pos (show (0 : Int64).toInt ≤ s.toInt64.toInt ∧ s.toInt64.toInt ≤ (3 : Int64).toInt from by rw [Int32.toInt_toInt64, show (0 : Int64).toInt = 0 from rfl, show (3 : Int64).toInt = 3 from rfl]; exact hs)]
  refine zy_b (mr := zm_m261) rfl rfl (show _ = some (32, []) from rfl) ?_
  refine zy_n 1 (mr := zm_m261) rfl (show _ = some (33, [(0, .ref 55), (1, .int a), (2, .int s)], [.ref 55]) from rfl) ?_
  refine zk_get (mr := zm_m261) rfl rfl hH1 (hH1.2.2 55 rfl) rfl (xfo_ref (k := 55) (f := 48) (a := 93) hH1 rfl rfl rfl) ?_
  refine zy_n 5 (mr := zm_m261) rfl (show _ = some (41, [(0, .ref 55), (1, .int a), (2, .int s)], [.int ((4 * a) + s), .ref 93]) from rfl) ?_
  refine zk_ild (mr := zm_m261) rfl rfl hH1 (hH1.2.2 93 rfl) rfl (hw _ (xidw ha hs).2.2) (xidw ha hs).2.1 ?_
  refine zy_n 1 (mr := zm_m261) rfl (show _ = some (43, [(0, .ref 55), (1, .int a), (2, .int s)], [.ref 55, .int (wk (4 * a.toInt.toNat + s.toInt.toNat))]) from rfl) ?_
  refine zk_get (mr := zm_m261) rfl rfl hH1 (hH1.2.2 55 rfl) rfl f3 ?_
  refine zy_b (mr := zm_m261) rfl rfl (show _ = some (zm_ic .ne (wk (4 * a.toInt.toNat + s.toInt.toNat)) y 52 49, []) from rfl) ?_
  refine zc_ne (fun _ => ?_) (fun e => absurd e hk)
  refine zy_n 4 (mr := zm_m261) rfl (show _ = some (57, [(4, .int 0), (3, .int 0), (0, .ref 55), (1, .int a), (2, .int s)], []) from rfl) ?_
  have hn16 := hn
  have ry := xryM hH1 f3
  have rL := xrLM hH1 f4
  have hcl := xcnt_le (fD := dn) (fS := st) (s := s) n
  have eLn := xLc (L := L) (c := xcnt dn st s n) rL.1 (by omega)
  refine zy_sub [(0, .ref 55), (1, .int a), (2, .int s), (3, .int (Int32.ofNat (xcnt dn st s 0))), (4, .int (Int32.ofNat 0))] (by simp) (fun q hq => by simp only [List.mem_cons, List.not_mem_nil, or_false] at hq; rcases hq with rfl | rfl | rfl | rfl | rfl <;> rfl) (zw_m1 (d := 52) hH1 hc ?_ n 0 (by omega))
  refine zy_n 1 (mr := zm_m261) rfl (show _ = some (102, [(0, .ref 55), (1, .int a), (2, .int s), (3, .int (Int32.ofNat (xcnt dn st s n)))], [.ref 55]) from rfl) ?_
  refine zk_get (mr := zm_m261) rfl rfl hH1 (hH1.2.2 55 rfl) rfl f4 ?_
  refine zy_n 3 (mr := zm_m261) rfl (show _ = some (110, [(0, .ref 55), (1, .int a), (2, .int s), (3, .int (Int32.ofNat (xcnt dn st s n)))], [.int 1200, .int (L + (Int32.ofNat (xcnt dn st s n)))]) from rfl) ?_
  refine zy_b (mr := zm_m261) rfl rfl (show _ = some (zm_ic .le (L + (Int32.ofNat (xcnt dn st s n))) 1200 116 113, []) from rfl) ?_
  refine zc_le (fun _ => ?_) (fun e => absurd (Int32.le_iff_toInt_le.mpr (by rw [eLn, show (1200 : Int32).toInt = 1200 from rfl]; omega)) e)
  refine zy_n 1 (mr := zm_m261) rfl (show _ = some (117, [(0, .ref 55), (1, .int a), (2, .int s), (3, .int (Int32.ofNat (xcnt dn st s n)))], [.ref 55]) from rfl) ?_
  refine zk_get (mr := zm_m261) rfl rfl hH1 (hH1.2.2 55 rfl) rfl (xfo_ref (k := 55) (f := 48) (a := 93) hH1 rfl rfl rfl) ?_
  refine zy_n 6 (mr := zm_m261) rfl (show _ = some (126, [(0, .ref 55), (1, .int a), (2, .int s), (3, .int (Int32.ofNat (xcnt dn st s n)))], [.ref 55, .int ((4 * a) + s), .ref 93]) from rfl) ?_
  refine zk_get (mr := zm_m261) rfl rfl hH1 (hH1.2.2 55 rfl) rfl f3 ?_
  refine zk_ist (mr := zm_m261) rfl rfl hH1 hX1 (hH1.2.2 93 rfl) rfl rfl (xidw ha hs).2.1 (xidw ha hs).2.2 List.mem_cons_self ⟨_, rfl, (xb_rng _).1, (xb_rng _).2⟩ ⟨by show (0 : Int) ≤ _; omega, by show _ ≤ (15 : Int); omega, Or.inl rfl⟩ ?_
  intro h2 hH2 hX2 hW2 hs2 hg2 hF2
  have hc := xCM_wk hc (xidw ha hs).2.2 hg2 hs2
  obtain ⟨hn, f1, f2, f3, f4, hw, hh, hz⟩ := id hc
  refine zy_n 2 (mr := zm_m261) rfl (show _ = some (132, [(0, .ref 55), (1, .int a), (2, .int s), (3, .int (Int32.ofNat (xcnt dn st s n)))], [.ref 55, .ref 55]) from rfl) ?_
  refine zk_get (mr := zm_m261) rfl rfl hH2 (hH2.2.2 55 rfl) rfl f3 ?_
  refine zy_c (mr := zm_m261) (mc := zm_m233) rfl rfl (zk_cm (A := [.int y]) hH2 rfl rfl) rfl rfl ?_
  refine ((zc_mactOf hH2 hX2).deep (Nat.le_of_ble_eq_true rfl)).mono (fun q h3 hq => ?_)
  obtain ⟨τ3, ⟨t, rfl, rt⟩, hH3, hX3, hW3, hF3⟩ := hq
  have hc := xCM_F hH2 hF3 rfl hc
  obtain ⟨hn, f1, f2, f3, f4, hw, hh, hz⟩ := id hc
  refine zy_n 3 (mr := zm_m261) rfl (show _ = some (143, [(5, .int 0), (4, .int t), (0, .ref 55), (1, .int a), (2, .int s), (3, .int (Int32.ofNat (xcnt dn st s n)))], []) from rfl) ?_
  have hc : xCM h3 n st dn rf nr y (L + Int32.ofNat (xcnt dn st s 0)) (upd wk (4 * a.toInt.toNat + s.toInt.toNat) y) := by rw [show L + Int32.ofNat (xcnt dn st s 0) = L from Int32.add_zero L]; exact hc
  refine (zy_sub [(0, .ref 55), (1, .int a), (2, .int s), (3, .int (Int32.ofNat (xcnt dn st s n))), (4, .int t), (5, .int (Int32.ofNat 0))] (by simp) (fun q hq => by simp only [List.mem_cons, List.not_mem_nil, or_false] at hq; rcases hq with rfl | rfl | rfl | rfl | rfl | rfl <;> rfl) (zw_m2 rt ha hs rL.1 hfull n 0 τ3 h3 (by omega) hH3 hX3 hc)).mono (fun r h2 hq => xCO_tr (g1 := 0) (g2 := 0) ((xF_trans (hF1 _ rfl) (xF_trans (hF2 _ rfl) (xF_weak hF3 (xmsS rfl))))) (by omega) (Nat.le_refl _) hq)
end XC1
