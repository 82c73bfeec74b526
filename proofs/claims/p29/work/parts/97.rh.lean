/-! Houses, years, lines: piece 7 (made by a program) -/
section XC1
variable {og : Nat → Option zm_C} {τ τ' : List Nat} {h h' : zm_H} {ms : List (Nat × Nat)} {ad : Nat → Nat} {n : Nat} {st dn rf : Nat → Int32} {nr y L : Int32} {wk : Nat → Int32}
theorem zw_x2 {a s z : Int32} {tt : Nat} (ha : 0 ≤ a.toInt ∧ a.toInt ≤ 3) (hs : 0 ≤ s.toInt ∧ s.toInt ≤ 3) (hL0 : 0 ≤ L.toInt) (hLn : L.toInt + ((xcnt dn st s n : Nat) : Int) ≤ 1200) : ∀ (m k : Nat) (τ : List Nat) (h : zm_H), k + m = n → xHI xKT xSG τ h → xX τ h → xCXa ad τ h n st dn rf nr y (L + Int32.ofNat (xcnt dn st s k)) wk → (tt = 16 ∨ τ[tt]? = some 200) → zm_Y og 30 120 108 [(0, .ref 0), (1, .int a), (2, .int s), (3, .int z), (4, .ref tt), (5, .int (Int32.ofNat k))] [] h (xCO τ h 0 [(23, 0), (24, 0), (27, 6), (28, 0), (29, 0), (30, 0), (31, 0), (32, 0), (33, 0), (34, 0)] (fun r => r = some (.int z)) (fun τ1 h1 => xCX τ1 h1 n st dn rf nr y (L + Int32.ofNat (xcnt dn st s n)) (upd wk (4 * a.toInt.toNat + s.toInt.toNat) y)))
  | 0, k, τ, h, hk, hH, hX, hc, ht => by
    have hkn : k = n := by omega
    subst hkn
    obtain ⟨hn, f1, f2, f3, f4, hw, hh, hi⟩ := id hc
    obtain ⟨hn, f1, f2, f3, f4, hw, hh, hi⟩ := id hc
    refine zy_n 2 (mr := zm_m120) rfl (show _ = some (111, [(0, .ref 0), (1, .int a), (2, .int s), (3, .int z), (4, .ref tt), (5, .int (Int32.ofNat k))], [.ref 0, .int (Int32.ofNat k)]) from rfl) ?_
    refine zk_get (mr := zm_m120) rfl rfl hH (hH.2.2 0 rfl) rfl f1 ?_
    refine zy_b (mr := zm_m120) rfl rfl (show _ = some (zm_ic .ge (Int32.ofNat k) (Int32.ofNat k) 177 117, []) from rfl) ?_
    refine zc_ge (fun _ => ?_) (fun e => absurd (Int32.le_refl _) e)
    refine zy_n 1 (mr := zm_m120) rfl (show _ = some (178, [(0, .ref 0), (1, .int a), (2, .int s), (3, .int z), (4, .ref tt), (5, .int (Int32.ofNat k))], [.ref 0]) from rfl) ?_
    refine zk_get (mr := zm_m120) rfl rfl hH (hH.2.2 0 rfl) rfl (xfo_ref (k := 0) (f := 9) (a := 27) hH rfl rfl rfl) ?_
    refine zy_n 3 (mr := zm_m120) rfl (show _ = some (184, [(0, .ref 0), (1, .int a), (2, .int s), (3, .int z), (4, .ref tt), (5, .int (Int32.ofNat k))], [.ref 0, .int s, .int a, .ref 27]) from rfl) ?_
    refine zk_get (mr := zm_m120) rfl rfl hH (hH.2.2 0 rfl) rfl f3 ?_
    refine zy_c (mr := zm_m120) (mc := zm_m125) rfl rfl (zk_co (A := [.int a, .int s, .int y]) hH rfl rfl rfl rfl) rfl rfl ?_
    refine (zh_nwE ha hs hH hX hc).mono (fun q h9 hq => ?_)
    obtain ⟨rfl, τ9, hH9, hX9, hW9, hF9, hc⟩ := hq
    refine zy_n 1 (mr := zm_m120) rfl (show _ = some (191, [(0, .ref 0), (1, .int a), (2, .int s), (3, .int z), (4, .ref tt), (5, .int (Int32.ofNat k))], [.int z]) from rfl) ?_
    refine zy_r (mr := zm_m120) rfl rfl (show _ = some (some (.int z)) from rfl) ⟨rfl, τ9, hH9, hX9, by omega, (xF_weak hF9 (xmsS rfl)), ⟨ad, hc⟩⟩
  | m + 1, k, τ, h, hk, hH, hX, hc, ht => by
    have hlk : k < n := by omega
    obtain ⟨hn, f1, f2, f3, f4, hw, hh, hi⟩ := id hc
    have hn16 := hn
    have hjk := (xofn (k := k) (by omega)).1
    obtain ⟨hn, f1, f2, f3, f4, hw, hh, hi⟩ := id hc
    obtain ⟨g1k, g2k, g3k, g4k, g5k⟩ := hh _ hlk
    have ekn : (Int32.ofNat k).toInt.toNat = k := by rw [hjk]; rfl
    have hle := xcnt_le (fD := dn) (fS := st) (s := s) k
    have eN := (xofn (k := n) (by omega)).1
    have ry := xryX hH f3
    refine zy_n 2 (mr := zm_m120) rfl (show _ = some (111, [(0, .ref 0), (1, .int a), (2, .int s), (3, .int z), (4, .ref tt), (5, .int (Int32.ofNat k))], [.ref 0, .int (Int32.ofNat k)]) from rfl) ?_
    refine zk_get (mr := zm_m120) rfl rfl hH (hH.2.2 0 rfl) rfl f1 ?_
    refine zy_b (mr := zm_m120) rfl rfl (show _ = some (zm_ic .ge (Int32.ofNat k) (Int32.ofNat n) 177 117, []) from rfl) ?_
    refine zc_ge (fun e => absurd e (fun z => by have := Int32.le_iff_toInt_le.mp z; omega)) (fun _ => ?_)
    by_cases c : dn k = 0 ∧ st k = s
    · have e1 : xcnt dn st s (k + 1) = xcnt dn st s k + 1 := by simp only [xcnt, if_pos c]
      have hm1 := xcnt_mono (fD := dn) (fS := st) (s := s) (k := k + 1) m
      rw [show k + 1 + m = n by omega, e1] at hm1
      have eLk := xLc (L := L) (c := xcnt dn st s k) hL0 (by omega)
      refine zy_n 3 (mr := zm_m120) rfl (show _ = some (121, [(0, .ref 0), (1, .int a), (2, .int s), (3, .int z), (4, .ref tt), (5, .int (Int32.ofNat k))], [.int s, .int (Int32.ofNat k), .ref 0]) from rfl) ?_
      refine zy_c (mr := zm_m120) (mc := zm_m122) rfl rfl (zk_cx (A := [.int (Int32.ofNat k), .int s]) hH rfl rfl) rfl rfl ?_
      refine (zh_inE hH hc).mono (fun q h' hq => ?_)
      obtain ⟨hez, rfl⟩ := hq
      rw [hez]
      rw [if_pos ⟨⟨by omega, by omega, by rw [ekn]; exact c.1⟩, by rw [ekn]; exact c.2⟩]
      refine zy_b (mr := zm_m120) rfl rfl (show _ = some (127, []) from rfl) ?_
      refine zy_n 1 (mr := zm_m120) rfl (show _ = some (128, [(0, .ref 0), (1, .int a), (2, .int s), (3, .int z), (4, .ref tt), (5, .int (Int32.ofNat k))], [.ref 0]) from rfl) ?_
      refine zk_get (mr := zm_m120) rfl rfl hH (hH.2.2 0 rfl) rfl (xfo_ref (k := 0) (f := 7) (a := 7) hH rfl rfl rfl) ?_
      refine zy_n 2 (mr := zm_m120) rfl (show _ = some (134, [(0, .ref 0), (1, .int a), (2, .int s), (3, .int z), (4, .ref tt), (5, .int (Int32.ofNat k))], [.ref 0, .ref tt, .ref 7]) from rfl) ?_
      refine zk_get (mr := zm_m120) rfl rfl hH (hH.2.2 0 rfl) rfl (xfo_ref (k := 0) (f := 0) (a := 1) hH rfl rfl rfl) ?_
      refine zy_n 1 (mr := zm_m120) rfl (show _ = some (139, [(0, .ref 0), (1, .int a), (2, .int s), (3, .int z), (4, .ref tt), (5, .int (Int32.ofNat k))], [.int (Int32.ofNat k), .ref 1, .ref tt, .ref 7]) from rfl) ?_
      refine zk_ald (mr := zm_m120) rfl rfl hH (hH.2.2 1 rfl) rfl rfl g1k hjk ?_
      refine zy_n 1 (mr := zm_m120) rfl (show _ = some (141, [(0, .ref 0), (1, .int a), (2, .int s), (3, .int z), (4, .ref tt), (5, .int (Int32.ofNat k))], [.ref 0, .ref ((ad k)), .ref tt, .ref 7]) from rfl) ?_
      refine zk_get (mr := zm_m120) rfl rfl hH (hH.2.2 0 rfl) rfl f3 ?_
      refine zy_n 1 (mr := zm_m120) rfl (show _ = some (145, [(0, .ref 0), (1, .int a), (2, .int s), (3, .int z), (4, .ref tt), (5, .int (Int32.ofNat k))], [.int 1, .int y, .ref ((ad k)), .ref tt, .ref 7]) from rfl) ?_
      refine zy_c (mr := zm_m120) (mc := zm_m85) rfl rfl (zk_co (A := [.ref tt, .ref ((ad k)), .int y, .int 1]) hH rfl rfl rfl rfl) rfl rfl ?_
      refine ((zc_count (w := 1) ht g2k hH hX).deep (Nat.le_of_ble_eq_true rfl)).mono (fun q h1 hq => ?_)
      obtain ⟨τ1, ⟨i, rfl⟩, hH1, hX1, hW1, hF1⟩ := hq
      have hc := xCXa_F hH hF1 rfl hc
      have ht := xtt hF1 ht
      obtain ⟨hn, f1, f2, f3, f4, hw, hh, hi⟩ := id hc
      obtain ⟨g1k, g2k, g3k, g4k, g5k⟩ := hh _ hlk
      refine zy_n 2 (mr := zm_m120) rfl (show _ = some (151, [(6, .int i), (0, .ref 0), (1, .int a), (2, .int s), (3, .int z), (4, .ref tt), (5, .int (Int32.ofNat k))], [.ref 0]) from rfl) ?_
      refine zk_get (mr := zm_m120) rfl rfl hH1 (hH1.2.2 0 rfl) rfl (xfo_ref (k := 0) (f := 9) (a := 27) hH1 rfl rfl rfl) ?_
      refine zy_n 2 (mr := zm_m120) rfl (show _ = some (157, [(6, .int i), (0, .ref 0), (1, .int a), (2, .int s), (3, .int z), (4, .ref tt), (5, .int (Int32.ofNat k))], [.ref 0, .int (Int32.ofNat k), .ref 27]) from rfl) ?_
      refine zk_get (mr := zm_m120) rfl rfl hH1 (hH1.2.2 0 rfl) rfl f3 ?_
      refine zy_n 4 (mr := zm_m120) rfl (show _ = some (165, [(6, .int i), (0, .ref 0), (1, .int a), (2, .int s), (3, .int z), (4, .ref tt), (5, .int (Int32.ofNat k))], [.ref 0, .int a, .int 0, .int i, .int y, .int (Int32.ofNat k), .ref 27]) from rfl) ?_
      refine zk_get (mr := zm_m120) rfl rfl hH1 (hH1.2.2 0 rfl) rfl f3 ?_
      refine zy_c (mr := zm_m120) (mc := zm_m124) rfl rfl (zk_co (A := [.int (Int32.ofNat k), .int y, .int i, .int 0, .int a, .int y]) hH1 rfl rfl rfl rfl) rfl rfl ?_
      refine ((zc_xline (w := 0) hH1 hX1 ⟨by omega, by omega⟩ ry ⟨by decide, by decide⟩ ⟨by omega, by omega⟩ ry ⟨by omega, by omega⟩ f4).deep (Nat.le_of_ble_eq_true rfl)).mono (fun q h2 hq => ?_)
      obtain ⟨τ2, ⟨rfl, m1⟩, hH2, hX2, hW2, hF2⟩ := hq
      have hc := xCXa_L hH1 hF2 rfl m1 hc
      rw [Int32.add_assoc, xofs (by omega), ← e1] at hc
      have ht := xtt hF2 ht
      obtain ⟨hn, f1, f2, f3, f4, hw, hh, hi⟩ := id hc
      obtain ⟨g1k, g2k, g3k, g4k, g5k⟩ := hh _ hlk
      refine zy_n 2 (mr := zm_m120) rfl (show _ = some (108, [(5, .int ((Int32.ofNat k) + 1)), (6, .int i), (0, .ref 0), (1, .int a), (2, .int s), (3, .int z), (4, .ref tt)], []) from rfl) ?_
      have ih := zw_x2 (z := z) ha hs hL0 hLn m (k + 1) τ2 h2 (by omega) hH2 hX2 hc ht
      rw [xofs (by omega)]
      refine (zy_sub [(0, .ref 0), (1, .int a), (2, .int s), (3, .int z), (4, .ref tt), (5, .int (Int32.ofNat (k + 1)))] (by simp) (fun q hq => by simp only [List.mem_cons, List.not_mem_nil, or_false] at hq; rcases hq with rfl | rfl | rfl | rfl | rfl | rfl <;> rfl) ih).mono (fun r h2 hq => xCO_tr (g1 := 0) (g2 := 0) ((xF_trans (xF_weak hF1 (xmsS rfl)) (xF_weak hF2 (xmsS rfl)))) (by omega) (Nat.le_refl _) hq)
    · have e1 : xcnt dn st s (k + 1) = xcnt dn st s k := by simp only [xcnt, if_neg c, Nat.add_zero]
      refine zy_n 3 (mr := zm_m120) rfl (show _ = some (121, [(0, .ref 0), (1, .int a), (2, .int s), (3, .int z), (4, .ref tt), (5, .int (Int32.ofNat k))], [.int s, .int (Int32.ofNat k), .ref 0]) from rfl) ?_
      refine zy_c (mr := zm_m120) (mc := zm_m122) rfl rfl (zk_cx (A := [.int (Int32.ofNat k), .int s]) hH rfl rfl) rfl rfl ?_
      refine (zh_inE hH hc).mono (fun q h' hq => ?_)
      obtain ⟨hez, rfl⟩ := hq
      rw [hez]
      rw [if_neg (fun z => c ⟨by have z3 := z.1.2.2; rw [ekn] at z3; exact z3, by have z4 := z.2; rw [ekn] at z4; exact z4⟩)]
      refine zy_b (mr := zm_m120) rfl rfl (show _ = some (171, []) from rfl) ?_
      refine zy_n 2 (mr := zm_m120) rfl (show _ = some (108, [(5, .int ((Int32.ofNat k) + 1)), (0, .ref 0), (1, .int a), (2, .int s), (3, .int z), (4, .ref tt)], []) from rfl) ?_
      rw [← e1] at hc
      have ih := zw_x2 (z := z) ha hs hL0 hLn m (k + 1) τ h (by omega) hH hX hc ht
      rw [xofs (by omega)]
      refine (zy_sub [(0, .ref 0), (1, .int a), (2, .int s), (3, .int z), (4, .ref tt), (5, .int (Int32.ofNat (k + 1)))] (by simp) (fun q hq => by simp only [List.mem_cons, List.not_mem_nil, or_false] at hq; rcases hq with rfl | rfl | rfl | rfl | rfl | rfl <;> rfl) ih).mono (fun r h2 hq => xCO_tr (g1 := 0) (g2 := 0) (xF_refl _ _ _) (by omega) (Nat.le_refl _) hq)
theorem zw_m2 {a s z : Int32} {t : Int32} (rt : -1 ≤ t.toInt ∧ t.toInt ≤ 11) (ha : 0 ≤ a.toInt ∧ a.toInt ≤ 3) (hs : 0 ≤ s.toInt ∧ s.toInt ≤ 3) (hL0 : 0 ≤ L.toInt) (hLn : L.toInt + ((xcnt dn st s n : Nat) : Int) ≤ 1200) : ∀ (m k : Nat) (τ : List Nat) (h : zm_H), k + m = n → xHI xKT xSG τ h → xX τ h → xCM h n st dn rf nr y (L + Int32.ofNat (xcnt dn st s k)) wk → zm_Y og 56 261 143 [(0, .ref 55), (1, .int a), (2, .int s), (3, .int z), (4, .int t), (5, .int (Int32.ofNat k))] [] h (xCO τ h 0 [(55, 0), (55, 8), (55, 51), (55, 56), (55, 57), (55, 58), (55, 59), (55, 60), (55, 61), (55, 62), (55, 63), (55, 64), (55, 65), (55, 66), (55, 67), (55, 68), (55, 69), (55, 70), (55, 71), (55, 72), (55, 73), (55, 74), (55, 75), (55, 76), (55, 77), (55, 78), (55, 79), (55, 80), (87, 0), (88, 0), (89, 0), (90, 0), (91, 0), (92, 0), (93, 0)] (fun r => r = some (.int z)) (fun τ1 h1 => xCM h1 n st dn rf nr y (L + Int32.ofNat (xcnt dn st s n)) wk))
  | 0, k, τ, h, hk, hH, hX, hc => by
    have hkn : k = n := by omega
    subst hkn
    obtain ⟨hn, f1, f2, f3, f4, hw, hh, hz⟩ := id hc
    obtain ⟨hn, f1, f2, f3, f4, hw, hh, hz⟩ := id hc
    refine zy_n 2 (mr := zm_m261) rfl (show _ = some (146, [(0, .ref 55), (1, .int a), (2, .int s), (3, .int z), (4, .int t), (5, .int (Int32.ofNat k))], [.ref 55, .int (Int32.ofNat k)]) from rfl) ?_
    refine zk_get (mr := zm_m261) rfl rfl hH (hH.2.2 55 rfl) rfl f1 ?_
    refine zy_b (mr := zm_m261) rfl rfl (show _ = some (zm_ic .ge (Int32.ofNat k) (Int32.ofNat k) 210 152, []) from rfl) ?_
    refine zc_ge (fun _ => ?_) (fun e => absurd (Int32.le_refl _) e)
    refine zy_n 1 (mr := zm_m261) rfl (show _ = some (211, [(0, .ref 55), (1, .int a), (2, .int s), (3, .int z), (4, .int t), (5, .int (Int32.ofNat k))], [.int z]) from rfl) ?_
    refine zy_r (mr := zm_m261) rfl rfl (show _ = some (some (.int z)) from rfl) ⟨rfl, τ, hH, hX, Nat.le_add_right _ _, xF_refl _ _ _, hc⟩
  | m + 1, k, τ, h, hk, hH, hX, hc => by
    have hlk : k < n := by omega
    obtain ⟨hn, f1, f2, f3, f4, hw, hh, hz⟩ := id hc
    have hn16 := hn
    have hjk := (xofn (k := k) (by omega)).1
    obtain ⟨hn, f1, f2, f3, f4, hw, hh, hz⟩ := id hc
    obtain ⟨g1k, g2k, g3k⟩ := hh _ hlk
    have ekn : (Int32.ofNat k).toInt.toNat = k := by rw [hjk]; rfl
    have hle := xcnt_le (fD := dn) (fS := st) (s := s) k
    have eN := (xofn (k := n) (by omega)).1
    have ry := xryM hH f3
    refine zy_n 2 (mr := zm_m261) rfl (show _ = some (146, [(0, .ref 55), (1, .int a), (2, .int s), (3, .int z), (4, .int t), (5, .int (Int32.ofNat k))], [.ref 55, .int (Int32.ofNat k)]) from rfl) ?_
    refine zk_get (mr := zm_m261) rfl rfl hH (hH.2.2 55 rfl) rfl f1 ?_
    refine zy_b (mr := zm_m261) rfl rfl (show _ = some (zm_ic .ge (Int32.ofNat k) (Int32.ofNat n) 210 152, []) from rfl) ?_
    refine zc_ge (fun e => absurd e (fun z => by have := Int32.le_iff_toInt_le.mp z; omega)) (fun _ => ?_)
    by_cases c : dn k = 0 ∧ st k = s
    · have e1 : xcnt dn st s (k + 1) = xcnt dn st s k + 1 := by simp only [xcnt, if_pos c]
      have hm1 := xcnt_mono (fD := dn) (fS := st) (s := s) (k := k + 1) m
      rw [show k + 1 + m = n by omega, e1] at hm1
      have eLk := xLc (L := L) (c := xcnt dn st s k) hL0 (by omega)
      refine zy_n 1 (mr := zm_m261) rfl (show _ = some (153, [(0, .ref 55), (1, .int a), (2, .int s), (3, .int z), (4, .int t), (5, .int (Int32.ofNat k))], [.ref 55]) from rfl) ?_
      refine zk_get (mr := zm_m261) rfl rfl hH (hH.2.2 55 rfl) rfl (xfo_ref (k := 55) (f := 24) (a := 69) hH rfl rfl rfl) ?_
      refine zy_n 1 (mr := zm_m261) rfl (show _ = some (158, [(0, .ref 55), (1, .int a), (2, .int s), (3, .int z), (4, .int t), (5, .int (Int32.ofNat k))], [.int (Int32.ofNat k), .ref 69]) from rfl) ?_
      refine zk_zld (mr := zm_m261) rfl rfl hH (hH.2.2 69 rfl) rfl g3k hjk ?_
      refine zy_b (mr := zm_m261) rfl rfl (show _ = some (zm_if .ne (dn k) 204 162, []) from rfl) ?_
      refine zi_ne (fun e => absurd c.1 e) (fun _ => ?_)
      refine zy_n 1 (mr := zm_m261) rfl (show _ = some (163, [(0, .ref 55), (1, .int a), (2, .int s), (3, .int z), (4, .int t), (5, .int (Int32.ofNat k))], [.ref 55]) from rfl) ?_
      refine zk_get (mr := zm_m261) rfl rfl hH (hH.2.2 55 rfl) rfl (xfo_ref (k := 55) (f := 17) (a := 62) hH rfl rfl rfl) ?_
      refine zy_n 1 (mr := zm_m261) rfl (show _ = some (168, [(0, .ref 55), (1, .int a), (2, .int s), (3, .int z), (4, .int t), (5, .int (Int32.ofNat k))], [.int (Int32.ofNat k), .ref 62]) from rfl) ?_
      refine zk_ild (mr := zm_m261) rfl rfl hH (hH.2.2 62 rfl) rfl g1k hjk ?_
      refine zy_n 1 (mr := zm_m261) rfl (show _ = some (170, [(0, .ref 55), (1, .int a), (2, .int s), (3, .int z), (4, .int t), (5, .int (Int32.ofNat k))], [.int s, .int (st k)]) from rfl) ?_
      refine zy_b (mr := zm_m261) rfl rfl (show _ = some (zm_ic .ne (st k) s 204 173, []) from rfl) ?_
      refine zc_ne (fun e => absurd c.2 e) (fun _ => ?_)
      refine zy_n 3 (mr := zm_m261) rfl (show _ = some (177, [(0, .ref 55), (1, .int a), (2, .int s), (3, .int z), (4, .int t), (5, .int (Int32.ofNat k))], [.ref 55, .int (Int32.ofNat k), .ref 55]) from rfl) ?_
      refine zk_get (mr := zm_m261) rfl rfl hH (hH.2.2 55 rfl) rfl f3 ?_
      refine zy_n 4 (mr := zm_m261) rfl (show _ = some (186, [(0, .ref 55), (1, .int a), (2, .int s), (3, .int z), (4, .int t), (5, .int (Int32.ofNat k))], [.ref 55, .int (Int32.ofNat k), .int t, .ref 55, .int y, .int (Int32.ofNat k), .ref 55]) from rfl) ?_
      refine zk_get (mr := zm_m261) rfl rfl hH (hH.2.2 55 rfl) rfl f3 ?_
      refine zy_n 3 (mr := zm_m261) rfl (show _ = some (193, [(0, .ref 55), (1, .int a), (2, .int s), (3, .int z), (4, .int t), (5, .int (Int32.ofNat k))], [.int 1, .int (Int32.ofNat k), .ref 55, .int y, .int (Int32.ofNat k), .int t, .ref 55, .int y, .int (Int32.ofNat k), .ref 55]) from rfl) ?_
      refine zy_c (mr := zm_m261) (mc := zm_m236) rfl rfl (zk_cm (A := [.int (Int32.ofNat k), .int 1]) hH rfl rfl) rfl rfl ?_
      refine ((zc_msetOf (w := 1) hH hX ⟨by omega, by omega⟩).deep (Nat.le_of_ble_eq_true rfl)).mono (fun q h1 hq => ?_)
      obtain ⟨τ1, ⟨i, rfl⟩, hH1, hX1, hW1, hF1⟩ := hq
      have hc := xCM_F hH hF1 rfl hc
      obtain ⟨hn, f1, f2, f3, f4, hw, hh, hz⟩ := id hc
      obtain ⟨g1k, g2k, g3k⟩ := hh _ hlk
      refine zy_c (mr := zm_m261) (mc := zm_m237) rfl rfl (zk_cm (A := [.int t, .int (Int32.ofNat k), .int y, .int i]) hH1 rfl rfl) rfl rfl ?_
      refine ((zc_mcountOf hH1 hX1 ⟨by omega, by omega⟩ ⟨by omega, by omega⟩).deep (Nat.le_of_ble_eq_true rfl)).mono (fun q h2 hq => ?_)
      obtain ⟨τ2, ⟨i2, rfl⟩, hH2, hX2, hW2, hF2⟩ := hq
      have hc := xCM_F hH1 hF2 rfl hc
      obtain ⟨hn, f1, f2, f3, f4, hw, hh, hz⟩ := id hc
      obtain ⟨g1k, g2k, g3k⟩ := hh _ hlk
      refine zy_n 2 (mr := zm_m261) rfl (show _ = some (201, [(0, .ref 55), (1, .int a), (2, .int s), (3, .int z), (4, .int t), (5, .int (Int32.ofNat k))], [.int a, .int 0, .int i2, .int y, .int (Int32.ofNat k), .ref 55]) from rfl) ?_
      refine zy_c (mr := zm_m261) (mc := zm_m262) rfl rfl (zk_cm (A := [.int (Int32.ofNat k), .int y, .int i2, .int 0, .int a]) hH2 rfl rfl) rfl rfl ?_
      refine ((zc_mline (w := 0) hH2 hX2 ⟨by omega, by omega⟩ ry ⟨by decide, by decide⟩ ⟨by omega, by omega⟩ ⟨by omega, by omega⟩ f4).deep (Nat.le_of_ble_eq_true rfl)).mono (fun q h3 hq => ?_)
      obtain ⟨τ3, ⟨rfl, m1⟩, hH3, hX3, hW3, hF3⟩ := hq
      have hc := xCM_L hH2 hF3 rfl m1 hc
      rw [Int32.add_assoc, xofs (by omega), ← e1] at hc
      obtain ⟨hn, f1, f2, f3, f4, hw, hh, hz⟩ := id hc
      obtain ⟨g1k, g2k, g3k⟩ := hh _ hlk
      refine zy_n 2 (mr := zm_m261) rfl (show _ = some (143, [(5, .int ((Int32.ofNat k) + 1)), (0, .ref 55), (1, .int a), (2, .int s), (3, .int z), (4, .int t)], []) from rfl) ?_
      have ih := zw_m2 (z := z) rt ha hs hL0 hLn m (k + 1) τ3 h3 (by omega) hH3 hX3 hc
      rw [xofs (by omega)]
      refine (zy_sub [(0, .ref 55), (1, .int a), (2, .int s), (3, .int z), (4, .int t), (5, .int (Int32.ofNat (k + 1)))] (by simp) (fun q hq => by simp only [List.mem_cons, List.not_mem_nil, or_false] at hq; rcases hq with rfl | rfl | rfl | rfl | rfl | rfl <;> rfl) ih).mono (fun r h2 hq => xCO_tr (g1 := 0) (g2 := 0) ((xF_trans (xF_weak hF1 (xmsS rfl)) (xF_trans (xF_weak hF2 (xmsS rfl)) (xF_weak hF3 (xmsS rfl))))) (by omega) (Nat.le_refl _) hq)
    · have e1 : xcnt dn st s (k + 1) = xcnt dn st s k := by simp only [xcnt, if_neg c, Nat.add_zero]
      refine zy_n 1 (mr := zm_m261) rfl (show _ = some (153, [(0, .ref 55), (1, .int a), (2, .int s), (3, .int z), (4, .int t), (5, .int (Int32.ofNat k))], [.ref 55]) from rfl) ?_
      refine zk_get (mr := zm_m261) rfl rfl hH (hH.2.2 55 rfl) rfl (xfo_ref (k := 55) (f := 24) (a := 69) hH rfl rfl rfl) ?_
      refine zy_n 1 (mr := zm_m261) rfl (show _ = some (158, [(0, .ref 55), (1, .int a), (2, .int s), (3, .int z), (4, .int t), (5, .int (Int32.ofNat k))], [.int (Int32.ofNat k), .ref 69]) from rfl) ?_
      refine zk_zld (mr := zm_m261) rfl rfl hH (hH.2.2 69 rfl) rfl g3k hjk ?_
      refine zy_b (mr := zm_m261) rfl rfl (show _ = some (zm_if .ne (dn k) 204 162, []) from rfl) ?_
      refine zi_ne (fun c2 => ?_) (fun c2 => ?_)
      · refine zy_n 2 (mr := zm_m261) rfl (show _ = some (143, [(5, .int ((Int32.ofNat k) + 1)), (0, .ref 55), (1, .int a), (2, .int s), (3, .int z), (4, .int t)], []) from rfl) ?_
        rw [← e1] at hc
        have ih := zw_m2 (z := z) rt ha hs hL0 hLn m (k + 1) τ h (by omega) hH hX hc
        rw [xofs (by omega)]
        refine (zy_sub [(0, .ref 55), (1, .int a), (2, .int s), (3, .int z), (4, .int t), (5, .int (Int32.ofNat (k + 1)))] (by simp) (fun q hq => by simp only [List.mem_cons, List.not_mem_nil, or_false] at hq; rcases hq with rfl | rfl | rfl | rfl | rfl | rfl <;> rfl) ih).mono (fun r h2 hq => xCO_tr (g1 := 0) (g2 := 0) (xF_refl _ _ _) (by omega) (Nat.le_refl _) hq)
      · refine zy_n 1 (mr := zm_m261) rfl (show _ = some (163, [(0, .ref 55), (1, .int a), (2, .int s), (3, .int z), (4, .int t), (5, .int (Int32.ofNat k))], [.ref 55]) from rfl) ?_
        refine zk_get (mr := zm_m261) rfl rfl hH (hH.2.2 55 rfl) rfl (xfo_ref (k := 55) (f := 17) (a := 62) hH rfl rfl rfl) ?_
        refine zy_n 1 (mr := zm_m261) rfl (show _ = some (168, [(0, .ref 55), (1, .int a), (2, .int s), (3, .int z), (4, .int t), (5, .int (Int32.ofNat k))], [.int (Int32.ofNat k), .ref 62]) from rfl) ?_
        refine zk_ild (mr := zm_m261) rfl rfl hH (hH.2.2 62 rfl) rfl g1k hjk ?_
        refine zy_n 1 (mr := zm_m261) rfl (show _ = some (170, [(0, .ref 55), (1, .int a), (2, .int s), (3, .int z), (4, .int t), (5, .int (Int32.ofNat k))], [.int s, .int (st k)]) from rfl) ?_
        refine zy_b (mr := zm_m261) rfl rfl (show _ = some (zm_ic .ne (st k) s 204 173, []) from rfl) ?_
        refine zc_ne (fun _ => ?_) (fun e => absurd e (fun z => c ⟨c2, z⟩))
        refine zy_n 2 (mr := zm_m261) rfl (show _ = some (143, [(5, .int ((Int32.ofNat k) + 1)), (0, .ref 55), (1, .int a), (2, .int s), (3, .int z), (4, .int t)], []) from rfl) ?_
        rw [← e1] at hc
        have ih := zw_m2 (z := z) rt ha hs hL0 hLn m (k + 1) τ h (by omega) hH hX hc
        rw [xofs (by omega)]
        refine (zy_sub [(0, .ref 55), (1, .int a), (2, .int s), (3, .int z), (4, .int t), (5, .int (Int32.ofNat (k + 1)))] (by simp) (fun q hq => by simp only [List.mem_cons, List.not_mem_nil, or_false] at hq; rcases hq with rfl | rfl | rfl | rfl | rfl | rfl <;> rfl) ih).mono (fun r h2 hq => xCO_tr (g1 := 0) (g2 := 0) (xF_refl _ _ _) (by omega) (Nat.le_refl _) hq)
end XC1
