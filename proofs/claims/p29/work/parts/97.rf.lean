/-! Houses, years, lines: piece 5 (made by a program) -/
section XC1
variable {og : Nat → Option zm_C} {τ τ' : List Nat} {h h' : zm_H} {ms : List (Nat × Nat)} {ad : Nat → Nat} {n : Nat} {st dn rf : Nat → Int32} {nr y L : Int32} {wk : Nat → Int32}
theorem zw_x1 {d : Nat} {a s : Int32} {Q : Option Value → zm_H → Prop} (hH : xHI xKT xSG τ h) (hc : xCXa ad τ h n st dn rf nr y L wk) (kk : zm_Y og (d + 4) 120 78 [(0, .ref 0), (1, .int a), (2, .int s), (3, .int (Int32.ofNat (xcnt dn st s n)))] [] h Q) : ∀ (m k : Nat), k + m = n → zm_Y og (d + 4) 120 45 [(0, .ref 0), (1, .int a), (2, .int s), (3, .int (Int32.ofNat (xcnt dn st s k))), (4, .int (Int32.ofNat k))] [] h Q
  | 0, k, hk => by
    have hkn : k = n := by omega
    subst hkn
    obtain ⟨hn, f1, f2, f3, f4, hw, hh, hi⟩ := id hc
    obtain ⟨hn, f1, f2, f3, f4, hw, hh, hi⟩ := id hc
    refine zy_n 2 (mr := zm_m120) rfl (show _ = some (48, [(0, .ref 0), (1, .int a), (2, .int s), (3, .int (Int32.ofNat (xcnt dn st s k))), (4, .int (Int32.ofNat k))], [.ref 0, .int (Int32.ofNat k)]) from rfl) ?_
    refine zk_get (mr := zm_m120) rfl rfl hH (hH.2.2 0 rfl) rfl f1 ?_
    refine zy_b (mr := zm_m120) rfl rfl (show _ = some (zm_ic .ge (Int32.ofNat k) (Int32.ofNat k) 78 54, []) from rfl) ?_
    refine zc_ge (fun _ => ?_) (fun e => absurd (Int32.le_refl _) e)
    exact zy_sub [(0, .ref 0), (1, .int a), (2, .int s), (3, .int (Int32.ofNat (xcnt dn st s k)))] (by simp) (fun q hq => by simp only [List.mem_cons, List.not_mem_nil, or_false] at hq; rcases hq with rfl | rfl | rfl | rfl <;> rfl) (kk)
  | m + 1, k, hk => by
    have hlk : k < n := by omega
    obtain ⟨hn, f1, f2, f3, f4, hw, hh, hi⟩ := id hc
    have hn16 := hn
    have hjk := (xofn (k := k) (by omega)).1
    obtain ⟨hn, f1, f2, f3, f4, hw, hh, hi⟩ := id hc
    obtain ⟨g1k, g2k, g3k, g4k, g5k⟩ := hh _ hlk
    have ekn : (Int32.ofNat k).toInt.toNat = k := by rw [hjk]; rfl
    have hle := xcnt_le (fD := dn) (fS := st) (s := s) k
    have eN := (xofn (k := n) (by omega)).1
    have ih := zw_x1 hH hc kk m (k + 1) (by omega)
    refine zy_n 2 (mr := zm_m120) rfl (show _ = some (48, [(0, .ref 0), (1, .int a), (2, .int s), (3, .int (Int32.ofNat (xcnt dn st s k))), (4, .int (Int32.ofNat k))], [.ref 0, .int (Int32.ofNat k)]) from rfl) ?_
    refine zk_get (mr := zm_m120) rfl rfl hH (hH.2.2 0 rfl) rfl f1 ?_
    refine zy_b (mr := zm_m120) rfl rfl (show _ = some (zm_ic .ge (Int32.ofNat k) (Int32.ofNat n) 78 54, []) from rfl) ?_
    refine zc_ge (fun e => absurd e (fun z => by have := Int32.le_iff_toInt_le.mp z; omega)) (fun _ => ?_)
    by_cases c : dn k = 0 ∧ st k = s
    · have e1 : xcnt dn st s (k + 1) = xcnt dn st s k + 1 := by simp only [xcnt, if_pos c]
      rw [e1] at ih
      refine zy_n 4 (mr := zm_m120) rfl (show _ = some (59, [(0, .ref 0), (1, .int a), (2, .int s), (3, .int (Int32.ofNat (xcnt dn st s k))), (4, .int (Int32.ofNat k))], [.int s, .int (Int32.ofNat k), .ref 0, .int (Int32.ofNat (xcnt dn st s k))]) from rfl) ?_
      refine zy_c (mr := zm_m120) (mc := zm_m122) rfl rfl (zk_cx (A := [.int (Int32.ofNat k), .int s]) hH rfl rfl) rfl rfl ?_
      refine (zh_inE hH hc).mono (fun q h' hq => ?_)
      obtain ⟨hez, rfl⟩ := hq
      rw [hez]
      rw [if_pos ⟨⟨by omega, by omega, by rw [ekn]; exact c.1⟩, by rw [ekn]; exact c.2⟩]
      refine zy_b (mr := zm_m120) rfl rfl (show _ = some (65, [.int (Int32.ofNat (xcnt dn st s k))]) from rfl) ?_
      refine zy_n 6 (mr := zm_m120) rfl (show _ = some (45, [(4, .int ((Int32.ofNat k) + 1)), (3, .int ((Int32.ofNat (xcnt dn st s k)) + 1)), (0, .ref 0), (1, .int a), (2, .int s)], []) from rfl) ?_
      rw [xofs (by omega), xofs (by omega)]
      exact zy_sub [(0, .ref 0), (1, .int a), (2, .int s), (3, .int (Int32.ofNat (xcnt dn st s k + 1))), (4, .int (Int32.ofNat (k + 1)))] (by simp) (fun q hq => by simp only [List.mem_cons, List.not_mem_nil, or_false] at hq; rcases hq with rfl | rfl | rfl | rfl | rfl <;> rfl) (ih)
    · have e1 : xcnt dn st s (k + 1) = xcnt dn st s k := by simp only [xcnt, if_neg c, Nat.add_zero]
      rw [e1] at ih
      refine zy_n 4 (mr := zm_m120) rfl (show _ = some (59, [(0, .ref 0), (1, .int a), (2, .int s), (3, .int (Int32.ofNat (xcnt dn st s k))), (4, .int (Int32.ofNat k))], [.int s, .int (Int32.ofNat k), .ref 0, .int (Int32.ofNat (xcnt dn st s k))]) from rfl) ?_
      refine zy_c (mr := zm_m120) (mc := zm_m122) rfl rfl (zk_cx (A := [.int (Int32.ofNat k), .int s]) hH rfl rfl) rfl rfl ?_
      refine (zh_inE hH hc).mono (fun q h' hq => ?_)
      obtain ⟨hez, rfl⟩ := hq
      rw [hez]
      rw [if_neg (fun z => c ⟨by have z3 := z.1.2.2; rw [ekn] at z3; exact z3, by have z4 := z.2; rw [ekn] at z4; exact z4⟩)]
      refine zy_b (mr := zm_m120) rfl rfl (show _ = some (69, [.int (Int32.ofNat (xcnt dn st s k))]) from rfl) ?_
      refine zy_n 5 (mr := zm_m120) rfl (show _ = some (45, [(4, .int ((Int32.ofNat k) + 1)), (3, .int ((Int32.ofNat (xcnt dn st s k)) + 0)), (0, .ref 0), (1, .int a), (2, .int s)], []) from rfl) ?_
      rw [xofs (by omega), Int32.add_zero]
      exact zy_sub [(0, .ref 0), (1, .int a), (2, .int s), (3, .int (Int32.ofNat (xcnt dn st s k))), (4, .int (Int32.ofNat (k + 1)))] (by simp) (fun q hq => by simp only [List.mem_cons, List.not_mem_nil, or_false] at hq; rcases hq with rfl | rfl | rfl | rfl | rfl <;> rfl) (ih)
theorem zw_m1 {d : Nat} {a s : Int32} {Q : Option Value → zm_H → Prop} (hH : xHI xKT xSG τ h) (hc : xCM h n st dn rf nr y L wk) (kk : zm_Y og (d + 4) 261 101 [(0, .ref 55), (1, .int a), (2, .int s), (3, .int (Int32.ofNat (xcnt dn st s n)))] [] h Q) : ∀ (m k : Nat), k + m = n → zm_Y og (d + 4) 261 57 [(0, .ref 55), (1, .int a), (2, .int s), (3, .int (Int32.ofNat (xcnt dn st s k))), (4, .int (Int32.ofNat k))] [] h Q
  | 0, k, hk => by
    have hkn : k = n := by omega
    subst hkn
    obtain ⟨hn, f1, f2, f3, f4, hw, hh, hz⟩ := id hc
    obtain ⟨hn, f1, f2, f3, f4, hw, hh, hz⟩ := id hc
    refine zy_n 2 (mr := zm_m261) rfl (show _ = some (60, [(0, .ref 55), (1, .int a), (2, .int s), (3, .int (Int32.ofNat (xcnt dn st s k))), (4, .int (Int32.ofNat k))], [.ref 55, .int (Int32.ofNat k)]) from rfl) ?_
    refine zk_get (mr := zm_m261) rfl rfl hH (hH.2.2 55 rfl) rfl f1 ?_
    refine zy_b (mr := zm_m261) rfl rfl (show _ = some (zm_ic .ge (Int32.ofNat k) (Int32.ofNat k) 101 66, []) from rfl) ?_
    refine zc_ge (fun _ => ?_) (fun e => absurd (Int32.le_refl _) e)
    exact zy_sub [(0, .ref 55), (1, .int a), (2, .int s), (3, .int (Int32.ofNat (xcnt dn st s k)))] (by simp) (fun q hq => by simp only [List.mem_cons, List.not_mem_nil, or_false] at hq; rcases hq with rfl | rfl | rfl | rfl <;> rfl) (kk)
  | m + 1, k, hk => by
    have hlk : k < n := by omega
    obtain ⟨hn, f1, f2, f3, f4, hw, hh, hz⟩ := id hc
    have hn16 := hn
    have hjk := (xofn (k := k) (by omega)).1
    obtain ⟨hn, f1, f2, f3, f4, hw, hh, hz⟩ := id hc
    obtain ⟨g1k, g2k, g3k⟩ := hh _ hlk
    have ekn : (Int32.ofNat k).toInt.toNat = k := by rw [hjk]; rfl
    have hle := xcnt_le (fD := dn) (fS := st) (s := s) k
    have eN := (xofn (k := n) (by omega)).1
    have ih := zw_m1 hH hc kk m (k + 1) (by omega)
    refine zy_n 2 (mr := zm_m261) rfl (show _ = some (60, [(0, .ref 55), (1, .int a), (2, .int s), (3, .int (Int32.ofNat (xcnt dn st s k))), (4, .int (Int32.ofNat k))], [.ref 55, .int (Int32.ofNat k)]) from rfl) ?_
    refine zk_get (mr := zm_m261) rfl rfl hH (hH.2.2 55 rfl) rfl f1 ?_
    refine zy_b (mr := zm_m261) rfl rfl (show _ = some (zm_ic .ge (Int32.ofNat k) (Int32.ofNat n) 101 66, []) from rfl) ?_
    refine zc_ge (fun e => absurd e (fun z => by have := Int32.le_iff_toInt_le.mp z; omega)) (fun _ => ?_)
    by_cases c : dn k = 0 ∧ st k = s
    · have e1 : xcnt dn st s (k + 1) = xcnt dn st s k + 1 := by simp only [xcnt, if_pos c]
      rw [e1] at ih
      refine zy_n 2 (mr := zm_m261) rfl (show _ = some (68, [(0, .ref 55), (1, .int a), (2, .int s), (3, .int (Int32.ofNat (xcnt dn st s k))), (4, .int (Int32.ofNat k))], [.ref 55, .int (Int32.ofNat (xcnt dn st s k))]) from rfl) ?_
      refine zk_get (mr := zm_m261) rfl rfl hH (hH.2.2 55 rfl) rfl (xfo_ref (k := 55) (f := 24) (a := 69) hH rfl rfl rfl) ?_
      refine zy_n 1 (mr := zm_m261) rfl (show _ = some (73, [(0, .ref 55), (1, .int a), (2, .int s), (3, .int (Int32.ofNat (xcnt dn st s k))), (4, .int (Int32.ofNat k))], [.int (Int32.ofNat k), .ref 69, .int (Int32.ofNat (xcnt dn st s k))]) from rfl) ?_
      refine zk_zld (mr := zm_m261) rfl rfl hH (hH.2.2 69 rfl) rfl g3k hjk ?_
      refine zy_b (mr := zm_m261) rfl rfl (show _ = some (zm_if .ne (dn k) 92 77, [.int (Int32.ofNat (xcnt dn st s k))]) from rfl) ?_
      refine zi_ne (fun e => absurd c.1 e) (fun _ => ?_)
      refine zy_n 1 (mr := zm_m261) rfl (show _ = some (78, [(0, .ref 55), (1, .int a), (2, .int s), (3, .int (Int32.ofNat (xcnt dn st s k))), (4, .int (Int32.ofNat k))], [.ref 55, .int (Int32.ofNat (xcnt dn st s k))]) from rfl) ?_
      refine zk_get (mr := zm_m261) rfl rfl hH (hH.2.2 55 rfl) rfl (xfo_ref (k := 55) (f := 17) (a := 62) hH rfl rfl rfl) ?_
      refine zy_n 1 (mr := zm_m261) rfl (show _ = some (83, [(0, .ref 55), (1, .int a), (2, .int s), (3, .int (Int32.ofNat (xcnt dn st s k))), (4, .int (Int32.ofNat k))], [.int (Int32.ofNat k), .ref 62, .int (Int32.ofNat (xcnt dn st s k))]) from rfl) ?_
      refine zk_ild (mr := zm_m261) rfl rfl hH (hH.2.2 62 rfl) rfl g1k hjk ?_
      refine zy_n 1 (mr := zm_m261) rfl (show _ = some (85, [(0, .ref 55), (1, .int a), (2, .int s), (3, .int (Int32.ofNat (xcnt dn st s k))), (4, .int (Int32.ofNat k))], [.int s, .int (st k), .int (Int32.ofNat (xcnt dn st s k))]) from rfl) ?_
      refine zy_b (mr := zm_m261) rfl rfl (show _ = some (zm_ic .ne (st k) s 92 88, [.int (Int32.ofNat (xcnt dn st s k))]) from rfl) ?_
      refine zc_ne (fun e => absurd c.2 e) (fun _ => ?_)
      refine zy_n 6 (mr := zm_m261) rfl (show _ = some (57, [(4, .int ((Int32.ofNat k) + 1)), (3, .int ((Int32.ofNat (xcnt dn st s k)) + 1)), (0, .ref 55), (1, .int a), (2, .int s)], []) from rfl) ?_
      rw [xofs (by omega), xofs (by omega)]
      exact zy_sub [(0, .ref 55), (1, .int a), (2, .int s), (3, .int (Int32.ofNat (xcnt dn st s k + 1))), (4, .int (Int32.ofNat (k + 1)))] (by simp) (fun q hq => by simp only [List.mem_cons, List.not_mem_nil, or_false] at hq; rcases hq with rfl | rfl | rfl | rfl | rfl <;> rfl) (ih)
    · have e1 : xcnt dn st s (k + 1) = xcnt dn st s k := by simp only [xcnt, if_neg c, Nat.add_zero]
      rw [e1] at ih
      refine zy_n 2 (mr := zm_m261) rfl (show _ = some (68, [(0, .ref 55), (1, .int a), (2, .int s), (3, .int (Int32.ofNat (xcnt dn st s k))), (4, .int (Int32.ofNat k))], [.ref 55, .int (Int32.ofNat (xcnt dn st s k))]) from rfl) ?_
      refine zk_get (mr := zm_m261) rfl rfl hH (hH.2.2 55 rfl) rfl (xfo_ref (k := 55) (f := 24) (a := 69) hH rfl rfl rfl) ?_
      refine zy_n 1 (mr := zm_m261) rfl (show _ = some (73, [(0, .ref 55), (1, .int a), (2, .int s), (3, .int (Int32.ofNat (xcnt dn st s k))), (4, .int (Int32.ofNat k))], [.int (Int32.ofNat k), .ref 69, .int (Int32.ofNat (xcnt dn st s k))]) from rfl) ?_
      refine zk_zld (mr := zm_m261) rfl rfl hH (hH.2.2 69 rfl) rfl g3k hjk ?_
      refine zy_b (mr := zm_m261) rfl rfl (show _ = some (zm_if .ne (dn k) 92 77, [.int (Int32.ofNat (xcnt dn st s k))]) from rfl) ?_
      refine zi_ne (fun c2 => ?_) (fun c2 => ?_)
      · refine zy_n 5 (mr := zm_m261) rfl (show _ = some (57, [(4, .int ((Int32.ofNat k) + 1)), (3, .int ((Int32.ofNat (xcnt dn st s k)) + 0)), (0, .ref 55), (1, .int a), (2, .int s)], []) from rfl) ?_
        rw [xofs (by omega), Int32.add_zero]
        exact zy_sub [(0, .ref 55), (1, .int a), (2, .int s), (3, .int (Int32.ofNat (xcnt dn st s k))), (4, .int (Int32.ofNat (k + 1)))] (by simp) (fun q hq => by simp only [List.mem_cons, List.not_mem_nil, or_false] at hq; rcases hq with rfl | rfl | rfl | rfl | rfl <;> rfl) (ih)
      · refine zy_n 1 (mr := zm_m261) rfl (show _ = some (78, [(0, .ref 55), (1, .int a), (2, .int s), (3, .int (Int32.ofNat (xcnt dn st s k))), (4, .int (Int32.ofNat k))], [.ref 55, .int (Int32.ofNat (xcnt dn st s k))]) from rfl) ?_
        refine zk_get (mr := zm_m261) rfl rfl hH (hH.2.2 55 rfl) rfl (xfo_ref (k := 55) (f := 17) (a := 62) hH rfl rfl rfl) ?_
        refine zy_n 1 (mr := zm_m261) rfl (show _ = some (83, [(0, .ref 55), (1, .int a), (2, .int s), (3, .int (Int32.ofNat (xcnt dn st s k))), (4, .int (Int32.ofNat k))], [.int (Int32.ofNat k), .ref 62, .int (Int32.ofNat (xcnt dn st s k))]) from rfl) ?_
        refine zk_ild (mr := zm_m261) rfl rfl hH (hH.2.2 62 rfl) rfl g1k hjk ?_
        refine zy_n 1 (mr := zm_m261) rfl (show _ = some (85, [(0, .ref 55), (1, .int a), (2, .int s), (3, .int (Int32.ofNat (xcnt dn st s k))), (4, .int (Int32.ofNat k))], [.int s, .int (st k), .int (Int32.ofNat (xcnt dn st s k))]) from rfl) ?_
        refine zy_b (mr := zm_m261) rfl rfl (show _ = some (zm_ic .ne (st k) s 92 88, [.int (Int32.ofNat (xcnt dn st s k))]) from rfl) ?_
        refine zc_ne (fun _ => ?_) (fun e => absurd e (fun z => c ⟨c2, z⟩))
        refine zy_n 5 (mr := zm_m261) rfl (show _ = some (57, [(4, .int ((Int32.ofNat k) + 1)), (3, .int ((Int32.ofNat (xcnt dn st s k)) + 0)), (0, .ref 55), (1, .int a), (2, .int s)], []) from rfl) ?_
        rw [xofs (by omega), Int32.add_zero]
        exact zy_sub [(0, .ref 55), (1, .int a), (2, .int s), (3, .int (Int32.ofNat (xcnt dn st s k))), (4, .int (Int32.ofNat (k + 1)))] (by simp) (fun q hq => by simp only [List.mem_cons, List.not_mem_nil, or_false] at hq; rcases hq with rfl | rfl | rfl | rfl | rfl <;> rfl) (ih)
end XC1
