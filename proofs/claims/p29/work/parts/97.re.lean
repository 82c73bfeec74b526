/-! Houses, years, lines: piece 4 (made by a program) -/
section XC1
variable {og : Nat → Option zm_C} {τ τ' : List Nat} {h h' : zm_H} {ms : List (Nat × Nat)} {ad : Nat → Nat} {n : Nat} {st dn rf : Nat → Int32} {nr y L : Int32} {wk : Nat → Int32}
theorem xmsS {l l2 : List (Nat × Nat)} (h : l.all (fun q => xms l2 q.1 q.2) = true) : ∀ k f, xms l k f = true → xms l2 k f = true := by
  intro k f e
  obtain ⟨q, hq, e2⟩ := List.any_eq_true.mp e
  have e3 := Bool.and_eq_true_iff.mp e2
  have := List.all_eq_true.mp h q hq
  rwa [Nat.eq_of_beq_eq_true e3.1, Nat.eq_of_beq_eq_true e3.2] at this
theorem xadd1 {a b : Int32} (e : a + 1 = b + 1) : a = b := by
  have e2 : a + 1 - 1 = b + 1 - 1 := by rw [e]
  rwa [Int32.add_sub_cancel, Int32.add_sub_cancel] at e2
theorem xidw {a s : Int32} (ha : 0 ≤ a.toInt ∧ a.toInt ≤ 3) (hs : 0 ≤ s.toInt ∧ s.toInt ≤ 3) : (a * 4 + s).toInt = ((4 * a.toInt.toNat + s.toInt.toNat : Nat) : Int) ∧ (4 * a + s).toInt = ((4 * a.toInt.toNat + s.toInt.toNat : Nat) : Int) ∧ 4 * a.toInt.toNat + s.toInt.toNat < 16 := by
  have ea : xI32a = -2147483648 := rfl
  have eb : xI32b = 2147483647 := rfl
  have e4 : (4 : Int32).toInt = 4 := rfl
  have m1 : (a * 4).toInt = a.toInt * 4 := by rw [Int32.toInt_mul, e4, xb_bm32 (by omega) (by omega)]
  have m2 : (4 * a).toInt = 4 * a.toInt := by rw [Int32.toInt_mul, e4, xb_bm32 (by omega) (by omega)]
  refine ⟨?_, ?_, by omega⟩
  · rw [Int32.toInt_add, m1, xb_bm32 (by omega) (by omega)]
    omega
  · rw [Int32.toInt_add, m2, xb_bm32 (by omega) (by omega)]
    omega
theorem xCXa_L {v : Int32} (hH : xHI xKT xSG τ h) (hf : xF (xms ms) τ h τ' h') (hk : ([(0, 1), (0, 2), (0, 3), (34, 0), (1, 0), (207, 0), (207, 4), (207, 9)] : List (Nat × Nat)).all (fun p => !xms ms p.1 p.2) = true) (hs : xfd h' 27 6 = some (.int v)) (hc : xCXa ad τ h n st dn rf nr y L wk) : xCXa ad τ' h' n st dn rf nr y v wk := by
  have hm : ∀ p ∈ ([(0, 1), (0, 2), (0, 3), (34, 0), (1, 0), (207, 0), (207, 4), (207, 9)] : List (Nat × Nat)), xms ms p.1 p.2 = false := fun p hp => by
    have := List.all_eq_true.mp hk p hp
    simpa using this
  obtain ⟨h1, f1, f2, f3, f4, hw, hh, hi⟩ := hc
  obtain ⟨s, hs2⟩ := hf.1
  refine ⟨h1, hf.2.1 0 0 1 _ (hH.2.2 0 rfl) (hm (0, 1) (by simp)) f1, hf.2.1 0 0 2 _ (hH.2.2 0 rfl) (hm (0, 2) (by simp)) f2, hf.2.1 0 0 3 _ (hH.2.2 0 rfl) (hm (0, 3) (by simp)) f3, hs, fun j hj => xar_F hf (hH.2.2 34 rfl) (hm (34, 0) (by simp)) (hw j hj), fun i hi' => ?_, hi⟩
  obtain ⟨g1, g2, g3, g4, g5⟩ := hh i hi'
  exact ⟨xar_F hf (hH.2.2 1 rfl) (hm (1, 0) (by simp)) g1, by rw [hs2]; exact xgl g2, hf.2.1 _ _ _ _ g2 (hm (207, 0) (by simp)) g3, hf.2.1 _ _ _ _ g2 (hm (207, 4) (by simp)) g4, hf.2.1 _ _ _ _ g2 (hm (207, 9) (by simp)) g5⟩
theorem xCXa_y {v : Int32} (hH : xHI xKT xSG τ h) (hf : xF (xms ms) τ h τ' h') (hk : ([(0, 1), (0, 2), (27, 6), (34, 0), (1, 0), (207, 0), (207, 4), (207, 9)] : List (Nat × Nat)).all (fun p => !xms ms p.1 p.2) = true) (hs : xfd h' 0 3 = some (.int v)) (hc : xCXa ad τ h n st dn rf nr y L wk) : xCXa ad τ' h' n st dn rf nr v L wk := by
  have hm : ∀ p ∈ ([(0, 1), (0, 2), (27, 6), (34, 0), (1, 0), (207, 0), (207, 4), (207, 9)] : List (Nat × Nat)), xms ms p.1 p.2 = false := fun p hp => by
    have := List.all_eq_true.mp hk p hp
    simpa using this
  obtain ⟨h1, f1, f2, f3, f4, hw, hh, hi⟩ := hc
  obtain ⟨s, hs2⟩ := hf.1
  refine ⟨h1, hf.2.1 0 0 1 _ (hH.2.2 0 rfl) (hm (0, 1) (by simp)) f1, hf.2.1 0 0 2 _ (hH.2.2 0 rfl) (hm (0, 2) (by simp)) f2, hs, hf.2.1 27 27 6 _ (hH.2.2 27 rfl) (hm (27, 6) (by simp)) f4, fun j hj => xar_F hf (hH.2.2 34 rfl) (hm (34, 0) (by simp)) (hw j hj), fun i hi' => ?_, hi⟩
  obtain ⟨g1, g2, g3, g4, g5⟩ := hh i hi'
  exact ⟨xar_F hf (hH.2.2 1 rfl) (hm (1, 0) (by simp)) g1, by rw [hs2]; exact xgl g2, hf.2.1 _ _ _ _ g2 (hm (207, 0) (by simp)) g3, hf.2.1 _ _ _ _ g2 (hm (207, 4) (by simp)) g4, hf.2.1 _ _ _ _ g2 (hm (207, 9) (by simp)) g5⟩
theorem xCM_L {v : Int32} (hH : xHI xKT xSG τ h) (hf : xF (xms ms) τ h τ' h') (hk : ([(55, 6), (55, 10), (55, 5), (93, 0), (62, 0), (68, 0), (69, 0)] : List (Nat × Nat)).all (fun p => !xms ms p.1 p.2) = true) (hs : xfd h' 55 8 = some (.int v)) (hc : xCM h n st dn rf nr y L wk) : xCM h' n st dn rf nr y v wk := by
  have hm : ∀ p ∈ ([(55, 6), (55, 10), (55, 5), (93, 0), (62, 0), (68, 0), (69, 0)] : List (Nat × Nat)), xms ms p.1 p.2 = false := fun p hp => by
    have := List.all_eq_true.mp hk p hp
    simpa using this
  obtain ⟨h1, f1, f2, f3, f4, hw, hh, hz⟩ := hc
  refine ⟨h1, hf.2.1 55 55 6 _ (hH.2.2 55 rfl) (hm (55, 6) (by simp)) f1, hf.2.1 55 55 10 _ (hH.2.2 55 rfl) (hm (55, 10) (by simp)) f2, hf.2.1 55 55 5 _ (hH.2.2 55 rfl) (hm (55, 5) (by simp)) f3, hs, fun j hj => xar_F hf (hH.2.2 93 rfl) (hm (93, 0) (by simp)) (hw j hj), fun i hi' => ?_, fun i k1 k2 => xar_F hf (hH.2.2 69 rfl) (hm (69, 0) (by simp)) (hz i k1 k2)⟩
  obtain ⟨g1, g2, g3⟩ := hh i hi'
  exact ⟨xar_F hf (hH.2.2 62 rfl) (hm (62, 0) (by simp)) g1, xar_F hf (hH.2.2 68 rfl) (hm (68, 0) (by simp)) g2, xar_F hf (hH.2.2 69 rfl) (hm (69, 0) (by simp)) g3⟩
theorem xCM_y {v : Int32} (hH : xHI xKT xSG τ h) (hf : xF (xms ms) τ h τ' h') (hk : ([(55, 6), (55, 10), (55, 8), (93, 0), (62, 0), (68, 0), (69, 0)] : List (Nat × Nat)).all (fun p => !xms ms p.1 p.2) = true) (hs : xfd h' 55 5 = some (.int v)) (hc : xCM h n st dn rf nr y L wk) : xCM h' n st dn rf nr v L wk := by
  have hm : ∀ p ∈ ([(55, 6), (55, 10), (55, 8), (93, 0), (62, 0), (68, 0), (69, 0)] : List (Nat × Nat)), xms ms p.1 p.2 = false := fun p hp => by
    have := List.all_eq_true.mp hk p hp
    simpa using this
  obtain ⟨h1, f1, f2, f3, f4, hw, hh, hz⟩ := hc
  refine ⟨h1, hf.2.1 55 55 6 _ (hH.2.2 55 rfl) (hm (55, 6) (by simp)) f1, hf.2.1 55 55 10 _ (hH.2.2 55 rfl) (hm (55, 10) (by simp)) f2, hs, hf.2.1 55 55 8 _ (hH.2.2 55 rfl) (hm (55, 8) (by simp)) f4, fun j hj => xar_F hf (hH.2.2 93 rfl) (hm (93, 0) (by simp)) (hw j hj), fun i hi' => ?_, fun i k1 k2 => xar_F hf (hH.2.2 69 rfl) (hm (69, 0) (by simp)) (hz i k1 k2)⟩
  obtain ⟨g1, g2, g3⟩ := hh i hi'
  exact ⟨xar_F hf (hH.2.2 62 rfl) (hm (62, 0) (by simp)) g1, xar_F hf (hH.2.2 68 rfl) (hm (68, 0) (by simp)) g2, xar_F hf (hH.2.2 69 rfl) (hm (69, 0) (by simp)) g3⟩
theorem xCXa_wk {i : Nat} {v : Int32} (hc : xCXa ad τ h n st dn rf nr y L wk) (hi : i < 16) (hg : xag [(1, 34, i)] h h') (hs : xar h' 34 i = some (.int (v + 1))) : xCXa ad τ h' n st dn rf nr y L (upd wk i v) := by
  obtain ⟨hn, f1, f2, f3, f4, hw, hh, hj⟩ := hc
  refine ⟨hn, hg.1 _ _ _ (by simp) f1, hg.1 _ _ _ (by simp) f2, hg.1 _ _ _ (by simp) f3, hg.1 _ _ _ (by simp) f4, fun j hj2 => ?_, fun i hi => ?_, hj⟩
  · by_cases e : j = i
    · subst e
      rw [show upd wk j v j = v from if_pos rfl]
      exact hs
    · rw [show upd wk i v j = wk j from if_neg e]
      exact hg.2 _ _ _ (by simp [e]) (hw j hj2)
  · obtain ⟨k1, k2, k3, k4, k5⟩ := hh i hi
    exact ⟨hg.2 _ _ _ (by simp) k1, k2, hg.1 _ _ _ (by simp) k3, hg.1 _ _ _ (by simp) k4, hg.1 _ _ _ (by simp) k5⟩
theorem xCM_wk {i : Nat} {v : Int32} (hc : xCM h n st dn rf nr y L wk) (hi : i < 16) (hg : xag [(1, 93, i)] h h') (hs : xar h' 93 i = some (.int v)) : xCM h' n st dn rf nr y L (upd wk i v) := by
  obtain ⟨hn, f1, f2, f3, f4, hw, hh, hz⟩ := hc
  refine ⟨hn, hg.1 _ _ _ (by simp) f1, hg.1 _ _ _ (by simp) f2, hg.1 _ _ _ (by simp) f3, hg.1 _ _ _ (by simp) f4, fun j hj2 => ?_, fun i hi => ?_, fun i k1 k2 => hg.2 _ _ _ (by simp) (hz i k1 k2)⟩
  · by_cases e : j = i
    · subst e
      rw [show upd wk j v j = v from if_pos rfl]
      exact hs
    · rw [show upd wk i v j = wk j from if_neg e]
      exact hg.2 _ _ _ (by simp [e]) (hw j hj2)
  · obtain ⟨k1, k2, k3⟩ := hh i hi
    exact ⟨hg.2 _ _ _ (by simp) k1, hg.2 _ _ _ (by simp) k2, hg.2 _ _ _ (by simp) k3⟩
theorem zh_hwE {d : Nat} {a s z : Int32} (ha : 0 ≤ a.toInt ∧ a.toInt ≤ 3) (hs : 0 ≤ s.toInt ∧ s.toInt ≤ 3) (hH : xHI xKT xSG τ h) (hw : ∀ j, j < 16 → xar h 34 j = some (.int (wk j + 1))) : zm_Y og d 121 0 [(0, .ref 27), (1, .int a), (2, .int s), (3, .int z)] [] h (fun r h' => h' = h ∧ r = some (.int (if wk (4 * a.toInt.toNat + s.toInt.toNat) = z then 1 else 0))) := by
  refine zy_n 1 (mr := zm_m121) rfl (show _ = some (1, [(0, .ref 27), (1, .int a), (2, .int s), (3, .int z)], [.ref 27]) from rfl) ?_
  refine zk_get (mr := zm_m121) rfl rfl hH (hH.2.2 27 rfl) rfl (xfo_ref (k := 27) (f := 7) (a := 34) hH rfl rfl rfl) ?_
  refine zy_n 5 (mr := zm_m121) rfl (show _ = some (9, [(0, .ref 27), (1, .int a), (2, .int s), (3, .int z)], [.int ((a * 4) + s), .ref 34]) from rfl) ?_
  refine zk_ild (mr := zm_m121) rfl rfl hH (hH.2.2 34 rfl) rfl (hw _ (xidw ha hs).2.2) (xidw ha hs).1 ?_
  refine zy_n 3 (mr := zm_m121) rfl (show _ = some (13, [(0, .ref 27), (1, .int a), (2, .int s), (3, .int z)], [.int (z + 1), .int (wk (4 * a.toInt.toNat + s.toInt.toNat) + 1)]) from rfl) ?_
  refine zy_b (mr := zm_m121) rfl rfl (show _ = some (zm_ic .ne (wk (4 * a.toInt.toNat + s.toInt.toNat) + 1) (z + 1) 20 16, []) from rfl) ?_
  refine zc_ne (fun c => ?_) (fun c => ?_)
  · refine zy_n 1 (mr := zm_m121) rfl (show _ = some (21, [(0, .ref 27), (1, .int a), (2, .int s), (3, .int z)], [.int 0]) from rfl) ?_
    refine zy_r (mr := zm_m121) rfl rfl (show _ = some (some (.int 0)) from rfl) ⟨rfl, by rw [if_neg (fun z => c (by rw [z]))]⟩
  · refine zy_n 2 (mr := zm_m121) rfl (show _ = some (21, [(0, .ref 27), (1, .int a), (2, .int s), (3, .int z)], [.int 1]) from rfl) ?_
    refine zy_r (mr := zm_m121) rfl rfl (show _ = some (some (.int 1)) from rfl) ⟨rfl, by rw [if_pos (xadd1 c)]⟩
theorem zh_hrE {d : Nat} {a : Int32} (hH : xHI xKT xSG τ h) (f4 : xfd h 27 6 = some (.int L)) : zm_Y og d 123 0 [(0, .ref 27), (1, .int a)] [] h (fun r h' => h' = h ∧ r = some (.int (if (L + a).toInt ≤ 1200 then 1 else 0))) := by
  refine zy_n 1 (mr := zm_m123) rfl (show _ = some (1, [(0, .ref 27), (1, .int a)], [.ref 27]) from rfl) ?_
  refine zk_get (mr := zm_m123) rfl rfl hH (hH.2.2 27 rfl) rfl f4 ?_
  refine zy_n 3 (mr := zm_m123) rfl (show _ = some (9, [(0, .ref 27), (1, .int a)], [.int 1200, .int (L + a)]) from rfl) ?_
  refine zy_b (mr := zm_m123) rfl rfl (show _ = some (zm_ic .gt (L + a) 1200 16 12, []) from rfl) ?_
  refine zc_gt (fun c => ?_) (fun c => ?_)
  · refine zy_n 1 (mr := zm_m123) rfl (show _ = some (17, [(0, .ref 27), (1, .int a)], [.int 0]) from rfl) ?_
    refine zy_r (mr := zm_m123) rfl rfl (show _ = some (some (.int 0)) from rfl) ⟨rfl, by rw [if_neg (fun z => absurd (Int32.lt_iff_toInt_lt.mp c) (by show ¬ (1200 : Int) < _; omega))]⟩
  · refine zy_n 2 (mr := zm_m123) rfl (show _ = some (17, [(0, .ref 27), (1, .int a)], [.int 1]) from rfl) ?_
    refine zy_r (mr := zm_m123) rfl rfl (show _ = some (some (.int 1)) from rfl) ⟨rfl, by rw [if_pos (by have z := Int32.le_iff_toInt_le.mp (Int32.not_lt.mp c); exact z)]⟩
theorem zh_nwE {d : Nat} {a s z : Int32} (ha : 0 ≤ a.toInt ∧ a.toInt ≤ 3) (hs : 0 ≤ s.toInt ∧ s.toInt ≤ 3) (hH : xHI xKT xSG τ h) (hX : xX τ h) (hc : xCXa ad τ h n st dn rf nr y L wk) : zm_Y og d 125 0 [(0, .ref 27), (1, .int a), (2, .int s), (3, .int z)] [] h (xCO τ h 0 [(34, 0)] (fun r => r = none) (fun τ1 h1 => xCXa ad τ1 h1 n st dn rf nr y L (upd wk (4 * a.toInt.toNat + s.toInt.toNat) z))) := by
  obtain ⟨hn, f1, f2, f3, f4, hw, hh, hi⟩ := id hc
  refine zy_n 1 (mr := zm_m125) rfl (show _ = some (1, [(0, .ref 27), (1, .int a), (2, .int s), (3, .int z)], [.ref 27]) from rfl) ?_
  refine zk_get (mr := zm_m125) rfl rfl hH (hH.2.2 27 rfl) rfl (xfo_ref (k := 27) (f := 7) (a := 34) hH rfl rfl rfl) ?_
  refine zy_n 8 (mr := zm_m125) rfl (show _ = some (12, [(0, .ref 27), (1, .int a), (2, .int s), (3, .int z)], [.int (z + 1), .int ((a * 4) + s), .ref 34]) from rfl) ?_
  refine zk_ist (mr := zm_m125) rfl rfl hH hX (hH.2.2 34 rfl) rfl rfl (xidw ha hs).1 (xidw ha hs).2.2 List.mem_cons_self ⟨_, rfl, (xb_rng _).1, (xb_rng _).2⟩ ⟨by show (0 : Int) ≤ _; omega, by show _ ≤ (15 : Int); omega, Or.inl rfl⟩ ?_
  intro h1 hH1 hX1 hW1 hs1 hg1 hF1
  have hc := xCXa_wk hc (xidw ha hs).2.2 hg1 hs1
  obtain ⟨hn, f1, f2, f3, f4, hw, hh, hi⟩ := id hc
  refine zy_r (mr := zm_m125) rfl rfl (show _ = some none from rfl) ⟨rfl, τ, hH1, hX1, by omega, (hF1 _ rfl), hc⟩
end XC1
