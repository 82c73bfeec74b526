/-! Houses, years, lines: piece 10 (made by a program) -/
section XC1
variable {og : Nat → Option zm_C} {τ τ' : List Nat} {h h' : zm_H} {ms : List (Nat × Nat)} {ad : Nat → Nat} {n : Nat} {st dn rf : Nat → Int32} {nr y L : Int32} {wk : Nat → Int32}
theorem xr_down (a : Int32) (hn : n ≤ 16) (ry : 0 ≤ y.toInt ∧ y.toInt ≤ 99) (rL : 0 ≤ L.toInt ∧ L.toInt ≤ 1200) : ∃ (x : Int32) (n2 : Nat) (st2 dn2 rf2 : Nat → Int32) (nr2 y2 L2 : Int32) (wk2 : Nat → Int32), (∀ (τ : List Nat) (h : zm_H), xHI xKT xSG τ h → xX τ h → xCX τ h n st dn rf nr y L wk → zm_Y og 3 30 0 [(0, .ref 0), (1, .int a)] [] h (xCBx τ h 0 (fun r => r = some (.int x)) (fun τ1 h1 => xCX τ1 h1 n2 st2 dn2 rf2 nr2 y2 L2 wk2))) ∧ ∀ (τ : List Nat) (h : zm_H), xHI xKT xSG τ h → xX τ h → xCM h n st dn rf nr y L wk → zm_Y og 3 198 0 [(0, .ref 55), (1, .int a)] [] h (xCBm τ h 0 (fun r => r = some (.int x)) (fun τ1 h1 => xCM h1 n2 st2 dn2 rf2 nr2 y2 L2 wk2)) := by
  by_cases c0 : xupb n dn a
  · exact ⟨1, n, st, (upd dn a.toInt.toNat 1), (upd rf a.toInt.toNat nr), (nr + 1), y, L, wk, fun τ h hH hX hc => by
      obtain ⟨ad, hc⟩ := hc
      exact ((xd_x1 (d := 0) hH hX hc c0).deep (Nat.le_of_ble_eq_true rfl)).mono (fun r h2 hq => xCBx_of hH rfl hq), fun τ h hH hX hc => ((xd_m1 (d := 0) hH hX hc c0).deep (Nat.le_of_ble_eq_true rfl)).mono (fun r h2 hq => xCBm_of hH rfl hq)⟩
  exact ⟨0, n, st, dn, rf, nr, y, L, wk, fun τ h hH hX hc => by
      obtain ⟨ad, hc⟩ := hc
      exact ((xd_x0 (d := 0) hH hX hc c0).deep (Nat.le_of_ble_eq_true rfl)).mono (fun r h2 hq => xCBx_of hH rfl hq), fun τ h hH hX hc => ((xd_m0 (d := 0) hH hX hc c0).deep (Nat.le_of_ble_eq_true rfl)).mono (fun r h2 hq => xCBm_of hH rfl hq)⟩
theorem xr_roof (a : Int32) (b : Int32) (hn : n ≤ 16) (ry : 0 ≤ y.toInt ∧ y.toInt ≤ 99) (rL : 0 ≤ L.toInt ∧ L.toInt ≤ 1200) : ∃ (x : Int32) (n2 : Nat) (st2 dn2 rf2 : Nat → Int32) (nr2 y2 L2 : Int32) (wk2 : Nat → Int32), (∀ (τ : List Nat) (h : zm_H), xHI xKT xSG τ h → xX τ h → xCX τ h n st dn rf nr y L wk → zm_Y og 3 29 0 [(0, .ref 0), (1, .int a), (2, .int b)] [] h (xCBx τ h 0 (fun r => r = some (.int x)) (fun τ1 h1 => xCX τ1 h1 n2 st2 dn2 rf2 nr2 y2 L2 wk2))) ∧ ∀ (τ : List Nat) (h : zm_H), xHI xKT xSG τ h → xX τ h → xCM h n st dn rf nr y L wk → zm_Y og 3 197 0 [(0, .ref 55), (1, .int a), (2, .int b)] [] h (xCBm τ h 0 (fun r => r = some (.int x)) (fun τ1 h1 => xCM h1 n2 st2 dn2 rf2 nr2 y2 L2 wk2)) := by
  by_cases c0 : ¬ xupb n dn a
  · exact ⟨(-2), n, st, dn, rf, nr, y, L, wk, fun τ h hH hX hc => by
      obtain ⟨ad, hc⟩ := hc
      exact ((xf_x1 (d := 0) hH hX hc c0).deep (Nat.le_of_ble_eq_true rfl)).mono (fun r h2 hq => xCBx_of hH rfl hq), fun τ h hH hX hc => ((xf_m1 (d := 0) hH hX hc c0).deep (Nat.le_of_ble_eq_true rfl)).mono (fun r h2 hq => xCBm_of hH rfl hq)⟩
  by_cases c1 : ¬ xupb n dn b
  · exact ⟨(-2), n, st, dn, rf, nr, y, L, wk, fun τ h hH hX hc => by
      obtain ⟨ad, hc⟩ := hc
      exact ((xf_x2 (d := 0) hH hX hc (Decidable.not_not.mp c0) c1).deep (Nat.le_of_ble_eq_true rfl)).mono (fun r h2 hq => xCBx_of hH rfl hq), fun τ h hH hX hc => ((xf_m2 (d := 0) hH hX hc (Decidable.not_not.mp c0) c1).deep (Nat.le_of_ble_eq_true rfl)).mono (fun r h2 hq => xCBm_of hH rfl hq)⟩
  by_cases c2 : a = b
  · exact ⟨(-2), n, st, dn, rf, nr, y, L, wk, fun τ h hH hX hc => by
      obtain ⟨ad, hc⟩ := hc
      exact ((xf_x3 (d := 0) hH hX hc (Decidable.not_not.mp c0) (Decidable.not_not.mp c1) c2).deep (Nat.le_of_ble_eq_true rfl)).mono (fun r h2 hq => xCBx_of hH rfl hq), fun τ h hH hX hc => ((xf_m3 (d := 0) hH hX hc (Decidable.not_not.mp c0) (Decidable.not_not.mp c1) c2).deep (Nat.le_of_ble_eq_true rfl)).mono (fun r h2 hq => xCBm_of hH rfl hq)⟩
  by_cases c3 : rf a.toInt.toNat = rf b.toInt.toNat
  · exact ⟨0, n, st, dn, (upd rf a.toInt.toNat nr), (nr + 1), y, L, wk, fun τ h hH hX hc => by
      obtain ⟨ad, hc⟩ := hc
      exact ((xf_xp (d := 0) hH hX hc (Decidable.not_not.mp c0) (Decidable.not_not.mp c1) c2 c3).deep (Nat.le_of_ble_eq_true rfl)).mono (fun r h2 hq => xCBx_of hH rfl hq), fun τ h hH hX hc => ((xf_mp (d := 0) hH hX hc (Decidable.not_not.mp c0) (Decidable.not_not.mp c1) c2 c3).deep (Nat.le_of_ble_eq_true rfl)).mono (fun r h2 hq => xCBm_of hH rfl hq)⟩
  exact ⟨1, n, st, dn, (xrj rf (rf a.toInt.toNat) (rf b.toInt.toNat) n), nr, y, L, wk, fun τ h hH hX hc => by
      obtain ⟨ad, hc⟩ := hc
      exact ((xf_xj (d := 0) hH hX hc (Decidable.not_not.mp c0) (Decidable.not_not.mp c1) c2 c3).deep (Nat.le_of_ble_eq_true rfl)).mono (fun r h2 hq => xCBx_of hH rfl hq), fun τ h hH hX hc => ((xf_mj (d := 0) hH hX hc (Decidable.not_not.mp c0) (Decidable.not_not.mp c1) c2 c3).deep (Nat.le_of_ble_eq_true rfl)).mono (fun r h2 hq => xCBm_of hH rfl hq)⟩
theorem xr_house (a : Int32) (w : Int32) (f : Int32) (m : Int32) (hn : n ≤ 16) (ry : 0 ≤ y.toInt ∧ y.toInt ≤ 99) (rL : 0 ≤ L.toInt ∧ L.toInt ≤ 1200) : ∃ (x : Int32) (n2 : Nat) (st2 dn2 rf2 : Nat → Int32) (nr2 y2 L2 : Int32) (wk2 : Nat → Int32), (∀ (τ : List Nat) (h : zm_H), xHI xKT xSG τ h → xX τ h → xCX τ h n st dn rf nr y L wk → zm_Y og 20 12 0 [(0, .ref 0), (1, .int a), (2, .int w), (3, .int f), (4, .int m)] [] h (xCBx τ h 90 (fun r => r = some (.int x)) (fun τ1 h1 => xCX τ1 h1 n2 st2 dn2 rf2 nr2 y2 L2 wk2))) ∧ ∀ (τ : List Nat) (h : zm_H), xHI xKT xSG τ h → xX τ h → xCM h n st dn rf nr y L wk → zm_Y og 2 190 0 [(0, .ref 55), (1, .int a), (2, .int w), (3, .int f), (4, .int m)] [] h (xCBm τ h 0 (fun r => r = some (.int x)) (fun τ1 h1 => xCM h1 n2 st2 dn2 rf2 nr2 y2 L2 wk2)) := by
  by_cases c0 : ¬ ((0 ≤ a.toInt ∧ a.toInt ≤ 3) ∧ (0 ≤ w.toInt ∧ w.toInt ≤ 10000) ∧ (1 ≤ f.toInt ∧ f.toInt ≤ 9) ∧ 1 ≤ m.toInt ∧ m.toInt ≤ 60)
  · exact ⟨(-2), n, st, dn, rf, nr, y, L, wk, fun τ h hH hX hc => by
      obtain ⟨ad, hc⟩ := hc
      exact ((xh_x_bad (d := 0) hH hX hc c0).deep (Nat.le_of_ble_eq_true rfl)).mono (fun r h2 hq => xCBx_of hH rfl hq), fun τ h hH hX hc => ((xh_m_bad (d := 0) hH hX hc c0).deep (Nat.le_of_ble_eq_true rfl)).mono (fun r h2 hq => xCBm_of hH rfl hq)⟩
  by_cases c1 : n = 16
  · exact ⟨(-3), n, st, dn, rf, nr, y, L, wk, fun τ h hH hX hc => by
      obtain ⟨ad, hc⟩ := hc
      exact ((xh_x_full (d := 0) hH hX hc (Decidable.not_not.mp c0) c1).deep (Nat.le_of_ble_eq_true rfl)).mono (fun r h2 hq => xCBx_of hH rfl hq), fun τ h hH hX hc => ((xh_m_full (d := 0) hH hX hc (Decidable.not_not.mp c0) c1).deep (Nat.le_of_ble_eq_true rfl)).mono (fun r h2 hq => xCBm_of hH rfl hq)⟩
  exact ⟨(Int32.ofNat n), (n + 1), (upd st n a), (upd dn n 0), (upd rf n nr), (nr + 1), y, L, wk, fun τ h hH hX hc => by
      obtain ⟨ad, hc⟩ := hc
      exact ((xh_x_ok (d := 0) hH hX hc (Decidable.not_not.mp c0) (by omega)).deep (Nat.le_of_ble_eq_true rfl)).mono (fun r h2 hq => xCBx_of hH rfl hq), fun τ h hH hX hc => ((xh_m_ok (d := 0) hH hX hc (Decidable.not_not.mp c0) (by omega)).deep (Nat.le_of_ble_eq_true rfl)).mono (fun r h2 hq => xCBm_of hH rfl hq)⟩
theorem xr_walk (a : Int32) (s : Int32) (hn : n ≤ 16) (ry : 0 ≤ y.toInt ∧ y.toInt ≤ 99) (rL : 0 ≤ L.toInt ∧ L.toInt ≤ 1200) : ∃ (x : Int32) (n2 : Nat) (st2 dn2 rf2 : Nat → Int32) (nr2 y2 L2 : Int32) (wk2 : Nat → Int32), (∀ (τ : List Nat) (h : zm_H), xHI xKT xSG τ h → xX τ h → xCX τ h n st dn rf nr y L wk → zm_Y og 30 120 0 [(0, .ref 0), (1, .int a), (2, .int s)] [] h (xCBx τ h 0 (fun r => r = some (.int x)) (fun τ1 h1 => xCX τ1 h1 n2 st2 dn2 rf2 nr2 y2 L2 wk2))) ∧ ∀ (τ : List Nat) (h : zm_H), xHI xKT xSG τ h → xX τ h → xCM h n st dn rf nr y L wk → zm_Y og 56 261 0 [(0, .ref 55), (1, .int a), (2, .int s)] [] h (xCBm τ h 0 (fun r => r = some (.int x)) (fun τ1 h1 => xCM h1 n2 st2 dn2 rf2 nr2 y2 L2 wk2)) := by
  by_cases c0 : ¬ ((0 ≤ a.toInt ∧ a.toInt ≤ 3) ∧ 0 ≤ s.toInt ∧ s.toInt ≤ 3)
  · exact ⟨(-2), n, st, dn, rf, nr, y, L, wk, fun τ h hH hX hc => by
      obtain ⟨ad, hc⟩ := hc
      exact ((xw_x_bad hH hX hc c0).deep (Nat.le_of_ble_eq_true rfl)).mono (fun r h2 hq => xCBx_of hH rfl hq), fun τ h hH hX hc => ((xw_m_bad hH hX hc c0).deep (Nat.le_of_ble_eq_true rfl)).mono (fun r h2 hq => xCBm_of hH rfl hq)⟩
  by_cases c1 : wk (4 * a.toInt.toNat + s.toInt.toNat) = y
  · exact ⟨(-9), n, st, dn, rf, nr, y, L, wk, fun τ h hH hX hc => by
      obtain ⟨ad, hc⟩ := hc
      exact ((xw_x_alr hH hX hc (Decidable.not_not.mp c0) c1).deep (Nat.le_of_ble_eq_true rfl)).mono (fun r h2 hq => xCBx_of hH rfl hq), fun τ h hH hX hc => ((xw_m_alr hH hX hc (Decidable.not_not.mp c0) c1).deep (Nat.le_of_ble_eq_true rfl)).mono (fun r h2 hq => xCBm_of hH rfl hq)⟩
  by_cases c2 : ¬ L.toInt + ((xcnt dn st s n : Nat) : Int) ≤ 1200
  · exact ⟨(-3), n, st, dn, rf, nr, y, L, wk, fun τ h hH hX hc => by
      obtain ⟨ad, hc⟩ := hc
      exact ((xw_x_full hH hX hc (Decidable.not_not.mp c0) c1 c2).deep (Nat.le_of_ble_eq_true rfl)).mono (fun r h2 hq => xCBx_of hH rfl hq), fun τ h hH hX hc => ((xw_m_full hH hX hc (Decidable.not_not.mp c0) c1 c2).deep (Nat.le_of_ble_eq_true rfl)).mono (fun r h2 hq => xCBm_of hH rfl hq)⟩
  exact ⟨(Int32.ofNat (xcnt dn st s n)), n, st, dn, rf, nr, y, (L + Int32.ofNat (xcnt dn st s n)), (upd wk (4 * a.toInt.toNat + s.toInt.toNat) y), fun τ h hH hX hc => by
      obtain ⟨ad, hc⟩ := hc
      exact ((xw_x_ok hH hX hc (Decidable.not_not.mp c0) c1 (Decidable.not_not.mp c2)).deep (Nat.le_of_ble_eq_true rfl)).mono (fun r h2 hq => xCBx_of hH rfl hq), fun τ h hH hX hc => ((xw_m_ok hH hX hc (Decidable.not_not.mp c0) c1 (Decidable.not_not.mp c2)).deep (Nat.le_of_ble_eq_true rfl)).mono (fun r h2 hq => xCBm_of hH rfl hq)⟩
theorem xr_late (a1 : Int32) (a2 : Int32) (a3 : Int32) (hn : n ≤ 16) (ry : 0 ≤ y.toInt ∧ y.toInt ≤ 99) (rL : 0 ≤ L.toInt ∧ L.toInt ≤ 1200) : ∃ (x : Int32) (n2 : Nat) (st2 dn2 rf2 : Nat → Int32) (nr2 y2 L2 : Int32) (wk2 : Nat → Int32), (∀ (τ : List Nat) (h : zm_H), xHI xKT xSG τ h → xX τ h → xCX τ h n st dn rf nr y L wk → zm_Y og 2 131 0 [(0, .ref 0), (1, .int a1), (2, .int a2), (3, .int a3)] [] h (xCBx τ h 0 (fun r => r = some (.int x)) (fun τ1 h1 => xCX τ1 h1 n2 st2 dn2 rf2 nr2 y2 L2 wk2))) ∧ ∀ (τ : List Nat) (h : zm_H), xHI xKT xSG τ h → xX τ h → xCM h n st dn rf nr y L wk → zm_Y og 2 266 0 [(0, .ref 55), (1, .int a1), (2, .int a2), (3, .int a3)] [] h (xCBm τ h 0 (fun r => r = some (.int x)) (fun τ1 h1 => xCM h1 n2 st2 dn2 rf2 nr2 y2 L2 wk2)) := by
  have eN := (xofn (k := n) (by omega)).1
  by_cases c0 : a1.toInt ≤ -1
  · exact ⟨(-2), n, st, dn, rf, nr, y, L, wk, fun τ h hH hX hc => by
      obtain ⟨ad, hc⟩ := hc
      have ⟨_, f1, _, f3, f4, _, hh, _⟩ := hc
      exact ((zb_x_late_0 hH hX  (by omega)).deep (Nat.le_of_ble_eq_true rfl)).mono (fun r h2 hq => xCBx_of hH rfl (xOF_x hH ⟨ad, hc⟩ rfl hq)), fun τ h hH hX hc => by
      have ⟨_, f1, _, f3, f4, _, hh, _⟩ := hc
      exact ((zb_m_late_0 hH hX  (by omega)).deep (Nat.le_of_ble_eq_true rfl)).mono (fun r h2 hq => xCBm_of hH rfl (xOF_m hH hc rfl hq))⟩
  by_cases c1 : (n : Int) ≤ a1.toInt
  · exact ⟨(-2), n, st, dn, rf, nr, y, L, wk, fun τ h hH hX hc => by
      obtain ⟨ad, hc⟩ := hc
      have ⟨_, f1, _, f3, f4, _, hh, _⟩ := hc
      exact ((zb_x_late_1 hH hX f1 (by omega)).deep (Nat.le_of_ble_eq_true rfl)).mono (fun r h2 hq => xCBx_of hH rfl (xOF_x hH ⟨ad, hc⟩ rfl hq)), fun τ h hH hX hc => by
      have ⟨_, f1, _, f3, f4, _, hh, _⟩ := hc
      exact ((zb_m_late_1 hH hX f1 (by omega)).deep (Nat.le_of_ble_eq_true rfl)).mono (fun r h2 hq => xCBm_of hH rfl (xOF_m hH hc rfl hq))⟩
  by_cases c2 : a2.toInt ≤ -1
  · exact ⟨(-2), n, st, dn, rf, nr, y, L, wk, fun τ h hH hX hc => by
      obtain ⟨ad, hc⟩ := hc
      have ⟨_, f1, _, f3, f4, _, hh, _⟩ := hc
      exact ((zb_x_late_2 hH hX f1 (by omega)).deep (Nat.le_of_ble_eq_true rfl)).mono (fun r h2 hq => xCBx_of hH rfl (xOF_x hH ⟨ad, hc⟩ rfl hq)), fun τ h hH hX hc => by
      have ⟨_, f1, _, f3, f4, _, hh, _⟩ := hc
      exact ((zb_m_late_2 hH hX f1 (by omega)).deep (Nat.le_of_ble_eq_true rfl)).mono (fun r h2 hq => xCBm_of hH rfl (xOF_m hH hc rfl hq))⟩
  by_cases c3 : y.toInt ≤ a2.toInt
  · exact ⟨(-2), n, st, dn, rf, nr, y, L, wk, fun τ h hH hX hc => by
      obtain ⟨ad, hc⟩ := hc
      have ⟨_, f1, _, f3, f4, _, hh, _⟩ := hc
      exact ((zb_x_late_3 hH hX f1 f3 (by omega)).deep (Nat.le_of_ble_eq_true rfl)).mono (fun r h2 hq => xCBx_of hH rfl (xOF_x hH ⟨ad, hc⟩ rfl hq)), fun τ h hH hX hc => by
      have ⟨_, f1, _, f3, f4, _, hh, _⟩ := hc
      exact ((zb_m_late_3 hH hX f1 f3 (by omega)).deep (Nat.le_of_ble_eq_true rfl)).mono (fun r h2 hq => xCBm_of hH rfl (xOF_m hH hc rfl hq))⟩
  by_cases c4 : a3.toInt ≤ -1
  · exact ⟨(-2), n, st, dn, rf, nr, y, L, wk, fun τ h hH hX hc => by
      obtain ⟨ad, hc⟩ := hc
      have ⟨_, f1, _, f3, f4, _, hh, _⟩ := hc
      exact ((zb_x_late_4 hH hX f1 f3 (by omega)).deep (Nat.le_of_ble_eq_true rfl)).mono (fun r h2 hq => xCBx_of hH rfl (xOF_x hH ⟨ad, hc⟩ rfl hq)), fun τ h hH hX hc => by
      have ⟨_, f1, _, f3, f4, _, hh, _⟩ := hc
      exact ((zb_m_late_4 hH hX f1 f3 (by omega)).deep (Nat.le_of_ble_eq_true rfl)).mono (fun r h2 hq => xCBm_of hH rfl (xOF_m hH hc rfl hq))⟩
  by_cases c5 : 1001 ≤ a3.toInt
  · exact ⟨(-2), n, st, dn, rf, nr, y, L, wk, fun τ h hH hX hc => by
      obtain ⟨ad, hc⟩ := hc
      have ⟨_, f1, _, f3, f4, _, hh, _⟩ := hc
      exact ((zb_x_late_5 hH hX f1 f3 (by omega)).deep (Nat.le_of_ble_eq_true rfl)).mono (fun r h2 hq => xCBx_of hH rfl (xOF_x hH ⟨ad, hc⟩ rfl hq)), fun τ h hH hX hc => by
      have ⟨_, f1, _, f3, f4, _, hh, _⟩ := hc
      exact ((zb_m_late_5 hH hX f1 f3 (by omega)).deep (Nat.le_of_ble_eq_true rfl)).mono (fun r h2 hq => xCBm_of hH rfl (xOF_m hH hc rfl hq))⟩
  by_cases c6 : L.toInt = 1200
  · exact ⟨(-3), n, st, dn, rf, nr, y, L, wk, fun τ h hH hX hc => by
      obtain ⟨ad, hc⟩ := hc
      have ⟨_, f1, _, f3, f4, _, hh, _⟩ := hc
      exact ((zb_x_late_6 hH hX f1 f3 f4 (by omega)).deep (Nat.le_of_ble_eq_true rfl)).mono (fun r h2 hq => xCBx_of hH rfl (xOF_x hH ⟨ad, hc⟩ rfl hq)), fun τ h hH hX hc => by
      have ⟨_, f1, _, f3, f4, _, hh, _⟩ := hc
      exact ((zb_m_late_6 hH hX f1 f3 f4 (by omega)).deep (Nat.le_of_ble_eq_true rfl)).mono (fun r h2 hq => xCBm_of hH rfl (xOF_m hH hc rfl hq))⟩
  exact ⟨0, n, st, dn, rf, nr, y, (L + 1), wk, fun τ h hH hX hc => by
      obtain ⟨ad, hc⟩ := hc
      have ⟨_, f1, _, f3, f4, _, hh, _⟩ := hc
      exact ((zb_x_late_7 hH hX f1 f3 f4 (by omega)).deep (Nat.le_of_ble_eq_true rfl)).mono (fun r h2 hq => xCBx_of hH rfl (xOF_xL hH ⟨ad, hc⟩ rfl hq)), fun τ h hH hX hc => by
      have ⟨_, f1, _, f3, f4, _, hh, _⟩ := hc
      exact ((zb_m_late_7 hH hX f1 f3 f4 (by omega)).deep (Nat.le_of_ble_eq_true rfl)).mono (fun r h2 hq => xCBm_of hH rfl (xOF_mL hH hc rfl hq))⟩
theorem xr_look (a1 : Int32) (a2 : Int32) (hn : n ≤ 16) (ry : 0 ≤ y.toInt ∧ y.toInt ≤ 99) (rL : 0 ≤ L.toInt ∧ L.toInt ≤ 1200) : ∃ (n2 : Nat) (st2 dn2 rf2 : Nat → Int32) (nr2 y2 L2 : Int32) (wk2 : Nat → Int32), (∀ (τ : List Nat) (h : zm_H), xHI xKT xSG τ h → xX τ h → xCX τ h n st dn rf nr y L wk → zm_Y og 6 126 0 [(0, .ref 0), (1, .int a1), (2, .int a2)] [] h (xCBx τ h 0 (fun r => ∃ i : Int32, r = some (.int i)) (fun τ1 h1 => xCX τ1 h1 n2 st2 dn2 rf2 nr2 y2 L2 wk2))) ∧ ∀ (τ : List Nat) (h : zm_H), xHI xKT xSG τ h → xX τ h → xCM h n st dn rf nr y L wk → zm_Y og 49 263 0 [(0, .ref 55), (1, .int a1), (2, .int a2)] [] h (xCBm τ h 0 (fun r => ∃ i : Int32, r = some (.int i)) (fun τ1 h1 => xCM h1 n2 st2 dn2 rf2 nr2 y2 L2 wk2)) := by
  have eN := (xofn (k := n) (by omega)).1
  by_cases c0 : a1.toInt ≤ -1
  · exact ⟨n, st, dn, rf, nr, y, L, wk, fun τ h hH hX hc => by
      obtain ⟨ad, hc⟩ := hc
      have ⟨_, f1, _, f3, f4, _, hh, _⟩ := hc
      exact ((zb_x_look_0 hH hX  (by omega)).deep (Nat.le_of_ble_eq_true rfl)).mono (fun r h2 hq => xCBx_of hH rfl (xOF_x hH ⟨ad, hc⟩ rfl hq)), fun τ h hH hX hc => by
      have ⟨_, f1, _, f3, f4, _, hh, _⟩ := hc
      exact ((zb_m_look_0 hH hX  (by omega)).deep (Nat.le_of_ble_eq_true rfl)).mono (fun r h2 hq => xCBm_of hH rfl (xOF_m hH hc rfl hq))⟩
  by_cases c1 : 4 ≤ a1.toInt
  · exact ⟨n, st, dn, rf, nr, y, L, wk, fun τ h hH hX hc => by
      obtain ⟨ad, hc⟩ := hc
      have ⟨_, f1, _, f3, f4, _, hh, _⟩ := hc
      exact ((zb_x_look_1 hH hX  (by omega)).deep (Nat.le_of_ble_eq_true rfl)).mono (fun r h2 hq => xCBx_of hH rfl (xOF_x hH ⟨ad, hc⟩ rfl hq)), fun τ h hH hX hc => by
      have ⟨_, f1, _, f3, f4, _, hh, _⟩ := hc
      exact ((zb_m_look_1 hH hX  (by omega)).deep (Nat.le_of_ble_eq_true rfl)).mono (fun r h2 hq => xCBm_of hH rfl (xOF_m hH hc rfl hq))⟩
  by_cases c2 : a2.toInt ≤ -1
  · exact ⟨n, st, dn, rf, nr, y, L, wk, fun τ h hH hX hc => by
      obtain ⟨ad, hc⟩ := hc
      have ⟨_, f1, _, f3, f4, _, hh, _⟩ := hc
      exact ((zb_x_look_2 hH hX  (by omega)).deep (Nat.le_of_ble_eq_true rfl)).mono (fun r h2 hq => xCBx_of hH rfl (xOF_x hH ⟨ad, hc⟩ rfl hq)), fun τ h hH hX hc => by
      have ⟨_, f1, _, f3, f4, _, hh, _⟩ := hc
      exact ((zb_m_look_2 hH hX  (by omega)).deep (Nat.le_of_ble_eq_true rfl)).mono (fun r h2 hq => xCBm_of hH rfl (xOF_m hH hc rfl hq))⟩
  by_cases c3 : (n : Int) ≤ a2.toInt
  · exact ⟨n, st, dn, rf, nr, y, L, wk, fun τ h hH hX hc => by
      obtain ⟨ad, hc⟩ := hc
      have ⟨_, f1, _, f3, f4, _, hh, _⟩ := hc
      exact ((zb_x_look_3 hH hX f1 (by omega)).deep (Nat.le_of_ble_eq_true rfl)).mono (fun r h2 hq => xCBx_of hH rfl (xOF_x hH ⟨ad, hc⟩ rfl hq)), fun τ h hH hX hc => by
      have ⟨_, f1, _, f3, f4, _, hh, _⟩ := hc
      exact ((zb_m_look_3 hH hX f1 (by omega)).deep (Nat.le_of_ble_eq_true rfl)).mono (fun r h2 hq => xCBm_of hH rfl (xOF_m hH hc rfl hq))⟩
  by_cases c4 : ¬ dn a2.toInt.toNat = 0
  · exact ⟨n, st, dn, rf, nr, y, L, wk, fun τ h hH hX hc => by
      obtain ⟨ad, hc⟩ := hc
      have ⟨_, f1, _, f3, f4, _, hh, _⟩ := hc
      have hlt : a2.toInt.toNat < n := by omega
      have hd := xdn01X hH hc hlt c4
      have ⟨g1, g2, _, _, g5⟩ := hh _ hlt
      rw [hd] at g5
      exact ((zb_x_look_4 hH hX ⟨g1, g2, g5⟩ f1 (by omega)).deep (Nat.le_of_ble_eq_true rfl)).mono (fun r h2 hq => xCBx_of hH rfl (xOF_x hH ⟨ad, hc⟩ rfl hq)), fun τ h hH hX hc => by
      have ⟨_, f1, _, f3, f4, _, hh, _⟩ := hc
      have hlt : a2.toInt.toNat < n := by omega
      have hd := xdn01M hH hc hlt c4
      have g3 := (hh _ hlt).2.2
      rw [hd] at g3
      exact ((zb_m_look_4 hH hX g3 f1 (by omega)).deep (Nat.le_of_ble_eq_true rfl)).mono (fun r h2 hq => xCBm_of hH rfl (xOF_m hH hc rfl hq))⟩
  by_cases c5 : L.toInt = 1200
  · exact ⟨n, st, dn, rf, nr, y, L, wk, fun τ h hH hX hc => by
      obtain ⟨ad, hc⟩ := hc
      have ⟨_, f1, _, f3, f4, _, hh, _⟩ := hc
      have hlt : a2.toInt.toNat < n := by omega
      have hd : dn a2.toInt.toNat = 0 := Decidable.not_not.mp c4
      have ⟨g1, g2, _, _, g5⟩ := hh _ hlt
      rw [hd] at g5
      exact ((zb_x_look_5 hH hX ⟨g1, g2, g5⟩ f1 f4 (by omega)).deep (Nat.le_of_ble_eq_true rfl)).mono (fun r h2 hq => xCBx_of hH rfl (xOF_x hH ⟨ad, hc⟩ rfl hq)), fun τ h hH hX hc => by
      have ⟨_, f1, _, f3, f4, _, hh, _⟩ := hc
      have hlt : a2.toInt.toNat < n := by omega
      have hd : dn a2.toInt.toNat = 0 := Decidable.not_not.mp c4
      have g3 := (hh _ hlt).2.2
      rw [hd] at g3
      exact ((zb_m_look_5 hH hX g3 f1 f4 (by omega)).deep (Nat.le_of_ble_eq_true rfl)).mono (fun r h2 hq => xCBm_of hH rfl (xOF_m hH hc rfl hq))⟩
  exact ⟨n, st, dn, rf, nr, y, (L + 1), wk, fun τ h hH hX hc => by
      obtain ⟨ad, hc⟩ := hc
      have ⟨_, f1, _, f3, f4, _, hh, _⟩ := hc
      have hlt : a2.toInt.toNat < n := by omega
      have hd : dn a2.toInt.toNat = 0 := Decidable.not_not.mp c4
      have ⟨g1, g2, _, _, g5⟩ := hh _ hlt
      rw [hd] at g5
      exact ((zb_x_look_6 hH hX ⟨g1, g2, g5⟩ f1 f4 (by omega)).deep (Nat.le_of_ble_eq_true rfl)).mono (fun r h2 hq => xCBx_of hH rfl (xOF_xL hH ⟨ad, hc⟩ rfl hq)), fun τ h hH hX hc => by
      have ⟨_, f1, _, f3, f4, _, hh, _⟩ := hc
      have hlt : a2.toInt.toNat < n := by omega
      have hd : dn a2.toInt.toNat = 0 := Decidable.not_not.mp c4
      have g3 := (hh _ hlt).2.2
      rw [hd] at g3
      exact ((zb_m_look_6 hH hX g3 f1 f4 (by omega)).deep (Nat.le_of_ble_eq_true rfl)).mono (fun r h2 hq => xCBm_of hH rfl (xOF_mL hH hc rfl hq))⟩
theorem xr_go  (hn : n ≤ 16) (ry : 0 ≤ y.toInt ∧ y.toInt ≤ 99) (rL : 0 ≤ L.toInt ∧ L.toInt ≤ 1200) : ∃ (n2 : Nat) (st2 dn2 rf2 : Nat → Int32) (nr2 y2 L2 : Int32) (wk2 : Nat → Int32), (∀ (τ : List Nat) (h : zm_H), xHI xKT xSG τ h → xX τ h → xCX τ h n st dn rf nr y L wk → zm_Y og 6 132 0 [(0, .ref 0)] [] h (xCBx τ h 0 (fun r => ∃ i : Int64, r = some (.long i)) (fun τ1 h1 => xCX τ1 h1 n2 st2 dn2 rf2 nr2 y2 L2 wk2))) ∧ ∀ (τ : List Nat) (h : zm_H), xHI xKT xSG τ h → xX τ h → xCM h n st dn rf nr y L wk → zm_Y og 48 267 0 [(0, .ref 55)] [] h (xCBm τ h 0 (fun r => ∃ i : Int64, r = some (.long i)) (fun τ1 h1 => xCM h1 n2 st2 dn2 rf2 nr2 y2 L2 wk2)) := by
  by_cases c0 : y.toInt = 99
  · exact ⟨n, st, dn, rf, nr, y, L, wk, fun τ h hH hX hc => by
      obtain ⟨ad, hc⟩ := hc
      have ⟨_, f1, _, f3, f4, _, hh, _⟩ := hc
      exact ((zb_x_go_0 hH hX f3 (by omega)).deep (Nat.le_of_ble_eq_true rfl)).mono (fun r h2 hq => xCBx_of hH rfl (xOF_x hH ⟨ad, hc⟩ rfl hq)), fun τ h hH hX hc => by
      have ⟨_, f1, _, f3, f4, _, hh, _⟩ := hc
      exact ((zb_m_go_0 hH hX f3 (by omega)).deep (Nat.le_of_ble_eq_true rfl)).mono (fun r h2 hq => xCBm_of hH rfl (xOF_m hH hc rfl hq))⟩
  exact ⟨n, st, dn, rf, nr, (y + 1), L, wk, fun τ h hH hX hc => by
      obtain ⟨ad, hc⟩ := hc
      have ⟨_, f1, _, f3, f4, _, hh, _⟩ := hc
      exact ((zb_x_go_1 hH hX f3 (by omega)).deep (Nat.le_of_ble_eq_true rfl)).mono (fun r h2 hq => xCBx_of hH rfl (xOF_xy hH ⟨ad, hc⟩ rfl hq)), fun τ h hH hX hc => by
      have ⟨_, f1, _, f3, f4, _, hh, _⟩ := hc
      exact ((zb_m_go_1 hH hX f3 (by omega)).deep (Nat.le_of_ble_eq_true rfl)).mono (fun r h2 hq => xCBm_of hH rfl (xOF_my hH hc rfl hq))⟩
theorem xr_worth (a1 : Int32) (a2 : Int32) (a3 : Int32) (hn : n ≤ 16) (ry : 0 ≤ y.toInt ∧ y.toInt ≤ 99) (rL : 0 ≤ L.toInt ∧ L.toInt ≤ 1200) : ∃ (x : Int32) (n2 : Nat) (st2 dn2 rf2 : Nat → Int32) (nr2 y2 L2 : Int32) (wk2 : Nat → Int32), (∀ (τ : List Nat) (h : zm_H), xHI xKT xSG τ h → xX τ h → xCX τ h n st dn rf nr y L wk → zm_Y og 2 28 0 [(0, .ref 0), (1, .int a1), (2, .int a2), (3, .int a3)] [] h (xCBx τ h 0 (fun r => r = some (.int x)) (fun τ1 h1 => xCX τ1 h1 n2 st2 dn2 rf2 nr2 y2 L2 wk2))) ∧ ∀ (τ : List Nat) (h : zm_H), xHI xKT xSG τ h → xX τ h → xCM h n st dn rf nr y L wk → zm_Y og 2 196 0 [(0, .ref 55), (1, .int a1), (2, .int a2), (3, .int a3)] [] h (xCBm τ h 0 (fun r => r = some (.int x)) (fun τ1 h1 => xCM h1 n2 st2 dn2 rf2 nr2 y2 L2 wk2)) := by
  have eN := (xofn (k := n) (by omega)).1
  by_cases c0 : a1.toInt ≤ -1
  · exact ⟨(-2), n, st, dn, rf, nr, y, L, wk, fun τ h hH hX hc => by
      obtain ⟨ad, hc⟩ := hc
      have ⟨_, f1, _, f3, f4, _, hh, _⟩ := hc
      exact ((zb_x_worth_0 hH hX  (by omega)).deep (Nat.le_of_ble_eq_true rfl)).mono (fun r h2 hq => xCBx_of hH rfl (xOF_x hH ⟨ad, hc⟩ rfl hq)), fun τ h hH hX hc => by
      have ⟨_, f1, _, f3, f4, _, hh, _⟩ := hc
      exact ((zb_m_worth_0 hH hX  (by omega)).deep (Nat.le_of_ble_eq_true rfl)).mono (fun r h2 hq => xCBm_of hH rfl (xOF_m hH hc rfl hq))⟩
  by_cases c1 : (n : Int) ≤ a1.toInt
  · exact ⟨(-2), n, st, dn, rf, nr, y, L, wk, fun τ h hH hX hc => by
      obtain ⟨ad, hc⟩ := hc
      have ⟨_, f1, _, f3, f4, _, hh, _⟩ := hc
      exact ((zb_x_worth_1 hH hX f1 (by omega)).deep (Nat.le_of_ble_eq_true rfl)).mono (fun r h2 hq => xCBx_of hH rfl (xOF_x hH ⟨ad, hc⟩ rfl hq)), fun τ h hH hX hc => by
      have ⟨_, f1, _, f3, f4, _, hh, _⟩ := hc
      exact ((zb_m_worth_1 hH hX f1 (by omega)).deep (Nat.le_of_ble_eq_true rfl)).mono (fun r h2 hq => xCBm_of hH rfl (xOF_m hH hc rfl hq))⟩
  by_cases c2 : a2.toInt ≤ -1
  · exact ⟨(-2), n, st, dn, rf, nr, y, L, wk, fun τ h hH hX hc => by
      obtain ⟨ad, hc⟩ := hc
      have ⟨_, f1, _, f3, f4, _, hh, _⟩ := hc
      exact ((zb_x_worth_2 hH hX f1 (by omega)).deep (Nat.le_of_ble_eq_true rfl)).mono (fun r h2 hq => xCBx_of hH rfl (xOF_x hH ⟨ad, hc⟩ rfl hq)), fun τ h hH hX hc => by
      have ⟨_, f1, _, f3, f4, _, hh, _⟩ := hc
      exact ((zb_m_worth_2 hH hX f1 (by omega)).deep (Nat.le_of_ble_eq_true rfl)).mono (fun r h2 hq => xCBm_of hH rfl (xOF_m hH hc rfl hq))⟩
  by_cases c3 : 10001 ≤ a2.toInt
  · exact ⟨(-2), n, st, dn, rf, nr, y, L, wk, fun τ h hH hX hc => by
      obtain ⟨ad, hc⟩ := hc
      have ⟨_, f1, _, f3, f4, _, hh, _⟩ := hc
      exact ((zb_x_worth_3 hH hX f1 (by omega)).deep (Nat.le_of_ble_eq_true rfl)).mono (fun r h2 hq => xCBx_of hH rfl (xOF_x hH ⟨ad, hc⟩ rfl hq)), fun τ h hH hX hc => by
      have ⟨_, f1, _, f3, f4, _, hh, _⟩ := hc
      exact ((zb_m_worth_3 hH hX f1 (by omega)).deep (Nat.le_of_ble_eq_true rfl)).mono (fun r h2 hq => xCBm_of hH rfl (xOF_m hH hc rfl hq))⟩
  by_cases c4 : a3.toInt ≤ 0
  · exact ⟨(-2), n, st, dn, rf, nr, y, L, wk, fun τ h hH hX hc => by
      obtain ⟨ad, hc⟩ := hc
      have ⟨_, f1, _, f3, f4, _, hh, _⟩ := hc
      exact ((zb_x_worth_4 hH hX f1 (by omega)).deep (Nat.le_of_ble_eq_true rfl)).mono (fun r h2 hq => xCBx_of hH rfl (xOF_x hH ⟨ad, hc⟩ rfl hq)), fun τ h hH hX hc => by
      have ⟨_, f1, _, f3, f4, _, hh, _⟩ := hc
      exact ((zb_m_worth_4 hH hX f1 (by omega)).deep (Nat.le_of_ble_eq_true rfl)).mono (fun r h2 hq => xCBm_of hH rfl (xOF_m hH hc rfl hq))⟩
  by_cases c5 : 10 ≤ a3.toInt
  · exact ⟨(-2), n, st, dn, rf, nr, y, L, wk, fun τ h hH hX hc => by
      obtain ⟨ad, hc⟩ := hc
      have ⟨_, f1, _, f3, f4, _, hh, _⟩ := hc
      exact ((zb_x_worth_5 hH hX f1 (by omega)).deep (Nat.le_of_ble_eq_true rfl)).mono (fun r h2 hq => xCBx_of hH rfl (xOF_x hH ⟨ad, hc⟩ rfl hq)), fun τ h hH hX hc => by
      have ⟨_, f1, _, f3, f4, _, hh, _⟩ := hc
      exact ((zb_m_worth_5 hH hX f1 (by omega)).deep (Nat.le_of_ble_eq_true rfl)).mono (fun r h2 hq => xCBm_of hH rfl (xOF_m hH hc rfl hq))⟩
  exact ⟨0, n, st, dn, rf, nr, y, L, wk, fun τ h hH hX hc => by
      obtain ⟨ad, hc⟩ := hc
      have ⟨_, f1, _, f3, f4, _, hh, _⟩ := hc
      exact ((zb_x_worth_6 hH hX f1 (by omega)).deep (Nat.le_of_ble_eq_true rfl)).mono (fun r h2 hq => xCBx_of hH rfl (xOF_x hH ⟨ad, hc⟩ rfl hq)), fun τ h hH hX hc => by
      have ⟨_, f1, _, f3, f4, _, hh, _⟩ := hc
      exact ((zb_m_worth_6 hH hX f1 (by omega)).deep (Nat.le_of_ble_eq_true rfl)).mono (fun r h2 hq => xCBm_of hH rfl (xOF_m hH hc rfl hq))⟩
end XC1
