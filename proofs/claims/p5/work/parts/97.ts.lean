/-! ROOMS and OPENINGS (made by a program) -/
section XR5
set_option maxRecDepth 100000
variable {og : Nat → Option zm_C} {τ τ' : List Nat} {h h' : zm_H} {ms : List (Nat × Nat)} {ad rp : Nat → Nat} {n : Nat} {dn rc oc : Nat → Int32} {st rf : Nat → Int32} {nr y L : Int32} {wk : Nat → Int32} {wd sz : Nat → Int32} {nm : Nat → Nat → Int64}
def xE5x (τ : List Nat) (h : zm_H) (g : Nat) (A : Option Value → Prop) (R : List Nat → zm_H → Prop) (r : Option Value) (h' : zm_H) : Prop := A r ∧ ∃ τ', xHI xKT xSG τ' h' ∧ xX τ' h' ∧ xW h' ≤ xW h + g ∧ R τ' h' ∧ (∀ wd sz nm, xRM h wd sz nm → xRM h' wd sz nm) ∧ ∀ n dn rc oc, xHM h n dn rc oc → xHM h' n dn rc oc
def xE5m (τ : List Nat) (h : zm_H) (g : Nat) (A : Option Value → Prop) (R : List Nat → zm_H → Prop) (r : Option Value) (h' : zm_H) : Prop := A r ∧ ∃ τ', xHI xKT xSG τ' h' ∧ xX τ' h' ∧ xW h' ≤ xW h + g ∧ R τ' h' ∧ (∀ wd sz nm, xRX τ h wd sz nm → xRX τ' h' wd sz nm) ∧ ∀ n dn rc oc, xH5 τ h n dn rc oc → xH5 τ' h' n dn rc oc
theorem xE5x_of {g : Nat} {A : Option Value → Prop} {R R' : List Nat → zm_H → Prop} {r : Option Value} (hH : xHI xKT xSG τ h) (hk : ([(56, 0), (57, 0), (58, 0)] : List (Nat × Nat)).all (fun p => !xms ms p.1 p.2) = true ∧ ([(55, 6), (69, 0), (66, 0), (67, 0)] : List (Nat × Nat)).all (fun p => !xms ms p.1 p.2) = true) (hR : ∀ τ1 h1, xF (xms ms) τ h τ1 h1 → R τ1 h1 → R' τ1 h1) (hq : xCO τ h g ms A R r h') : xE5x τ h g A R' r h' := by
  obtain ⟨p, τ1, a1, a2, a3, a4, a5⟩ := hq
  exact ⟨p, τ1, a1, a2, a3, hR _ _ a4 a5, fun _ _ _ hc => xRM_F hH a4 hk.1 hc, fun _ _ _ _ hc => xHM_F hH a4 hk.2 hc⟩
theorem xE5m_of {g : Nat} {A : Option Value → Prop} {R R' : List Nat → zm_H → Prop} {r : Option Value} (hH : xHI xKT xSG τ h) (hk : ([(51, 0), (52, 0), (46, 0), (211, 0)] : List (Nat × Nat)).all (fun p => !xms ms p.1 p.2) = true ∧ ([(0, 1), (1, 0), (207, 9), (207, 5), (207, 7)] : List (Nat × Nat)).all (fun p => !xms ms p.1 p.2) = true) (hR : ∀ τ1 h1, xF (xms ms) τ h τ1 h1 → R τ1 h1 → R' τ1 h1) (hq : xCO τ h g ms A R r h') : xE5m τ h g A R' r h' := by
  obtain ⟨p, τ1, a1, a2, a3, a4, a5⟩ := hq
  exact ⟨p, τ1, a1, a2, a3, hR _ _ a4 a5, fun _ _ _ hc => xRX_F hH a4 hk.1 hc, fun _ _ _ _ hc => xH5_F hH a4 hk.2 hc⟩
theorem xw0 {w : Int32} (h1 : -1 ≤ w.toInt) (h2 : ¬ w = -1) : 0 ≤ w.toInt := by
  have h3 : ¬ w.toInt = -1 := fun z => h2 (Int32.toInt_inj.mp z)
  omega
theorem xr_tear (a : Int32) (rg : ∀ j, j < 4 → (-1 ≤ (wd j).toInt ∧ (wd j).toInt ≤ 3) ∧ 0 ≤ (sz j).toInt ∧ (sz j).toInt ≤ 60) (hn : n ≤ 16) (hz : ∀ i, n ≤ i → i < 16 → dn i = 0 ∧ rc i = 0 ∧ oc i = 0) (rr : ∀ i, i < n → (0 ≤ (rc i).toInt ∧ (rc i).toInt ≤ 6) ∧ 0 ≤ (oc i).toInt ∧ (oc i).toInt ≤ 10) : ∃ (x : Int32) (n2 : Nat) (dn2 rc2 oc2 : Nat → Int32) (wd2 sz2 : Nat → Int32) (nm2 : Nat → Nat → Int64), (∀ i, n2 ≤ i → i < 16 → dn2 i = 0 ∧ rc2 i = 0 ∧ oc2 i = 0) ∧ (∀ (τ : List Nat) (h : zm_H), xHI xKT xSG τ h → xX τ h → xH5 τ h n dn rc oc → xRX τ h wd sz nm → zm_Y og 2 175 0 [(0, .ref 0), (1, .int a)] [] h (xE5x τ h 0 (fun r => r = some (.int x)) (fun τ1 h1 => xH5 τ1 h1 n2 dn2 rc2 oc2 ∧ xRX τ1 h1 wd2 sz2 nm2))) ∧ ∀ (τ : List Nat) (h : zm_H), xHI xKT xSG τ h → xX τ h → xHM h n dn rc oc → xRM h wd sz nm → zm_Y og 2 184 0 [(0, .ref 55), (1, .int a)] [] h (xE5m τ h 0 (fun r => r = some (.int x)) (fun τ1 h1 => xHM h1 n2 dn2 rc2 oc2 ∧ xRM h1 wd2 sz2 nm2)) := by
  by_cases c0 : ¬ (0 ≤ a.toInt ∧ a.toInt ≤ 3)
  · exact ⟨0, n, dn, rc, oc, wd, sz, nm, hz, fun τ h hH hX hx5 hc => by
      obtain ⟨ad, hx⟩ := hx5
      obtain ⟨rp, hc⟩ := hc
      exact ((yt_x_bad (d := 0) hH hX hc c0).deep (Nat.le_of_ble_eq_true rfl)).mono (fun r h2 hq => xE5x_of hH ⟨rfl, rfl⟩ (fun τ1 h1 hf a => ⟨xH5_F hH hf rfl ⟨ad, hx⟩, a⟩) hq), fun τ h hH hX hx hc => by
      exact ((yt_m_bad (d := 0) hH hX hc c0).deep (Nat.le_of_ble_eq_true rfl)).mono (fun r h2 hq => xE5m_of hH ⟨rfl, rfl⟩ (fun τ1 h1 hf a => ⟨xHM_F hH hf rfl hx, a⟩) hq)⟩
  by_cases c1 : wd a.toInt.toNat = -1
  · exact ⟨0, n, dn, rc, oc, wd, sz, nm, hz, fun τ h hH hX hx5 hc => by
      obtain ⟨ad, hx⟩ := hx5
      obtain ⟨rp, hc⟩ := hc
      exact ((yt_x_no (d := 0) hH hX hc (Decidable.not_not.mp c0) c1).deep (Nat.le_of_ble_eq_true rfl)).mono (fun r h2 hq => xE5x_of hH ⟨rfl, rfl⟩ (fun τ1 h1 hf a => ⟨xH5_F hH hf rfl ⟨ad, hx⟩, a⟩) hq), fun τ h hH hX hx hc => by
      exact ((yt_m_no (d := 0) hH hX hc (Decidable.not_not.mp c0) c1).deep (Nat.le_of_ble_eq_true rfl)).mono (fun r h2 hq => xE5m_of hH ⟨rfl, rfl⟩ (fun τ1 h1 hf a => ⟨xHM_F hH hf rfl hx, a⟩) hq)⟩
  have hla : a.toInt.toNat < 4 := by omega
  exact ⟨1, n, dn, rc, oc, upd wd a.toInt.toNat (-1), sz, nm, hz, fun τ h hH hX hx5 hc => by
      obtain ⟨ad, hx⟩ := hx5
      obtain ⟨rp, hc⟩ := hc
      exact ((yt_x_ok (d := 0) hH hX hc (Decidable.not_not.mp c0) c1 ⟨xw0 (rg _ hla).1.1 c1, (rg _ hla).1.2⟩).deep (Nat.le_of_ble_eq_true rfl)).mono (fun r h2 hq => xE5x_of hH ⟨rfl, rfl⟩ (fun τ1 h1 hf a => ⟨xH5_F hH hf rfl ⟨ad, hx⟩, a⟩) hq), fun τ h hH hX hx hc => by
      exact ((yt_m_ok (d := 0) hH hX hc (Decidable.not_not.mp c0) c1 ⟨xw0 (rg _ hla).1.1 c1, (rg _ hla).1.2⟩).deep (Nat.le_of_ble_eq_true rfl)).mono (fun r h2 hq => xE5m_of hH ⟨rfl, rfl⟩ (fun τ1 h1 hf a => ⟨xHM_F hH hf rfl hx, a⟩) hq)⟩
theorem xr_row (a : Int32) (b : Int32) (c : Int32) (rg : ∀ j, j < 4 → (-1 ≤ (wd j).toInt ∧ (wd j).toInt ≤ 3) ∧ 0 ≤ (sz j).toInt ∧ (sz j).toInt ≤ 60) (hn : n ≤ 16) (hz : ∀ i, n ≤ i → i < 16 → dn i = 0 ∧ rc i = 0 ∧ oc i = 0) (rr : ∀ i, i < n → (0 ≤ (rc i).toInt ∧ (rc i).toInt ≤ 6) ∧ 0 ≤ (oc i).toInt ∧ (oc i).toInt ≤ 10) : ∃ (x : Int32) (n2 : Nat) (dn2 rc2 oc2 : Nat → Int32) (wd2 sz2 : Nat → Int32) (nm2 : Nat → Nat → Int64), (∀ i, n2 ≤ i → i < 16 → dn2 i = 0 ∧ rc2 i = 0 ∧ oc2 i = 0) ∧ (∀ (τ : List Nat) (h : zm_H), xHI xKT xSG τ h → xX τ h → xH5 τ h n dn rc oc → xRX τ h wd sz nm → zm_Y og 3 173 0 [(0, .ref 0), (1, .int a), (2, .int b), (3, .int c)] [] h (xE5x τ h 0 (fun r => r = some (.int x)) (fun τ1 h1 => xH5 τ1 h1 n2 dn2 rc2 oc2 ∧ xRX τ1 h1 wd2 sz2 nm2))) ∧ ∀ (τ : List Nat) (h : zm_H), xHI xKT xSG τ h → xX τ h → xHM h n dn rc oc → xRM h wd sz nm → zm_Y og 3 181 0 [(0, .ref 55), (1, .int a), (2, .int b), (3, .int c)] [] h (xE5m τ h 0 (fun r => r = some (.int x)) (fun τ1 h1 => xHM h1 n2 dn2 rc2 oc2 ∧ xRM h1 wd2 sz2 nm2)) := by
  by_cases c0 : ¬ ((0 ≤ a.toInt ∧ a.toInt ≤ 3) ∧ (0 ≤ b.toInt ∧ b.toInt ≤ 3) ∧ c.toInt ≤ 60)
  · exact ⟨(-2), n, dn, rc, oc, wd, sz, nm, hz, fun τ h hH hX hx5 hc => by
      obtain ⟨ad, hx⟩ := hx5
      obtain ⟨rp, hc⟩ := hc
      exact ((yr_x_bad (d := 0) hH hX hc c0).deep (Nat.le_of_ble_eq_true rfl)).mono (fun r h2 hq => xE5x_of hH ⟨rfl, rfl⟩ (fun τ1 h1 hf a => ⟨xH5_F hH hf rfl ⟨ad, hx⟩, a⟩) hq), fun τ h hH hX hx hc => by
      exact ((yr_m_bad (d := 0) hH hX hc c0).deep (Nat.le_of_ble_eq_true rfl)).mono (fun r h2 hq => xE5m_of hH ⟨rfl, rfl⟩ (fun τ1 h1 hf a => ⟨xHM_F hH hf rfl hx, a⟩) hq)⟩
  by_cases c1 : c.toInt < 0
  · exact ⟨(-3), n, dn, rc, oc, wd, sz, nm, hz, fun τ h hH hX hx5 hc => by
      obtain ⟨ad, hx⟩ := hx5
      obtain ⟨rp, hc⟩ := hc
      exact ((yr_x_neg (d := 0) hH hX hc (Decidable.not_not.mp c0) c1).deep (Nat.le_of_ble_eq_true rfl)).mono (fun r h2 hq => xE5x_of hH ⟨rfl, rfl⟩ (fun τ1 h1 hf a => ⟨xH5_F hH hf rfl ⟨ad, hx⟩, a⟩) hq), fun τ h hH hX hx hc => by
      exact ((yr_m_neg (d := 0) hH hX hc (Decidable.not_not.mp c0) c1).deep (Nat.le_of_ble_eq_true rfl)).mono (fun r h2 hq => xE5m_of hH ⟨rfl, rfl⟩ (fun τ1 h1 hf a => ⟨xHM_F hH hf rfl hx, a⟩) hq)⟩
  exact ⟨0, n, dn, rc, oc, upd wd a.toInt.toNat b, upd sz a.toInt.toNat c, xnz nm a.toInt.toNat 0 60, hz, fun τ h hH hX hx5 hc => by
      obtain ⟨ad, hx⟩ := hx5
      obtain ⟨rp, hc⟩ := hc
      exact ((yr_x_ok (d := 0) hH hX hc (Decidable.not_not.mp c0) (by omega)).deep (Nat.le_of_ble_eq_true rfl)).mono (fun r h2 hq => xE5x_of hH ⟨rfl, rfl⟩ (fun τ1 h1 hf a => ⟨xH5_F hH hf rfl ⟨ad, hx⟩, a⟩) hq), fun τ h hH hX hx hc => by
      exact ((yr_m_ok (d := 0) hH hX hc (Decidable.not_not.mp c0) (by omega)).deep (Nat.le_of_ble_eq_true rfl)).mono (fun r h2 hq => xE5m_of hH ⟨rfl, rfl⟩ (fun τ1 h1 hf a => ⟨xHM_F hH hf rfl hx, a⟩) hq)⟩
theorem xr_write (a : Int32) (b : Int32) (v : Int64) (rg : ∀ j, j < 4 → (-1 ≤ (wd j).toInt ∧ (wd j).toInt ≤ 3) ∧ 0 ≤ (sz j).toInt ∧ (sz j).toInt ≤ 60) (hn : n ≤ 16) (hz : ∀ i, n ≤ i → i < 16 → dn i = 0 ∧ rc i = 0 ∧ oc i = 0) (rr : ∀ i, i < n → (0 ≤ (rc i).toInt ∧ (rc i).toInt ≤ 6) ∧ 0 ≤ (oc i).toInt ∧ (oc i).toInt ≤ 10) : ∃ (x : Int32) (n2 : Nat) (dn2 rc2 oc2 : Nat → Int32) (wd2 sz2 : Nat → Int32) (nm2 : Nat → Nat → Int64), (∀ i, n2 ≤ i → i < 16 → dn2 i = 0 ∧ rc2 i = 0 ∧ oc2 i = 0) ∧ (∀ (τ : List Nat) (h : zm_H), xHI xKT xSG τ h → xX τ h → xH5 τ h n dn rc oc → xRX τ h wd sz nm → zm_Y og 2 176 0 [(0, .ref 0), (1, .int a), (2, .int b), (3, .long v)] [] h (xE5x τ h 0 (fun r => r = some (.int x)) (fun τ1 h1 => xH5 τ1 h1 n2 dn2 rc2 oc2 ∧ xRX τ1 h1 wd2 sz2 nm2))) ∧ ∀ (τ : List Nat) (h : zm_H), xHI xKT xSG τ h → xX τ h → xHM h n dn rc oc → xRM h wd sz nm → zm_Y og 2 185 0 [(0, .ref 55), (1, .int a), (2, .int b), (3, .long v)] [] h (xE5m τ h 0 (fun r => r = some (.int x)) (fun τ1 h1 => xHM h1 n2 dn2 rc2 oc2 ∧ xRM h1 wd2 sz2 nm2)) := by
  by_cases c0 : ¬ (0 ≤ a.toInt ∧ a.toInt ≤ 3)
  · exact ⟨(-2), n, dn, rc, oc, wd, sz, nm, hz, fun τ h hH hX hx5 hc => by
      obtain ⟨ad, hx⟩ := hx5
      obtain ⟨rp, hc⟩ := hc
      exact ((yw_x_bad (d := 0) hH hX hc c0).deep (Nat.le_of_ble_eq_true rfl)).mono (fun r h2 hq => xE5x_of hH ⟨rfl, rfl⟩ (fun τ1 h1 hf a => ⟨xH5_F hH hf rfl ⟨ad, hx⟩, a⟩) hq), fun τ h hH hX hx hc => by
      exact ((yw_m_bad (d := 0) hH hX hc c0).deep (Nat.le_of_ble_eq_true rfl)).mono (fun r h2 hq => xE5m_of hH ⟨rfl, rfl⟩ (fun τ1 h1 hf a => ⟨xHM_F hH hf rfl hx, a⟩) hq)⟩
  by_cases c1 : wd a.toInt.toNat = -1
  · exact ⟨(-5), n, dn, rc, oc, wd, sz, nm, hz, fun τ h hH hX hx5 hc => by
      obtain ⟨ad, hx⟩ := hx5
      obtain ⟨rp, hc⟩ := hc
      exact ((yw_x_no (d := 0) hH hX hc (Decidable.not_not.mp c0) c1).deep (Nat.le_of_ble_eq_true rfl)).mono (fun r h2 hq => xE5x_of hH ⟨rfl, rfl⟩ (fun τ1 h1 hf a => ⟨xH5_F hH hf rfl ⟨ad, hx⟩, a⟩) hq), fun τ h hH hX hx hc => by
      exact ((yw_m_no (d := 0) hH hX hc (Decidable.not_not.mp c0) c1).deep (Nat.le_of_ble_eq_true rfl)).mono (fun r h2 hq => xE5m_of hH ⟨rfl, rfl⟩ (fun τ1 h1 hf a => ⟨xHM_F hH hf rfl hx, a⟩) hq)⟩
  by_cases c2 : ¬ (0 ≤ b.toInt ∧ b.toInt < (sz a.toInt.toNat).toInt)
  · have hla : a.toInt.toNat < 4 := by omega
    exact ⟨(-6), n, dn, rc, oc, wd, sz, nm, hz, fun τ h hH hX hx5 hc => by
      obtain ⟨ad, hx⟩ := hx5
      obtain ⟨rp, hc⟩ := hc
      exact ((yw_x_bey (d := 0) hH hX hc (Decidable.not_not.mp c0) c1 ⟨xw0 (rg _ hla).1.1 c1, (rg _ hla).1.2⟩ (rg _ hla).2.1 (rg _ hla).2.2 c2).deep (Nat.le_of_ble_eq_true rfl)).mono (fun r h2 hq => xE5x_of hH ⟨rfl, rfl⟩ (fun τ1 h1 hf a => ⟨xH5_F hH hf rfl ⟨ad, hx⟩, a⟩) hq), fun τ h hH hX hx hc => by
      exact ((yw_m_bey (d := 0) hH hX hc (Decidable.not_not.mp c0) c1 ⟨xw0 (rg _ hla).1.1 c1, (rg _ hla).1.2⟩ (rg _ hla).2.1 (rg _ hla).2.2 c2).deep (Nat.le_of_ble_eq_true rfl)).mono (fun r h2 hq => xE5m_of hH ⟨rfl, rfl⟩ (fun τ1 h1 hf a => ⟨xHM_F hH hf rfl hx, a⟩) hq)⟩
  have hla : a.toInt.toNat < 4 := by omega
  exact ⟨0, n, dn, rc, oc, wd, sz, updN nm a.toInt.toNat b.toInt.toNat (xcut (wd a.toInt.toNat) v), hz, fun τ h hH hX hx5 hc => by
      obtain ⟨ad, hx⟩ := hx5
      obtain ⟨rp, hc⟩ := hc
      exact ((yw_x_ok (d := 0) hH hX hc (Decidable.not_not.mp c0) c1 ⟨xw0 (rg _ hla).1.1 c1, (rg _ hla).1.2⟩ (rg _ hla).2.1 (rg _ hla).2.2 (Decidable.not_not.mp c2)).deep (Nat.le_of_ble_eq_true rfl)).mono (fun r h2 hq => xE5x_of hH ⟨rfl, rfl⟩ (fun τ1 h1 hf a => ⟨xH5_F hH hf rfl ⟨ad, hx⟩, a⟩) hq), fun τ h hH hX hx hc => by
      exact ((yw_m_ok (d := 0) hH hX hc (Decidable.not_not.mp c0) c1 ⟨xw0 (rg _ hla).1.1 c1, (rg _ hla).1.2⟩ (rg _ hla).2.1 (rg _ hla).2.2 (Decidable.not_not.mp c2)).deep (Nat.le_of_ble_eq_true rfl)).mono (fun r h2 hq => xE5m_of hH ⟨rfl, rfl⟩ (fun τ1 h1 hf a => ⟨xHM_F hH hf rfl hx, a⟩) hq)⟩
theorem xr_paste (a : Int32) (u : Int32) (b : Int32) (v : Int32) (c : Int32) (rg : ∀ j, j < 4 → (-1 ≤ (wd j).toInt ∧ (wd j).toInt ≤ 3) ∧ 0 ≤ (sz j).toInt ∧ (sz j).toInt ≤ 60) (hn : n ≤ 16) (hz : ∀ i, n ≤ i → i < 16 → dn i = 0 ∧ rc i = 0 ∧ oc i = 0) (rr : ∀ i, i < n → (0 ≤ (rc i).toInt ∧ (rc i).toInt ≤ 6) ∧ 0 ≤ (oc i).toInt ∧ (oc i).toInt ≤ 10) : ∃ (x : Int32) (n2 : Nat) (dn2 rc2 oc2 : Nat → Int32) (wd2 sz2 : Nat → Int32) (nm2 : Nat → Nat → Int64), (∀ i, n2 ≤ i → i < 16 → dn2 i = 0 ∧ rc2 i = 0 ∧ oc2 i = 0) ∧ (∀ (τ : List Nat) (h : zm_H), xHI xKT xSG τ h → xX τ h → xH5 τ h n dn rc oc → xRX τ h wd sz nm → zm_Y og 2 178 0 [(0, .ref 0), (1, .int a), (2, .int u), (3, .int b), (4, .int v), (5, .int c)] [] h (xE5x τ h 0 (fun r => r = some (.int x)) (fun τ1 h1 => xH5 τ1 h1 n2 dn2 rc2 oc2 ∧ xRX τ1 h1 wd2 sz2 nm2))) ∧ ∀ (τ : List Nat) (h : zm_H), xHI xKT xSG τ h → xX τ h → xHM h n dn rc oc → xRM h wd sz nm → zm_Y og 2 187 0 [(0, .ref 55), (1, .int a), (2, .int u), (3, .int b), (4, .int v), (5, .int c)] [] h (xE5m τ h 0 (fun r => r = some (.int x)) (fun τ1 h1 => xHM h1 n2 dn2 rc2 oc2 ∧ xRM h1 wd2 sz2 nm2)) := by
  by_cases c0 : ¬ ((0 ≤ a.toInt ∧ a.toInt ≤ 3) ∧ 0 ≤ b.toInt ∧ b.toInt ≤ 3)
  · exact ⟨(-2), n, dn, rc, oc, wd, sz, nm, hz, fun τ h hH hX hx5 hc => by
      obtain ⟨ad, hx⟩ := hx5
      obtain ⟨rp, hc⟩ := hc
      exact ((yp_x_bad (d := 0) hH hX hc c0).deep (Nat.le_of_ble_eq_true rfl)).mono (fun r h2 hq => xE5x_of hH ⟨rfl, rfl⟩ (fun τ1 h1 hf a => ⟨xH5_F hH hf rfl ⟨ad, hx⟩, a⟩) hq), fun τ h hH hX hx hc => by
      exact ((yp_m_bad (d := 0) hH hX hc c0).deep (Nat.le_of_ble_eq_true rfl)).mono (fun r h2 hq => xE5m_of hH ⟨rfl, rfl⟩ (fun τ1 h1 hf a => ⟨xHM_F hH hf rfl hx, a⟩) hq)⟩
  by_cases c1 : wd a.toInt.toNat = -1
  · have hp := (Decidable.not_not.mp c0).1
    have hq := (Decidable.not_not.mp c0).2
    exact ⟨(-5), n, dn, rc, oc, wd, sz, nm, hz, fun τ h hH hX hx5 hc => by
      obtain ⟨ad, hx⟩ := hx5
      obtain ⟨rp, hc⟩ := hc
      exact ((yp_x_no1 (d := 0) hH hX hc hp hq c1).deep (Nat.le_of_ble_eq_true rfl)).mono (fun r h2 hq => xE5x_of hH ⟨rfl, rfl⟩ (fun τ1 h1 hf a => ⟨xH5_F hH hf rfl ⟨ad, hx⟩, a⟩) hq), fun τ h hH hX hx hc => by
      exact ((yp_m_no1 (d := 0) hH hX hc hp hq c1).deep (Nat.le_of_ble_eq_true rfl)).mono (fun r h2 hq => xE5m_of hH ⟨rfl, rfl⟩ (fun τ1 h1 hf a => ⟨xHM_F hH hf rfl hx, a⟩) hq)⟩
  by_cases c2 : wd b.toInt.toNat = -1
  · have hp := (Decidable.not_not.mp c0).1
    have hq := (Decidable.not_not.mp c0).2
    have hla : a.toInt.toNat < 4 := by omega
    have hlb : b.toInt.toNat < 4 := by omega
    exact ⟨(-5), n, dn, rc, oc, wd, sz, nm, hz, fun τ h hH hX hx5 hc => by
      obtain ⟨ad, hx⟩ := hx5
      obtain ⟨rp, hc⟩ := hc
      exact ((yp_x_no2 (d := 0) hH hX hc hp hq c1 (xw0 (rg _ hla).1.1 c1) c2).deep (Nat.le_of_ble_eq_true rfl)).mono (fun r h2 hq => xE5x_of hH ⟨rfl, rfl⟩ (fun τ1 h1 hf a => ⟨xH5_F hH hf rfl ⟨ad, hx⟩, a⟩) hq), fun τ h hH hX hx hc => by
      exact ((yp_m_no2 (d := 0) hH hX hc hp hq c1 (xw0 (rg _ hla).1.1 c1) c2).deep (Nat.le_of_ble_eq_true rfl)).mono (fun r h2 hq => xE5m_of hH ⟨rfl, rfl⟩ (fun τ1 h1 hf a => ⟨xHM_F hH hf rfl hx, a⟩) hq)⟩
  by_cases c3 : ¬ wd a.toInt.toNat = wd b.toInt.toNat
  · have hp := (Decidable.not_not.mp c0).1
    have hq := (Decidable.not_not.mp c0).2
    have hla : a.toInt.toNat < 4 := by omega
    have hlb : b.toInt.toNat < 4 := by omega
    exact ⟨(-7), n, dn, rc, oc, wd, sz, nm, hz, fun τ h hH hX hx5 hc => by
      obtain ⟨ad, hx⟩ := hx5
      obtain ⟨rp, hc⟩ := hc
      exact ((yp_x_dif (d := 0) hH hX hc hp hq c1 c2 (xw0 (rg _ hla).1.1 c1) (xw0 (rg _ hlb).1.1 c2) c3).deep (Nat.le_of_ble_eq_true rfl)).mono (fun r h2 hq => xE5x_of hH ⟨rfl, rfl⟩ (fun τ1 h1 hf a => ⟨xH5_F hH hf rfl ⟨ad, hx⟩, a⟩) hq), fun τ h hH hX hx hc => by
      exact ((yp_m_dif (d := 0) hH hX hc hp hq c1 c2 (xw0 (rg _ hla).1.1 c1) (xw0 (rg _ hlb).1.1 c2) c3).deep (Nat.le_of_ble_eq_true rfl)).mono (fun r h2 hq => xE5m_of hH ⟨rfl, rfl⟩ (fun τ1 h1 hf a => ⟨xHM_F hH hf rfl hx, a⟩) hq)⟩
  by_cases c4 : ¬ ((0 ≤ u.toInt ∧ 0 ≤ c.toInt ∧ u.toInt + c.toInt ≤ (sz a.toInt.toNat).toInt) ∧ 0 ≤ v.toInt ∧ 0 ≤ c.toInt ∧ v.toInt + c.toInt ≤ (sz b.toInt.toNat).toInt)
  · have hp := (Decidable.not_not.mp c0).1
    have hq := (Decidable.not_not.mp c0).2
    have hla : a.toInt.toNat < 4 := by omega
    have hlb : b.toInt.toNat < 4 := by omega
    exact ⟨(-6), n, dn, rc, oc, wd, sz, nm, hz, fun τ h hH hX hx5 hc => by
      obtain ⟨ad, hx⟩ := hx5
      obtain ⟨rp, hc⟩ := hc
      exact ((yp_x_bey (d := 0) hH hX hc hp hq c1 c2 (xw0 (rg _ hla).1.1 c1) (xw0 (rg _ hlb).1.1 c2) (rg _ hla).2 (rg _ hlb).2 (Decidable.not_not.mp c3) c4).deep (Nat.le_of_ble_eq_true rfl)).mono (fun r h2 hq => xE5x_of hH ⟨rfl, rfl⟩ (fun τ1 h1 hf a => ⟨xH5_F hH hf rfl ⟨ad, hx⟩, a⟩) hq), fun τ h hH hX hx hc => by
      exact ((yp_m_bey (d := 0) hH hX hc hp hq c1 c2 (xw0 (rg _ hla).1.1 c1) (xw0 (rg _ hlb).1.1 c2) (rg _ hla).2 (rg _ hlb).2 (Decidable.not_not.mp c3) c4).deep (Nat.le_of_ble_eq_true rfl)).mono (fun r h2 hq => xE5m_of hH ⟨rfl, rfl⟩ (fun τ1 h1 hf a => ⟨xHM_F hH hf rfl hx, a⟩) hq)⟩
  have hp := (Decidable.not_not.mp c0).1
  have hq := (Decidable.not_not.mp c0).2
  have hla : a.toInt.toNat < 4 := by omega
  have hlb : b.toInt.toNat < 4 := by omega
  exact ⟨0, n, dn, rc, oc, wd, sz, xpst nm a.toInt.toNat u.toInt.toNat b.toInt.toNat v.toInt.toNat c.toInt.toNat, hz, fun τ h hH hX hx5 hc => by
      obtain ⟨ad, hx⟩ := hx5
      obtain ⟨rp, hc⟩ := hc
      exact ((yp_x_ok (d := 0) hH hX hc hp hq c1 c2 (xw0 (rg _ hla).1.1 c1) (xw0 (rg _ hlb).1.1 c2) (rg _ hla).2 (rg _ hlb).2 (Decidable.not_not.mp c3) (Decidable.not_not.mp c4).1 (Decidable.not_not.mp c4).2).deep (Nat.le_of_ble_eq_true rfl)).mono (fun r h2 hq => xE5x_of hH ⟨rfl, rfl⟩ (fun τ1 h1 hf a => ⟨xH5_F hH hf rfl ⟨ad, hx⟩, a⟩) hq), fun τ h hH hX hx hc => by
      exact ((yp_m_ok (d := 0) hH hX hc hp hq c1 c2 (xw0 (rg _ hla).1.1 c1) (xw0 (rg _ hlb).1.1 c2) (rg _ hla).2 (rg _ hlb).2 (Decidable.not_not.mp c3) (Decidable.not_not.mp c4).1 (Decidable.not_not.mp c4).2).deep (Nat.le_of_ble_eq_true rfl)).mono (fun r h2 hq => xE5m_of hH ⟨rfl, rfl⟩ (fun τ1 h1 hf a => ⟨xHM_F hH hf rfl hx, a⟩) hq)⟩
theorem xr_down (a : Int32) (rg : ∀ j, j < 4 → (-1 ≤ (wd j).toInt ∧ (wd j).toInt ≤ 3) ∧ 0 ≤ (sz j).toInt ∧ (sz j).toInt ≤ 60) (hn : n ≤ 16) (hz : ∀ i, n ≤ i → i < 16 → dn i = 0 ∧ rc i = 0 ∧ oc i = 0) (rr : ∀ i, i < n → (0 ≤ (rc i).toInt ∧ (rc i).toInt ≤ 6) ∧ 0 ≤ (oc i).toInt ∧ (oc i).toInt ≤ 10) : ∃ (x : Int32) (n2 : Nat) (dn2 rc2 oc2 : Nat → Int32) (wd2 sz2 : Nat → Int32) (nm2 : Nat → Nat → Int64), (∀ i, n2 ≤ i → i < 16 → dn2 i = 0 ∧ rc2 i = 0 ∧ oc2 i = 0) ∧ (∀ (τ : List Nat) (h : zm_H), xHI xKT xSG τ h → xX τ h → xH5 τ h n dn rc oc → xRX τ h wd sz nm → zm_Y og 3 30 0 [(0, .ref 0), (1, .int a)] [] h (xE5x τ h 0 (fun r => r = some (.int x)) (fun τ1 h1 => xH5 τ1 h1 n2 dn2 rc2 oc2 ∧ xRX τ1 h1 wd2 sz2 nm2))) ∧ ∀ (τ : List Nat) (h : zm_H), xHI xKT xSG τ h → xX τ h → xHM h n dn rc oc → xRM h wd sz nm → zm_Y og 3 198 0 [(0, .ref 55), (1, .int a)] [] h (xE5m τ h 0 (fun r => r = some (.int x)) (fun τ1 h1 => xHM h1 n2 dn2 rc2 oc2 ∧ xRM h1 wd2 sz2 nm2)) := by
  by_cases c0 : xupb n dn a
  · exact ⟨1, n, upd dn a.toInt.toNat 1, rc, oc, wd, sz, nm, (fun i h1 h2 => ⟨by have := c0.1; have := c0.2.1; rw [show upd dn a.toInt.toNat 1 i = dn i from if_neg (by omega)]; exact (hz i h1 h2).1, (hz i h1 h2).2⟩), fun τ h hH hX hx5 hc => by
      obtain ⟨ad, hx⟩ := hx5
      obtain ⟨rp, hc⟩ := hc
      obtain ⟨st, rf, nr, y, L, wk, hcx⟩ := xHX_full hH hx
      exact ((xd_x1 (d := 0) hH hX hcx c0).deep (Nat.le_of_ble_eq_true rfl)).mono (fun r h2 hq => xE5x_of hH ⟨rfl, rfl⟩ (fun τ1 h1 hf a => ⟨xH5_of hx hH hf rfl a, xRX_F hH hf rfl ⟨rp, hc⟩⟩) hq), fun τ h hH hX hx hc => by
      obtain ⟨st, rf, nr, y, L, wk, hcm⟩ := xHM_full hH hx
      exact ((xd_m1 (d := 0) hH hX hcm c0).deep (Nat.le_of_ble_eq_true rfl)).mono (fun r h2 hq => xE5m_of hH ⟨rfl, rfl⟩ (fun τ1 h1 hf q0 => ⟨xHM_of hx hH hf rfl q0 (fun i h1 h2 => by have := c0.1; have := c0.2.1; rw [show upd dn a.toInt.toNat 1 i = dn i from if_neg (by omega)]; exact (hz i h1 h2).1), xRM_F hH hf rfl hc⟩) hq)⟩
  exact ⟨0, n, dn, rc, oc, wd, sz, nm, hz, fun τ h hH hX hx5 hc => by
      obtain ⟨ad, hx⟩ := hx5
      obtain ⟨rp, hc⟩ := hc
      obtain ⟨st, rf, nr, y, L, wk, hcx⟩ := xHX_full hH hx
      exact ((xd_x0 (d := 0) hH hX hcx c0).deep (Nat.le_of_ble_eq_true rfl)).mono (fun r h2 hq => xE5x_of hH ⟨rfl, rfl⟩ (fun τ1 h1 hf a => ⟨xH5_of hx hH hf rfl a, xRX_F hH hf rfl ⟨rp, hc⟩⟩) hq), fun τ h hH hX hx hc => by
      obtain ⟨st, rf, nr, y, L, wk, hcm⟩ := xHM_full hH hx
      exact ((xd_m0 (d := 0) hH hX hcm c0).deep (Nat.le_of_ble_eq_true rfl)).mono (fun r h2 hq => xE5m_of hH ⟨rfl, rfl⟩ (fun τ1 h1 hf q0 => ⟨xHM_of hx hH hf rfl q0 (fun i h1 h2 => (hz i h1 h2).1), xRM_F hH hf rfl hc⟩) hq)⟩
theorem xr_house (a : Int32) (w : Int32) (f : Int32) (m : Int32) (rg : ∀ j, j < 4 → (-1 ≤ (wd j).toInt ∧ (wd j).toInt ≤ 3) ∧ 0 ≤ (sz j).toInt ∧ (sz j).toInt ≤ 60) (hn : n ≤ 16) (hz : ∀ i, n ≤ i → i < 16 → dn i = 0 ∧ rc i = 0 ∧ oc i = 0) (rr : ∀ i, i < n → (0 ≤ (rc i).toInt ∧ (rc i).toInt ≤ 6) ∧ 0 ≤ (oc i).toInt ∧ (oc i).toInt ≤ 10) : ∃ (x : Int32) (n2 : Nat) (dn2 rc2 oc2 : Nat → Int32) (wd2 sz2 : Nat → Int32) (nm2 : Nat → Nat → Int64), (∀ i, n2 ≤ i → i < 16 → dn2 i = 0 ∧ rc2 i = 0 ∧ oc2 i = 0) ∧ (∀ (τ : List Nat) (h : zm_H), xHI xKT xSG τ h → xX τ h → xH5 τ h n dn rc oc → xRX τ h wd sz nm → zm_Y og 20 12 0 [(0, .ref 0), (1, .int a), (2, .int w), (3, .int f), (4, .int m)] [] h (xE5x τ h 90 (fun r => r = some (.int x)) (fun τ1 h1 => xH5 τ1 h1 n2 dn2 rc2 oc2 ∧ xRX τ1 h1 wd2 sz2 nm2))) ∧ ∀ (τ : List Nat) (h : zm_H), xHI xKT xSG τ h → xX τ h → xHM h n dn rc oc → xRM h wd sz nm → zm_Y og 2 190 0 [(0, .ref 55), (1, .int a), (2, .int w), (3, .int f), (4, .int m)] [] h (xE5m τ h 0 (fun r => r = some (.int x)) (fun τ1 h1 => xHM h1 n2 dn2 rc2 oc2 ∧ xRM h1 wd2 sz2 nm2)) := by
  by_cases c0 : ¬ ((0 ≤ a.toInt ∧ a.toInt ≤ 3) ∧ (0 ≤ w.toInt ∧ w.toInt ≤ 10000) ∧ (1 ≤ f.toInt ∧ f.toInt ≤ 9) ∧ 1 ≤ m.toInt ∧ m.toInt ≤ 60)
  · exact ⟨(-2), n, dn, rc, oc, wd, sz, nm, hz, fun τ h hH hX hx5 hc => by
      obtain ⟨ad, hx⟩ := hx5
      obtain ⟨rp, hc⟩ := hc
      obtain ⟨st, rf, nr, y, L, wk, hcx⟩ := xHX_full hH hx
      exact ((xh_x_bad5 (d := 0) hH hX hcx c0).deep (Nat.le_of_ble_eq_true rfl)).mono (fun r h2 hq => xE5x_of hH ⟨rfl, rfl⟩ (fun τ1 h1 hf a => ⟨xH5_hs hx hH hf rfl a, xRX_F hH hf rfl ⟨rp, hc⟩⟩) hq), fun τ h hH hX hx hc => by
      obtain ⟨st, rf, nr, y, L, wk, hcm⟩ := xHM_full hH hx
      exact ((xh_m_bad (d := 0) hH hX hcm c0).deep (Nat.le_of_ble_eq_true rfl)).mono (fun r h2 hq => xE5m_of hH ⟨rfl, rfl⟩ (fun τ1 h1 hf q0 => ⟨xHM_of hx hH hf rfl q0 (fun i h1 h2 => (hz i h1 h2).1), xRM_F hH hf rfl hc⟩) hq)⟩
  by_cases c1 : n = 16
  · exact ⟨(-3), n, dn, rc, oc, wd, sz, nm, hz, fun τ h hH hX hx5 hc => by
      obtain ⟨ad, hx⟩ := hx5
      obtain ⟨rp, hc⟩ := hc
      obtain ⟨st, rf, nr, y, L, wk, hcx⟩ := xHX_full hH hx
      exact ((xh_x_full5 (d := 0) hH hX hcx (Decidable.not_not.mp c0) c1).deep (Nat.le_of_ble_eq_true rfl)).mono (fun r h2 hq => xE5x_of hH ⟨rfl, rfl⟩ (fun τ1 h1 hf a => ⟨xH5_hs hx hH hf rfl a, xRX_F hH hf rfl ⟨rp, hc⟩⟩) hq), fun τ h hH hX hx hc => by
      obtain ⟨st, rf, nr, y, L, wk, hcm⟩ := xHM_full hH hx
      exact ((xh_m_full (d := 0) hH hX hcm (Decidable.not_not.mp c0) c1).deep (Nat.le_of_ble_eq_true rfl)).mono (fun r h2 hq => xE5m_of hH ⟨rfl, rfl⟩ (fun τ1 h1 hf q0 => ⟨xHM_of hx hH hf rfl q0 (fun i h1 h2 => (hz i h1 h2).1), xRM_F hH hf rfl hc⟩) hq)⟩
  exact ⟨(Int32.ofNat n), (n + 1), upd dn n 0, rc, oc, wd, sz, nm, (fun i h1 h2 => ⟨by rw [show upd dn n 0 i = dn i from if_neg (by omega)]; exact (hz i (by omega) h2).1, (hz i (by omega) h2).2⟩), fun τ h hH hX hx5 hc => by
      obtain ⟨ad, hx⟩ := hx5
      obtain ⟨rp, hc⟩ := hc
      obtain ⟨st, rf, nr, y, L, wk, hcx⟩ := xHX_full hH hx
      exact ((xh_x_ok5 (d := 0) hH hX hcx (Decidable.not_not.mp c0) (by omega)).deep (Nat.le_of_ble_eq_true rfl)).mono (fun r h2 hq => xE5x_of hH ⟨rfl, rfl⟩ (fun τ1 h1 hf a => ⟨xH5_new hx hH hf rfl (hz n (Nat.le_refl _) (by omega)).2 a, xRX_F hH hf rfl ⟨rp, hc⟩⟩) hq), fun τ h hH hX hx hc => by
      obtain ⟨st, rf, nr, y, L, wk, hcm⟩ := xHM_full hH hx
      exact ((xh_m_ok (d := 0) hH hX hcm (Decidable.not_not.mp c0) (by omega)).deep (Nat.le_of_ble_eq_true rfl)).mono (fun r h2 hq => xE5m_of hH ⟨rfl, rfl⟩ (fun τ1 h1 hf q0 => ⟨xHM_of hx hH hf rfl q0 (fun i h1 h2 => by rw [show upd dn n 0 i = dn i from if_neg (by omega)]; exact (hz i (by omega) h2).1), xRM_F hH hf rfl hc⟩) hq)⟩
theorem xr_room (a : Int32) (b : Int32) (f : Int32) (p : Int32) (rg : ∀ j, j < 4 → (-1 ≤ (wd j).toInt ∧ (wd j).toInt ≤ 3) ∧ 0 ≤ (sz j).toInt ∧ (sz j).toInt ≤ 60) (hn : n ≤ 16) (hz : ∀ i, n ≤ i → i < 16 → dn i = 0 ∧ rc i = 0 ∧ oc i = 0) (rr : ∀ i, i < n → (0 ≤ (rc i).toInt ∧ (rc i).toInt ≤ 6) ∧ 0 ≤ (oc i).toInt ∧ (oc i).toInt ≤ 10) : ∃ (x : Int32) (n2 : Nat) (dn2 rc2 oc2 : Nat → Int32) (wd2 sz2 : Nat → Int32) (nm2 : Nat → Nat → Int64), (∀ i, n2 ≤ i → i < 16 → dn2 i = 0 ∧ rc2 i = 0 ∧ oc2 i = 0) ∧ (∀ (τ : List Nat) (h : zm_H), xHI xKT xSG τ h → xX τ h → xH5 τ h n dn rc oc → xRX τ h wd sz nm → zm_Y og 3 16 0 [(0, .ref 0), (1, .int a), (2, .int b), (3, .int f), (4, .int p)] [] h (xE5x τ h 300 (fun r => r = some (.int x)) (fun τ1 h1 => xH5 τ1 h1 n2 dn2 rc2 oc2 ∧ xRX τ1 h1 wd2 sz2 nm2))) ∧ ∀ (τ : List Nat) (h : zm_H), xHI xKT xSG τ h → xX τ h → xHM h n dn rc oc → xRM h wd sz nm → zm_Y og 3 191 0 [(0, .ref 55), (1, .int a), (2, .int b), (3, .int f), (4, .int p)] [] h (xE5m τ h 0 (fun r => r = some (.int x)) (fun τ1 h1 => xHM h1 n2 dn2 rc2 oc2 ∧ xRM h1 wd2 sz2 nm2)) := by
  by_cases c0 : ¬ (xupb n dn a ∧ (0 ≤ b.toInt ∧ b.toInt ≤ 3) ∧ (0 ≤ f.toInt ∧ f.toInt ≤ 5) ∧ 0 ≤ p.toInt ∧ p.toInt ≤ 3)
  · exact ⟨(-2), n, dn, rc, oc, wd, sz, nm, hz, fun τ h hH hX hx5 hc => by
      obtain ⟨ad, hx⟩ := hx5
      obtain ⟨rp, hc⟩ := hc
      exact ((yo_x_bad (d := 0) (m := 0) hH hX hx hc c0).deep (Nat.le_of_ble_eq_true rfl)).mono (fun r h2 hq => xE5x_of hH ⟨rfl, rfl⟩ (fun _ _ _ a => a) hq), fun τ h hH hX hx hc => by
      exact ((yo_m_bad (d := 0) (m := 0) hH hX hx hc c0).deep (Nat.le_of_ble_eq_true rfl)).mono (fun r h2 hq => xE5m_of hH ⟨rfl, rfl⟩ (fun _ _ _ a => a) hq)⟩
  by_cases c1 : wd p.toInt.toNat = -1
  · have ok := Decidable.not_not.mp c0
    exact ⟨(-5), n, dn, rc, oc, wd, sz, nm, hz, fun τ h hH hX hx5 hc => by
      obtain ⟨ad, hx⟩ := hx5
      obtain ⟨rp, hc⟩ := hc
      exact ((yo_x_no (d := 0) (m := 0) hH hX hx hc ok c1).deep (Nat.le_of_ble_eq_true rfl)).mono (fun r h2 hq => xE5x_of hH ⟨rfl, rfl⟩ (fun _ _ _ a => a) hq), fun τ h hH hX hx hc => by
      exact ((yo_m_no (d := 0) (m := 0) hH hX hx hc ok c1).deep (Nat.le_of_ble_eq_true rfl)).mono (fun r h2 hq => xE5m_of hH ⟨rfl, rfl⟩ (fun _ _ _ a => a) hq)⟩
  by_cases c2 : ¬ xallO nm p.toInt.toNat (sz p.toInt.toNat).toInt.toNat
  · have ok := Decidable.not_not.mp c0
    have hlp : p.toInt.toNat < 4 := by (have := ok.2.2.2; omega)
    have hm := xnat (sz p.toInt.toNat) (rg _ hlp).2.1
    have hm60 : (sz p.toInt.toNat).toInt.toNat ≤ 60 := by (have z := (rg _ hlp).2.2; omega)
    exact ⟨(-4), n, dn, rc, oc, wd, sz, nm, hz, fun τ h hH hX hx5 hc => by
      obtain ⟨ad, hx⟩ := hx5
      obtain ⟨rp, hc⟩ := hc
      exact ((yo_x_flt (d := 0) hH hX hx hc ok c1 (xw0 (rg _ hlp).1.1 c1) hm hm60 c2).deep (Nat.le_of_ble_eq_true rfl)).mono (fun r h2 hq => xE5x_of hH ⟨rfl, rfl⟩ (fun _ _ _ a => a) hq), fun τ h hH hX hx hc => by
      exact ((yo_m_flt (d := 0) hH hX hx hc ok c1 (xw0 (rg _ hlp).1.1 c1) hm hm60 c2).deep (Nat.le_of_ble_eq_true rfl)).mono (fun r h2 hq => xE5m_of hH ⟨rfl, rfl⟩ (fun _ _ _ a => a) hq)⟩
  by_cases c3 : ¬ ((rc a.toInt.toNat).toInt ≤ 5 ∧ (oc a.toInt.toNat).toInt + ((sz p.toInt.toNat).toInt.toNat : Int) ≤ 10)
  · have ok := Decidable.not_not.mp c0
    have hlp : p.toInt.toNat < 4 := by (have := ok.2.2.2; omega)
    have hla : a.toInt.toNat < n := by (have := ok.1.1; have := ok.1.2.1; omega)
    have hm := xnat (sz p.toInt.toNat) (rg _ hlp).2.1
    have hm60 : (sz p.toInt.toNat).toInt.toNat ≤ 60 := by (have z := (rg _ hlp).2.2; omega)
    exact ⟨(-3), n, dn, rc, oc, wd, sz, nm, hz, fun τ h hH hX hx5 hc => by
      obtain ⟨ad, hx⟩ := hx5
      obtain ⟨rp, hc⟩ := hc
      exact ((yo_x_full (d := 0) hH hX hx hc ok c1 (xw0 (rg _ hlp).1.1 c1) hm hm60 (Classical.not_not.mp c2) c3).deep (Nat.le_of_ble_eq_true rfl)).mono (fun r h2 hq => xE5x_of hH ⟨rfl, rfl⟩ (fun _ _ _ a => a) hq), fun τ h hH hX hx hc => by
      exact ((yo_m_full (d := 0) hH hX hx hc (rr _ hla) ok c1 (xw0 (rg _ hlp).1.1 c1) hm hm60 (Classical.not_not.mp c2) c3).deep (Nat.le_of_ble_eq_true rfl)).mono (fun r h2 hq => xE5m_of hH ⟨rfl, rfl⟩ (fun _ _ _ a => a) hq)⟩
  have ok := Decidable.not_not.mp c0
  have hlp : p.toInt.toNat < 4 := by (have := ok.2.2.2; omega)
  have hla : a.toInt.toNat < n := by (have := ok.1.1; have := ok.1.2.1; omega)
  have hm := xnat (sz p.toInt.toNat) (rg _ hlp).2.1
  have hm60 : (sz p.toInt.toNat).toInt.toNat ≤ 60 := by (have z := (rg _ hlp).2.2; omega)
  exact ⟨rc a.toInt.toNat, n, dn, (upd rc a.toInt.toNat (rc a.toInt.toNat + 1)), (upd oc a.toInt.toNat (oc a.toInt.toNat + Int32.ofNat (sz p.toInt.toNat).toInt.toNat)), wd, sz, nm, (fun i h1 h2 => ⟨(hz i h1 h2).1, by rw [show upd rc a.toInt.toNat (rc a.toInt.toNat + 1) i = rc i from if_neg (by omega)]; exact (hz i h1 h2).2.1, by rw [show upd oc a.toInt.toNat (oc a.toInt.toNat + Int32.ofNat (sz p.toInt.toNat).toInt.toNat) i = oc i from if_neg (by omega)]; exact (hz i h1 h2).2.2⟩), fun τ h hH hX hx5 hc => by
      obtain ⟨ad, hx⟩ := hx5
      obtain ⟨rp, hc⟩ := hc
      exact ((yo_x_ok (d := 0) hH hX hx hc ok c1 (xw0 (rg _ hlp).1.1 c1) hm hm60 (Classical.not_not.mp c2) (Classical.not_not.mp c3)).deep (Nat.le_of_ble_eq_true rfl)).mono (fun r h2 hq => xE5x_of hH ⟨rfl, rfl⟩ (fun _ _ _ a => a) hq), fun τ h hH hX hx hc => by
      exact ((yo_m_ok (d := 0) hH hX hx hc (rr _ hla) ok c1 (xw0 (rg _ hlp).1.1 c1) hm hm60 (Classical.not_not.mp c2) (Classical.not_not.mp c3)).deep (Nat.le_of_ble_eq_true rfl)).mono (fun r h2 hq => xE5m_of hH ⟨rfl, rfl⟩ (fun _ _ _ a => a) hq)⟩
end XR5
