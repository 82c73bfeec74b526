/-! PLACES and PAIRS: piece 16 (made by a program) -/
section XR2
set_option maxRecDepth 100000
variable {og : Nat → Option zm_C} {τ τ' : List Nat} {h h' : zm_H} {ms : List (Nat × Nat)} {rp : Nat → Nat} {wd sz : Nat → Int32} {nm : Nat → Nat → Int64}
def xD3x (τ : List Nat) (h : zm_H) (g : Nat) (A : Option Value → Prop) (R : List Nat → zm_H → Prop) (r : Option Value) (h' : zm_H) : Prop := A r ∧ ∃ τ', xHI xKT xSG τ' h' ∧ xX τ' h' ∧ xW h' ≤ xW h + g ∧ R τ' h' ∧ (∀ wd sz nm, xRM h wd sz nm → xRM h' wd sz nm) ∧ ∀ pl pr, xPRM h pl pr → xPRM h' pl pr
def xD3m (τ : List Nat) (h : zm_H) (g : Nat) (A : Option Value → Prop) (R : List Nat → zm_H → Prop) (r : Option Value) (h' : zm_H) : Prop := A r ∧ ∃ τ', xHI xKT xSG τ' h' ∧ xX τ' h' ∧ xW h' ≤ xW h + g ∧ R τ' h' ∧ (∀ wd sz nm, xRX τ h wd sz nm → xRX τ' h' wd sz nm) ∧ ∀ pl pr, xPRX h pl pr → xPRX h' pl pr
theorem xD3x_of {g : Nat} {A : Option Value → Prop} {pl : Int32} {pr : Nat → Int32} {r : Option Value} (hH : xHI xKT xSG τ h) (hP : xPRX h pl pr) (hk : ([(56, 0), (57, 0), (58, 0)] : List (Nat × Nat)).all (fun p => !xms ms p.1 p.2) = true ∧ ([(45, 4), (53, 0)] : List (Nat × Nat)).all (fun p => !xms ms p.1 p.2) = true ∧ ([(55, 108), (116, 0)] : List (Nat × Nat)).all (fun p => !xms ms p.1 p.2) = true) (hq : xCO τ h g ms A (fun τ1 h1 => xRX τ1 h1 wd sz nm) r h') : xD3x τ h g A (fun τ1 h1 => xRX τ1 h1 wd sz nm ∧ xPRX h1 pl pr) r h' := by
  obtain ⟨p, τ1, a1, a2, a3, a4, a5⟩ := hq
  exact ⟨p, τ1, a1, a2, a3, ⟨a5, xPRX_F hH a4 hk.2.1 hP⟩, fun _ _ _ hc => xRM_F hH a4 hk.1 hc, fun _ _ hc => xPRM_F hH a4 hk.2.2 hc⟩
theorem xD3m_of {g : Nat} {A : Option Value → Prop} {pl : Int32} {pr : Nat → Int32} {r : Option Value} (hH : xHI xKT xSG τ h) (hP : xPRM h pl pr) (hk : ([(51, 0), (52, 0), (46, 0), (211, 0)] : List (Nat × Nat)).all (fun p => !xms ms p.1 p.2) = true ∧ ([(45, 4), (53, 0)] : List (Nat × Nat)).all (fun p => !xms ms p.1 p.2) = true ∧ ([(55, 108), (116, 0)] : List (Nat × Nat)).all (fun p => !xms ms p.1 p.2) = true) (hq : xCO τ h g ms A (fun τ1 h1 => xRM h1 wd sz nm) r h') : xD3m τ h g A (fun τ1 h1 => xRM h1 wd sz nm ∧ xPRM h1 pl pr) r h' := by
  obtain ⟨p, τ1, a1, a2, a3, a4, a5⟩ := hq
  exact ⟨p, τ1, a1, a2, a3, ⟨a5, xPRM_F hH a4 hk.2.2 hP⟩, fun _ _ _ hc => xRX_F hH a4 hk.1 hc, fun _ _ hc => xPRX_F hH a4 hk.2.1 hc⟩
theorem xoi {V : Int} {v : Int32} (e : v.toInt = V) : v = Int32.ofInt V := by
  rw [← e, Int32.ofInt_toInt]
theorem xD3x_mt {g : Nat} {V : Int} {pl : Int32} {pr : Nat → Int32} {r : Option Value} (hl : pl.toInt ≤ 60) (hH : xHI xKT xSG τ h) (hk : ([(56, 0), (57, 0), (58, 0)] : List (Nat × Nat)).all (fun p => !xms ms p.1 p.2) = true ∧ ([(55, 108), (116, 0)] : List (Nat × Nat)).all (fun p => !xms ms p.1 p.2) = true) (hq : xCO τ h g ms (fun r => ∃ v : Int32, r = some (.int v) ∧ v.toInt = V) (fun τ1 h1 => xRX τ1 h1 wd sz nm ∧ xfd h1 45 4 = some (.int pl) ∧ ∀ q, q < 60 → xar h1 53 q = some (.int (pr q))) r h') : xD3x τ h g (fun r => r = some (.int (Int32.ofInt V))) (fun τ1 h1 => xRX τ1 h1 wd sz nm ∧ xPRX h1 pl pr) r h' := by
  obtain ⟨⟨v, rfl, ev⟩, τ1, a1, a2, a3, a4, a5, a6, a7⟩ := hq
  exact ⟨by rw [xoi ev], τ1, a1, a2, a3, ⟨a5, a6, fun q hq => a7 q (by omega)⟩, fun _ _ _ hc => xRM_F hH a4 hk.1 hc, fun _ _ hc => xPRM_F hH a4 hk.2 hc⟩
theorem xD3m_mt {g n : Nat} {V : Int} {pl : Int32} {pr : Nat → Int32} {r : Option Value} (hl : pl.toInt = (n : Int)) (hH : xHI xKT xSG τ h) (hk : ([(51, 0), (52, 0), (46, 0), (211, 0)] : List (Nat × Nat)).all (fun p => !xms ms p.1 p.2) = true ∧ ([(45, 4), (53, 0)] : List (Nat × Nat)).all (fun p => !xms ms p.1 p.2) = true) (hq : xCO τ h g ms (fun r => ∃ v : Int32, r = some (.int v) ∧ v.toInt = V) (fun τ1 h1 => xRM h1 wd sz nm ∧ xfd h1 55 108 = some (.int pl) ∧ ∀ q, q < n → xar h1 116 q = some (.int (pr q))) r h') : xD3m τ h g (fun r => r = some (.int (Int32.ofInt V))) (fun τ1 h1 => xRM h1 wd sz nm ∧ xPRM h1 pl pr) r h' := by
  obtain ⟨⟨v, rfl, ev⟩, τ1, a1, a2, a3, a4, a5, a6, a7⟩ := hq
  exact ⟨by rw [xoi ev], τ1, a1, a2, a3, ⟨a5, a6, fun q hq => a7 q (by omega)⟩, fun _ _ _ hc => xRX_F hH a4 hk.1 hc, fun _ _ hc => xPRX_F hH a4 hk.2 hc⟩
theorem xw0 {w : Int32} (h1 : -1 ≤ w.toInt) (h2 : ¬ w = -1) : 0 ≤ w.toInt := by
  have h3 : ¬ w.toInt = -1 := fun z => h2 (Int32.toInt_inj.mp z)
  omega
theorem xr_tear {pl : Int32} {pr : Nat → Int32} (a : Int32) (rg : ∀ j, j < 4 → (-1 ≤ (wd j).toInt ∧ (wd j).toInt ≤ 3) ∧ 0 ≤ (sz j).toInt ∧ (sz j).toInt ≤ 60) (rl : 0 ≤ pl.toInt ∧ pl.toInt ≤ 60) : ∃ (x : Int32) (wd2 sz2 : Nat → Int32) (nm2 : Nat → Nat → Int64) (pl2 : Int32) (pr2 : Nat → Int32), (0 ≤ pl2.toInt ∧ pl2.toInt ≤ 60) ∧ (∀ (τ : List Nat) (h : zm_H), xHI xKT xSG τ h → xX τ h → xRX τ h wd sz nm → xPRX h pl pr → zm_Y og 2 175 0 [(0, .ref 0), (1, .int a)] [] h (xD3x τ h 0 (fun r => r = some (.int x)) (fun τ1 h1 => xRX τ1 h1 wd2 sz2 nm2 ∧ xPRX h1 pl2 pr2))) ∧ ∀ (τ : List Nat) (h : zm_H), xHI xKT xSG τ h → xX τ h → xRM h wd sz nm → xPRM h pl pr → zm_Y og 2 184 0 [(0, .ref 55), (1, .int a)] [] h (xD3m τ h 0 (fun r => r = some (.int x)) (fun τ1 h1 => xRM h1 wd2 sz2 nm2 ∧ xPRM h1 pl2 pr2)) := by
  by_cases c0 : ¬ (0 ≤ a.toInt ∧ a.toInt ≤ 3)
  · exact ⟨0, wd, sz, nm, pl, pr, rl, fun τ h hH hX hc hP => by
      obtain ⟨rp, hc⟩ := hc
      exact ((yt_x_bad (d := 0) hH hX hc c0).deep (Nat.le_of_ble_eq_true rfl)).mono (fun r h2 hq => xD3x_of hH hP ⟨rfl, rfl, rfl⟩ hq), fun τ h hH hX hc hP => ((yt_m_bad (d := 0) hH hX hc c0).deep (Nat.le_of_ble_eq_true rfl)).mono (fun r h2 hq => xD3m_of hH hP ⟨rfl, rfl, rfl⟩ hq)⟩
  by_cases c1 : wd a.toInt.toNat = -1
  · exact ⟨0, wd, sz, nm, pl, pr, rl, fun τ h hH hX hc hP => by
      obtain ⟨rp, hc⟩ := hc
      exact ((yt_x_no (d := 0) hH hX hc (Decidable.not_not.mp c0) c1).deep (Nat.le_of_ble_eq_true rfl)).mono (fun r h2 hq => xD3x_of hH hP ⟨rfl, rfl, rfl⟩ hq), fun τ h hH hX hc hP => ((yt_m_no (d := 0) hH hX hc (Decidable.not_not.mp c0) c1).deep (Nat.le_of_ble_eq_true rfl)).mono (fun r h2 hq => xD3m_of hH hP ⟨rfl, rfl, rfl⟩ hq)⟩
  have hla : a.toInt.toNat < 4 := by omega
  exact ⟨1, upd wd a.toInt.toNat (-1), sz, nm, pl, pr, rl, fun τ h hH hX hc hP => by
      obtain ⟨rp, hc⟩ := hc
      exact ((yt_x_ok (d := 0) hH hX hc (Decidable.not_not.mp c0) c1 ⟨xw0 (rg _ hla).1.1 c1, (rg _ hla).1.2⟩).deep (Nat.le_of_ble_eq_true rfl)).mono (fun r h2 hq => xD3x_of hH hP ⟨rfl, rfl, rfl⟩ hq), fun τ h hH hX hc hP => ((yt_m_ok (d := 0) hH hX hc (Decidable.not_not.mp c0) c1 ⟨xw0 (rg _ hla).1.1 c1, (rg _ hla).1.2⟩).deep (Nat.le_of_ble_eq_true rfl)).mono (fun r h2 hq => xD3m_of hH hP ⟨rfl, rfl, rfl⟩ hq)⟩
theorem xr_row {pl : Int32} {pr : Nat → Int32} (a : Int32) (b : Int32) (c : Int32) (rg : ∀ j, j < 4 → (-1 ≤ (wd j).toInt ∧ (wd j).toInt ≤ 3) ∧ 0 ≤ (sz j).toInt ∧ (sz j).toInt ≤ 60) (rl : 0 ≤ pl.toInt ∧ pl.toInt ≤ 60) : ∃ (x : Int32) (wd2 sz2 : Nat → Int32) (nm2 : Nat → Nat → Int64) (pl2 : Int32) (pr2 : Nat → Int32), (0 ≤ pl2.toInt ∧ pl2.toInt ≤ 60) ∧ (∀ (τ : List Nat) (h : zm_H), xHI xKT xSG τ h → xX τ h → xRX τ h wd sz nm → xPRX h pl pr → zm_Y og 3 173 0 [(0, .ref 0), (1, .int a), (2, .int b), (3, .int c)] [] h (xD3x τ h 0 (fun r => r = some (.int x)) (fun τ1 h1 => xRX τ1 h1 wd2 sz2 nm2 ∧ xPRX h1 pl2 pr2))) ∧ ∀ (τ : List Nat) (h : zm_H), xHI xKT xSG τ h → xX τ h → xRM h wd sz nm → xPRM h pl pr → zm_Y og 3 181 0 [(0, .ref 55), (1, .int a), (2, .int b), (3, .int c)] [] h (xD3m τ h 0 (fun r => r = some (.int x)) (fun τ1 h1 => xRM h1 wd2 sz2 nm2 ∧ xPRM h1 pl2 pr2)) := by
  by_cases c0 : ¬ ((0 ≤ a.toInt ∧ a.toInt ≤ 3) ∧ (0 ≤ b.toInt ∧ b.toInt ≤ 3) ∧ c.toInt ≤ 60)
  · exact ⟨(-2), wd, sz, nm, pl, pr, rl, fun τ h hH hX hc hP => by
      obtain ⟨rp, hc⟩ := hc
      exact ((yr_x_bad (d := 0) hH hX hc c0).deep (Nat.le_of_ble_eq_true rfl)).mono (fun r h2 hq => xD3x_of hH hP ⟨rfl, rfl, rfl⟩ hq), fun τ h hH hX hc hP => ((yr_m_bad (d := 0) hH hX hc c0).deep (Nat.le_of_ble_eq_true rfl)).mono (fun r h2 hq => xD3m_of hH hP ⟨rfl, rfl, rfl⟩ hq)⟩
  by_cases c1 : c.toInt < 0
  · exact ⟨(-3), wd, sz, nm, pl, pr, rl, fun τ h hH hX hc hP => by
      obtain ⟨rp, hc⟩ := hc
      exact ((yr_x_neg (d := 0) hH hX hc (Decidable.not_not.mp c0) c1).deep (Nat.le_of_ble_eq_true rfl)).mono (fun r h2 hq => xD3x_of hH hP ⟨rfl, rfl, rfl⟩ hq), fun τ h hH hX hc hP => ((yr_m_neg (d := 0) hH hX hc (Decidable.not_not.mp c0) c1).deep (Nat.le_of_ble_eq_true rfl)).mono (fun r h2 hq => xD3m_of hH hP ⟨rfl, rfl, rfl⟩ hq)⟩
  exact ⟨0, upd wd a.toInt.toNat b, upd sz a.toInt.toNat c, xnz nm a.toInt.toNat 0 60, pl, pr, rl, fun τ h hH hX hc hP => by
      obtain ⟨rp, hc⟩ := hc
      exact ((yr_x_ok (d := 0) hH hX hc (Decidable.not_not.mp c0) (by omega)).deep (Nat.le_of_ble_eq_true rfl)).mono (fun r h2 hq => xD3x_of hH hP ⟨rfl, rfl, rfl⟩ hq), fun τ h hH hX hc hP => ((yr_m_ok (d := 0) hH hX hc (Decidable.not_not.mp c0) (by omega)).deep (Nat.le_of_ble_eq_true rfl)).mono (fun r h2 hq => xD3m_of hH hP ⟨rfl, rfl, rfl⟩ hq)⟩
theorem xr_write {pl : Int32} {pr : Nat → Int32} (a : Int32) (b : Int32) (v : Int64) (rg : ∀ j, j < 4 → (-1 ≤ (wd j).toInt ∧ (wd j).toInt ≤ 3) ∧ 0 ≤ (sz j).toInt ∧ (sz j).toInt ≤ 60) (rl : 0 ≤ pl.toInt ∧ pl.toInt ≤ 60) : ∃ (x : Int32) (wd2 sz2 : Nat → Int32) (nm2 : Nat → Nat → Int64) (pl2 : Int32) (pr2 : Nat → Int32), (0 ≤ pl2.toInt ∧ pl2.toInt ≤ 60) ∧ (∀ (τ : List Nat) (h : zm_H), xHI xKT xSG τ h → xX τ h → xRX τ h wd sz nm → xPRX h pl pr → zm_Y og 2 176 0 [(0, .ref 0), (1, .int a), (2, .int b), (3, .long v)] [] h (xD3x τ h 0 (fun r => r = some (.int x)) (fun τ1 h1 => xRX τ1 h1 wd2 sz2 nm2 ∧ xPRX h1 pl2 pr2))) ∧ ∀ (τ : List Nat) (h : zm_H), xHI xKT xSG τ h → xX τ h → xRM h wd sz nm → xPRM h pl pr → zm_Y og 2 185 0 [(0, .ref 55), (1, .int a), (2, .int b), (3, .long v)] [] h (xD3m τ h 0 (fun r => r = some (.int x)) (fun τ1 h1 => xRM h1 wd2 sz2 nm2 ∧ xPRM h1 pl2 pr2)) := by
  by_cases c0 : ¬ (0 ≤ a.toInt ∧ a.toInt ≤ 3)
  · exact ⟨(-2), wd, sz, nm, pl, pr, rl, fun τ h hH hX hc hP => by
      obtain ⟨rp, hc⟩ := hc
      exact ((yw_x_bad (d := 0) hH hX hc c0).deep (Nat.le_of_ble_eq_true rfl)).mono (fun r h2 hq => xD3x_of hH hP ⟨rfl, rfl, rfl⟩ hq), fun τ h hH hX hc hP => ((yw_m_bad (d := 0) hH hX hc c0).deep (Nat.le_of_ble_eq_true rfl)).mono (fun r h2 hq => xD3m_of hH hP ⟨rfl, rfl, rfl⟩ hq)⟩
  by_cases c1 : wd a.toInt.toNat = -1
  · exact ⟨(-5), wd, sz, nm, pl, pr, rl, fun τ h hH hX hc hP => by
      obtain ⟨rp, hc⟩ := hc
      exact ((yw_x_no (d := 0) hH hX hc (Decidable.not_not.mp c0) c1).deep (Nat.le_of_ble_eq_true rfl)).mono (fun r h2 hq => xD3x_of hH hP ⟨rfl, rfl, rfl⟩ hq), fun τ h hH hX hc hP => ((yw_m_no (d := 0) hH hX hc (Decidable.not_not.mp c0) c1).deep (Nat.le_of_ble_eq_true rfl)).mono (fun r h2 hq => xD3m_of hH hP ⟨rfl, rfl, rfl⟩ hq)⟩
  by_cases c2 : ¬ (0 ≤ b.toInt ∧ b.toInt < (sz a.toInt.toNat).toInt)
  · have hla : a.toInt.toNat < 4 := by omega
    exact ⟨(-6), wd, sz, nm, pl, pr, rl, fun τ h hH hX hc hP => by
      obtain ⟨rp, hc⟩ := hc
      exact ((yw_x_bey (d := 0) hH hX hc (Decidable.not_not.mp c0) c1 ⟨xw0 (rg _ hla).1.1 c1, (rg _ hla).1.2⟩ (rg _ hla).2.1 (rg _ hla).2.2 c2).deep (Nat.le_of_ble_eq_true rfl)).mono (fun r h2 hq => xD3x_of hH hP ⟨rfl, rfl, rfl⟩ hq), fun τ h hH hX hc hP => ((yw_m_bey (d := 0) hH hX hc (Decidable.not_not.mp c0) c1 ⟨xw0 (rg _ hla).1.1 c1, (rg _ hla).1.2⟩ (rg _ hla).2.1 (rg _ hla).2.2 c2).deep (Nat.le_of_ble_eq_true rfl)).mono (fun r h2 hq => xD3m_of hH hP ⟨rfl, rfl, rfl⟩ hq)⟩
  have hla : a.toInt.toNat < 4 := by omega
  exact ⟨0, wd, sz, updN nm a.toInt.toNat b.toInt.toNat (xcut (wd a.toInt.toNat) v), pl, pr, rl, fun τ h hH hX hc hP => by
      obtain ⟨rp, hc⟩ := hc
      exact ((yw_x_ok (d := 0) hH hX hc (Decidable.not_not.mp c0) c1 ⟨xw0 (rg _ hla).1.1 c1, (rg _ hla).1.2⟩ (rg _ hla).2.1 (rg _ hla).2.2 (Decidable.not_not.mp c2)).deep (Nat.le_of_ble_eq_true rfl)).mono (fun r h2 hq => xD3x_of hH hP ⟨rfl, rfl, rfl⟩ hq), fun τ h hH hX hc hP => ((yw_m_ok (d := 0) hH hX hc (Decidable.not_not.mp c0) c1 ⟨xw0 (rg _ hla).1.1 c1, (rg _ hla).1.2⟩ (rg _ hla).2.1 (rg _ hla).2.2 (Decidable.not_not.mp c2)).deep (Nat.le_of_ble_eq_true rfl)).mono (fun r h2 hq => xD3m_of hH hP ⟨rfl, rfl, rfl⟩ hq)⟩
theorem xr_paste {pl : Int32} {pr : Nat → Int32} (a : Int32) (u : Int32) (b : Int32) (v : Int32) (c : Int32) (rg : ∀ j, j < 4 → (-1 ≤ (wd j).toInt ∧ (wd j).toInt ≤ 3) ∧ 0 ≤ (sz j).toInt ∧ (sz j).toInt ≤ 60) (rl : 0 ≤ pl.toInt ∧ pl.toInt ≤ 60) : ∃ (x : Int32) (wd2 sz2 : Nat → Int32) (nm2 : Nat → Nat → Int64) (pl2 : Int32) (pr2 : Nat → Int32), (0 ≤ pl2.toInt ∧ pl2.toInt ≤ 60) ∧ (∀ (τ : List Nat) (h : zm_H), xHI xKT xSG τ h → xX τ h → xRX τ h wd sz nm → xPRX h pl pr → zm_Y og 2 178 0 [(0, .ref 0), (1, .int a), (2, .int u), (3, .int b), (4, .int v), (5, .int c)] [] h (xD3x τ h 0 (fun r => r = some (.int x)) (fun τ1 h1 => xRX τ1 h1 wd2 sz2 nm2 ∧ xPRX h1 pl2 pr2))) ∧ ∀ (τ : List Nat) (h : zm_H), xHI xKT xSG τ h → xX τ h → xRM h wd sz nm → xPRM h pl pr → zm_Y og 2 187 0 [(0, .ref 55), (1, .int a), (2, .int u), (3, .int b), (4, .int v), (5, .int c)] [] h (xD3m τ h 0 (fun r => r = some (.int x)) (fun τ1 h1 => xRM h1 wd2 sz2 nm2 ∧ xPRM h1 pl2 pr2)) := by
  by_cases c0 : ¬ ((0 ≤ a.toInt ∧ a.toInt ≤ 3) ∧ 0 ≤ b.toInt ∧ b.toInt ≤ 3)
  · exact ⟨(-2), wd, sz, nm, pl, pr, rl, fun τ h hH hX hc hP => by
      obtain ⟨rp, hc⟩ := hc
      exact ((yp_x_bad (d := 0) hH hX hc c0).deep (Nat.le_of_ble_eq_true rfl)).mono (fun r h2 hq => xD3x_of hH hP ⟨rfl, rfl, rfl⟩ hq), fun τ h hH hX hc hP => ((yp_m_bad (d := 0) hH hX hc c0).deep (Nat.le_of_ble_eq_true rfl)).mono (fun r h2 hq => xD3m_of hH hP ⟨rfl, rfl, rfl⟩ hq)⟩
  by_cases c1 : wd a.toInt.toNat = -1
  · have hp := (Decidable.not_not.mp c0).1
    have hq := (Decidable.not_not.mp c0).2
    exact ⟨(-5), wd, sz, nm, pl, pr, rl, fun τ h hH hX hc hP => by
      obtain ⟨rp, hc⟩ := hc
      exact ((yp_x_no1 (d := 0) hH hX hc hp hq c1).deep (Nat.le_of_ble_eq_true rfl)).mono (fun r h2 hq => xD3x_of hH hP ⟨rfl, rfl, rfl⟩ hq), fun τ h hH hX hc hP => ((yp_m_no1 (d := 0) hH hX hc hp hq c1).deep (Nat.le_of_ble_eq_true rfl)).mono (fun r h2 hq => xD3m_of hH hP ⟨rfl, rfl, rfl⟩ hq)⟩
  by_cases c2 : wd b.toInt.toNat = -1
  · have hp := (Decidable.not_not.mp c0).1
    have hq := (Decidable.not_not.mp c0).2
    have hla : a.toInt.toNat < 4 := by omega
    have hlb : b.toInt.toNat < 4 := by omega
    exact ⟨(-5), wd, sz, nm, pl, pr, rl, fun τ h hH hX hc hP => by
      obtain ⟨rp, hc⟩ := hc
      exact ((yp_x_no2 (d := 0) hH hX hc hp hq c1 (xw0 (rg _ hla).1.1 c1) c2).deep (Nat.le_of_ble_eq_true rfl)).mono (fun r h2 hq => xD3x_of hH hP ⟨rfl, rfl, rfl⟩ hq), fun τ h hH hX hc hP => ((yp_m_no2 (d := 0) hH hX hc hp hq c1 (xw0 (rg _ hla).1.1 c1) c2).deep (Nat.le_of_ble_eq_true rfl)).mono (fun r h2 hq => xD3m_of hH hP ⟨rfl, rfl, rfl⟩ hq)⟩
  by_cases c3 : ¬ wd a.toInt.toNat = wd b.toInt.toNat
  · have hp := (Decidable.not_not.mp c0).1
    have hq := (Decidable.not_not.mp c0).2
    have hla : a.toInt.toNat < 4 := by omega
    have hlb : b.toInt.toNat < 4 := by omega
    exact ⟨(-7), wd, sz, nm, pl, pr, rl, fun τ h hH hX hc hP => by
      obtain ⟨rp, hc⟩ := hc
      exact ((yp_x_dif (d := 0) hH hX hc hp hq c1 c2 (xw0 (rg _ hla).1.1 c1) (xw0 (rg _ hlb).1.1 c2) c3).deep (Nat.le_of_ble_eq_true rfl)).mono (fun r h2 hq => xD3x_of hH hP ⟨rfl, rfl, rfl⟩ hq), fun τ h hH hX hc hP => ((yp_m_dif (d := 0) hH hX hc hp hq c1 c2 (xw0 (rg _ hla).1.1 c1) (xw0 (rg _ hlb).1.1 c2) c3).deep (Nat.le_of_ble_eq_true rfl)).mono (fun r h2 hq => xD3m_of hH hP ⟨rfl, rfl, rfl⟩ hq)⟩
  by_cases c4 : ¬ ((0 ≤ u.toInt ∧ 0 ≤ c.toInt ∧ u.toInt + c.toInt ≤ (sz a.toInt.toNat).toInt) ∧ 0 ≤ v.toInt ∧ 0 ≤ c.toInt ∧ v.toInt + c.toInt ≤ (sz b.toInt.toNat).toInt)
  · have hp := (Decidable.not_not.mp c0).1
    have hq := (Decidable.not_not.mp c0).2
    have hla : a.toInt.toNat < 4 := by omega
    have hlb : b.toInt.toNat < 4 := by omega
    exact ⟨(-6), wd, sz, nm, pl, pr, rl, fun τ h hH hX hc hP => by
      obtain ⟨rp, hc⟩ := hc
      exact ((yp_x_bey (d := 0) hH hX hc hp hq c1 c2 (xw0 (rg _ hla).1.1 c1) (xw0 (rg _ hlb).1.1 c2) (rg _ hla).2 (rg _ hlb).2 (Decidable.not_not.mp c3) c4).deep (Nat.le_of_ble_eq_true rfl)).mono (fun r h2 hq => xD3x_of hH hP ⟨rfl, rfl, rfl⟩ hq), fun τ h hH hX hc hP => ((yp_m_bey (d := 0) hH hX hc hp hq c1 c2 (xw0 (rg _ hla).1.1 c1) (xw0 (rg _ hlb).1.1 c2) (rg _ hla).2 (rg _ hlb).2 (Decidable.not_not.mp c3) c4).deep (Nat.le_of_ble_eq_true rfl)).mono (fun r h2 hq => xD3m_of hH hP ⟨rfl, rfl, rfl⟩ hq)⟩
  have hp := (Decidable.not_not.mp c0).1
  have hq := (Decidable.not_not.mp c0).2
  have hla : a.toInt.toNat < 4 := by omega
  have hlb : b.toInt.toNat < 4 := by omega
  exact ⟨0, wd, sz, xpst nm a.toInt.toNat u.toInt.toNat b.toInt.toNat v.toInt.toNat c.toInt.toNat, pl, pr, rl, fun τ h hH hX hc hP => by
      obtain ⟨rp, hc⟩ := hc
      exact ((yp_x_ok (d := 0) hH hX hc hp hq c1 c2 (xw0 (rg _ hla).1.1 c1) (xw0 (rg _ hlb).1.1 c2) (rg _ hla).2 (rg _ hlb).2 (Decidable.not_not.mp c3) (Decidable.not_not.mp c4).1 (Decidable.not_not.mp c4).2).deep (Nat.le_of_ble_eq_true rfl)).mono (fun r h2 hq => xD3x_of hH hP ⟨rfl, rfl, rfl⟩ hq), fun τ h hH hX hc hP => ((yp_m_ok (d := 0) hH hX hc hp hq c1 c2 (xw0 (rg _ hla).1.1 c1) (xw0 (rg _ hlb).1.1 c2) (rg _ hla).2 (rg _ hlb).2 (Decidable.not_not.mp c3) (Decidable.not_not.mp c4).1 (Decidable.not_not.mp c4).2).deep (Nat.le_of_ble_eq_true rfl)).mono (fun r h2 hq => xD3m_of hH hP ⟨rfl, rfl, rfl⟩ hq)⟩
theorem xr_matched {pl : Int32} {pr : Nat → Int32} (a : Int32) (rg : ∀ j, j < 4 → (-1 ≤ (wd j).toInt ∧ (wd j).toInt ≤ 3) ∧ 0 ≤ (sz j).toInt ∧ (sz j).toInt ≤ 60) (rl : 0 ≤ pl.toInt ∧ pl.toInt ≤ 60) : ∃ (x : Int32) (wd2 sz2 : Nat → Int32) (nm2 : Nat → Nat → Int64) (pl2 : Int32) (pr2 : Nat → Int32), (0 ≤ pl2.toInt ∧ pl2.toInt ≤ 60) ∧ (∀ (τ : List Nat) (h : zm_H), xHI xKT xSG τ h → xX τ h → xRX τ h wd sz nm → xPRX h pl pr → zm_Y og 1 159 0 [(0, .ref 0), (1, .int a)] [] h (xD3x τ h 0 (fun r => r = some (.int x)) (fun τ1 h1 => xRX τ1 h1 wd2 sz2 nm2 ∧ xPRX h1 pl2 pr2))) ∧ ∀ (τ : List Nat) (h : zm_H), xHI xKT xSG τ h → xX τ h → xRM h wd sz nm → xPRM h pl pr → zm_Y og 1 278 0 [(0, .ref 55), (1, .int a)] [] h (xD3m τ h 0 (fun r => r = some (.int x)) (fun τ1 h1 => xRM h1 wd2 sz2 nm2 ∧ xPRM h1 pl2 pr2)) := by
  by_cases c0 : 0 ≤ a.toInt ∧ a.toInt < pl.toInt
  · exact ⟨pr a.toInt.toNat, wd, sz, nm, pl, pr, rl, fun τ h hH hX hc hP => by
      obtain ⟨rp, hc⟩ := hc
      exact ((yd_x_in (d := 0) hH hX hc hP rl c0).deep (Nat.le_of_ble_eq_true rfl)).mono (fun r h2 hq => xD3x_of hH hP ⟨rfl, rfl, rfl⟩ hq), fun τ h hH hX hc hP => ((yd_m_in (d := 0) hH hX hc hP rl c0).deep (Nat.le_of_ble_eq_true rfl)).mono (fun r h2 hq => xD3m_of hH hP ⟨rfl, rfl, rfl⟩ hq)⟩
  exact ⟨-1, wd, sz, nm, pl, pr, rl, fun τ h hH hX hc hP => by
      obtain ⟨rp, hc⟩ := hc
      exact ((yd_x_no (d := 0) hH hX hc hP rl c0).deep (Nat.le_of_ble_eq_true rfl)).mono (fun r h2 hq => xD3x_of hH hP ⟨rfl, rfl, rfl⟩ hq), fun τ h hH hX hc hP => ((yd_m_no (d := 0) hH hX hc hP rl c0).deep (Nat.le_of_ble_eq_true rfl)).mono (fun r h2 hq => xD3m_of hH hP ⟨rfl, rfl, rfl⟩ hq)⟩
theorem xr_match {pl : Int32} {pr : Nat → Int32} (a : Int32) (b : Int32) (g : Int32) (rg : ∀ j, j < 4 → (-1 ≤ (wd j).toInt ∧ (wd j).toInt ≤ 3) ∧ 0 ≤ (sz j).toInt ∧ (sz j).toInt ≤ 60) (rl : 0 ≤ pl.toInt ∧ pl.toInt ≤ 60) : ∃ (x : Int32) (wd2 sz2 : Nat → Int32) (nm2 : Nat → Nat → Int64) (pl2 : Int32) (pr2 : Nat → Int32), (0 ≤ pl2.toInt ∧ pl2.toInt ≤ 60) ∧ (∀ (τ : List Nat) (h : zm_H), xHI xKT xSG τ h → xX τ h → xRX τ h wd sz nm → xPRX h pl pr → zm_Y og 3 154 0 [(0, .ref 0), (1, .int a), (2, .int b), (3, .int g)] [] h (xD3x τ h 3734 (fun r => r = some (.int x)) (fun τ1 h1 => xRX τ1 h1 wd2 sz2 nm2 ∧ xPRX h1 pl2 pr2))) ∧ ∀ (τ : List Nat) (h : zm_H), xHI xKT xSG τ h → xX τ h → xRM h wd sz nm → xPRM h pl pr → zm_Y og 3 276 0 [(0, .ref 55), (1, .int a), (2, .int b), (3, .int g)] [] h (xD3m τ h 0 (fun r => r = some (.int x)) (fun τ1 h1 => xRM h1 wd2 sz2 nm2 ∧ xPRM h1 pl2 pr2)) := by
  by_cases c0 : ¬ ((0 ≤ a.toInt ∧ a.toInt ≤ 3) ∧ (0 ≤ b.toInt ∧ b.toInt ≤ 3) ∧ 0 ≤ g.toInt ∧ g.toInt ≤ 1000)
  · exact ⟨(-2), wd, sz, nm, pl, pr, rl, fun τ h hH hX hc hP => by
      obtain ⟨rp, hc⟩ := hc
      exact ((ym_x_bad (n := 0) (m := 0) (d := 0) hH hX hc c0).deep (Nat.le_of_ble_eq_true rfl)).mono (fun r h2 hq => xD3x_of hH hP ⟨rfl, rfl, rfl⟩ hq), fun τ h hH hX hc hP => ((ym_m_bad (n := 0) (m := 0) (d := 0) hH hX hc c0).deep (Nat.le_of_ble_eq_true rfl)).mono (fun r h2 hq => xD3m_of hH hP ⟨rfl, rfl, rfl⟩ hq)⟩
  by_cases c1 : wd a.toInt.toNat = -1
  · have hp := (Classical.not_not.mp c0).1
    have hq := (Classical.not_not.mp c0).2.1
    have hg := (Classical.not_not.mp c0).2.2
    exact ⟨(-5), wd, sz, nm, pl, pr, rl, fun τ h hH hX hc hP => by
      obtain ⟨rp, hc⟩ := hc
      exact ((ym_x_no1 (n := 0) (m := 0) (d := 0) hH hX hc hp hq hg c1).deep (Nat.le_of_ble_eq_true rfl)).mono (fun r h2 hq => xD3x_of hH hP ⟨rfl, rfl, rfl⟩ hq), fun τ h hH hX hc hP => ((ym_m_no1 (n := 0) (m := 0) (d := 0) hH hX hc hp hq hg c1).deep (Nat.le_of_ble_eq_true rfl)).mono (fun r h2 hq => xD3m_of hH hP ⟨rfl, rfl, rfl⟩ hq)⟩
  by_cases c2 : wd b.toInt.toNat = -1
  · have hp := (Classical.not_not.mp c0).1
    have hq := (Classical.not_not.mp c0).2.1
    have hg := (Classical.not_not.mp c0).2.2
    have hla : a.toInt.toNat < 4 := by omega
    have hlb : b.toInt.toNat < 4 := by omega
    exact ⟨(-5), wd, sz, nm, pl, pr, rl, fun τ h hH hX hc hP => by
      obtain ⟨rp, hc⟩ := hc
      exact ((ym_x_no2 (n := 0) (m := 0) (d := 0) hH hX hc hp hq hg c1 (xw0 (rg _ hla).1.1 c1) c2).deep (Nat.le_of_ble_eq_true rfl)).mono (fun r h2 hq => xD3x_of hH hP ⟨rfl, rfl, rfl⟩ hq), fun τ h hH hX hc hP => ((ym_m_no2 (n := 0) (m := 0) (d := 0) hH hX hc hp hq hg c1 (xw0 (rg _ hla).1.1 c1) c2).deep (Nat.le_of_ble_eq_true rfl)).mono (fun r h2 hq => xD3m_of hH hP ⟨rfl, rfl, rfl⟩ hq)⟩
  by_cases c3 : ¬ xokN nm a.toInt.toNat (sz a.toInt.toNat).toInt.toNat
  · have hp := (Classical.not_not.mp c0).1
    have hq := (Classical.not_not.mp c0).2.1
    have hg := (Classical.not_not.mp c0).2.2
    have hla : a.toInt.toNat < 4 := by omega
    have hlb : b.toInt.toNat < 4 := by omega
    have hn := xnat (sz a.toInt.toNat) (rg _ hla).2.1
    have hm := xnat (sz b.toInt.toNat) (rg _ hlb).2.1
    have hn60 : (sz a.toInt.toNat).toInt.toNat ≤ 60 := by have z := (rg _ hla).2.2; omega
    have hm60 : (sz b.toInt.toNat).toInt.toNat ≤ 60 := by have z := (rg _ hlb).2.2; omega
    exact ⟨(-4), wd, sz, nm, pl, pr, rl, fun τ h hH hX hc hP => by
      obtain ⟨rp, hc⟩ := hc
      exact ((ym_x_f1 (d := 0) hH hX hc hp hq hg c1 (xw0 (rg _ hla).1.1 c1) c2 (xw0 (rg _ hlb).1.1 c2) hn hm hn60 hm60 c3).deep (Nat.le_of_ble_eq_true rfl)).mono (fun r h2 hq => xD3x_of hH hP ⟨rfl, rfl, rfl⟩ hq), fun τ h hH hX hc hP => ((ym_m_f1 (d := 0) hH hX hc hp hq hg c1 (xw0 (rg _ hla).1.1 c1) c2 (xw0 (rg _ hlb).1.1 c2) hn hm hn60 hm60 c3).deep (Nat.le_of_ble_eq_true rfl)).mono (fun r h2 hq => xD3m_of hH hP ⟨rfl, rfl, rfl⟩ hq)⟩
  by_cases c4 : ¬ xokN nm b.toInt.toNat (sz b.toInt.toNat).toInt.toNat
  · have hp := (Classical.not_not.mp c0).1
    have hq := (Classical.not_not.mp c0).2.1
    have hg := (Classical.not_not.mp c0).2.2
    have hla : a.toInt.toNat < 4 := by omega
    have hlb : b.toInt.toNat < 4 := by omega
    have hn := xnat (sz a.toInt.toNat) (rg _ hla).2.1
    have hm := xnat (sz b.toInt.toNat) (rg _ hlb).2.1
    have hn60 : (sz a.toInt.toNat).toInt.toNat ≤ 60 := by have z := (rg _ hla).2.2; omega
    have hm60 : (sz b.toInt.toNat).toInt.toNat ≤ 60 := by have z := (rg _ hlb).2.2; omega
    exact ⟨(-4), wd, sz, nm, pl, pr, rl, fun τ h hH hX hc hP => by
      obtain ⟨rp, hc⟩ := hc
      exact ((ym_x_f2 (d := 0) hH hX hc hp hq hg c1 (xw0 (rg _ hla).1.1 c1) c2 (xw0 (rg _ hlb).1.1 c2) hn hm hn60 hm60 (Classical.not_not.mp c3) c4).deep (Nat.le_of_ble_eq_true rfl)).mono (fun r h2 hq => xD3x_of hH hP ⟨rfl, rfl, rfl⟩ hq), fun τ h hH hX hc hP => ((ym_m_f2 (d := 0) hH hX hc hp hq hg c1 (xw0 (rg _ hla).1.1 c1) c2 (xw0 (rg _ hlb).1.1 c2) hn hm hn60 hm60 (Classical.not_not.mp c3) c4).deep (Nat.le_of_ble_eq_true rfl)).mono (fun r h2 hq => xD3m_of hH hP ⟨rfl, rfl, rfl⟩ hq)⟩
  have hp := (Classical.not_not.mp c0).1
  have hq := (Classical.not_not.mp c0).2.1
  have hg := (Classical.not_not.mp c0).2.2
  have hla : a.toInt.toNat < 4 := by omega
  have hlb : b.toInt.toNat < 4 := by omega
  have hn := xnat (sz a.toInt.toNat) (rg _ hla).2.1
  have hm := xnat (sz b.toInt.toNat) (rg _ hlb).2.1
  have hn60 : (sz a.toInt.toNat).toInt.toNat ≤ 60 := by have z := (rg _ hla).2.2; omega
  have hm60 : (sz b.toInt.toNat).toInt.toNat ≤ 60 := by have z := (rg _ hlb).2.2; omega
  exact ⟨Int32.ofInt ((xVV2 g.toInt (fun q => (nm a.toInt.toNat q).toInt) (fun q => (nm b.toInt.toNat q).toInt) (sz a.toInt.toNat).toInt.toNat (sz b.toInt.toNat).toInt.toNat) 0 0), wd, sz, nm, sz a.toInt.toNat, (xtr (xVV2 g.toInt (fun q => (nm a.toInt.toNat q).toInt) (fun q => (nm b.toInt.toNat q).toInt) (sz a.toInt.toNat).toInt.toNat (sz b.toInt.toNat).toInt.toNat) (fun p q => (((nm a.toInt.toNat p).toInt - (nm b.toInt.toNat q).toInt).natAbs : Int)) g.toInt (sz a.toInt.toNat).toInt.toNat (sz b.toInt.toNat).toInt.toNat 120 0 0 (fun _ => -1)), (rg _ hla).2, fun τ h hH hX hc hP => by
      obtain ⟨rp, hc⟩ := hc
      exact ((ym_x_ok (d := 0) hH hX hc hp hq hg c1 (xw0 (rg _ hla).1.1 c1) c2 (xw0 (rg _ hlb).1.1 c2) hn hm hn60 hm60 (Classical.not_not.mp c3) (Classical.not_not.mp c4)).deep (Nat.le_of_ble_eq_true rfl)).mono (fun r h2 hq => xD3x_mt (rg _ hla).2.2 hH ⟨rfl, rfl⟩ hq), fun τ h hH hX hc hP => ((ym_m_ok (d := 0) hH hX hc hp hq hg c1 (xw0 (rg _ hla).1.1 c1) c2 (xw0 (rg _ hlb).1.1 c2) hn hm hn60 hm60 (Classical.not_not.mp c3) (Classical.not_not.mp c4)).deep (Nat.le_of_ble_eq_true rfl)).mono (fun r h2 hq => xD3m_mt hn hH ⟨rfl, rfl⟩ hq)⟩
end XR2
