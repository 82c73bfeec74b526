/-! PLACES: piece 6 (made by a program) -/
section XR2
variable {og : Nat → Option zm_C} {τ τ' : List Nat} {h h' : zm_H} {ms : List (Nat × Nat)} {rp : Nat → Nat} {wd sz : Nat → Int32} {nm : Nat → Nat → Int64}
def xDBx (τ : List Nat) (h : zm_H) (g : Nat) (A : Option Value → Prop) (R : List Nat → zm_H → Prop) (r : Option Value) (h' : zm_H) : Prop := A r ∧ ∃ τ', xHI xKT xSG τ' h' ∧ xX τ' h' ∧ xW h' ≤ xW h + g ∧ R τ' h' ∧ ∀ wd sz nm, xRM h wd sz nm → xRM h' wd sz nm
def xDBm (τ : List Nat) (h : zm_H) (g : Nat) (A : Option Value → Prop) (R : List Nat → zm_H → Prop) (r : Option Value) (h' : zm_H) : Prop := A r ∧ ∃ τ', xHI xKT xSG τ' h' ∧ xX τ' h' ∧ xW h' ≤ xW h + g ∧ R τ' h' ∧ ∀ wd sz nm, xRX τ h wd sz nm → xRX τ' h' wd sz nm
theorem xDBx_of {g : Nat} {A : Option Value → Prop} {R : List Nat → zm_H → Prop} {r : Option Value} (hH : xHI xKT xSG τ h) (hk : ([(56, 0), (57, 0), (58, 0)] : List (Nat × Nat)).all (fun p => !xms ms p.1 p.2) = true) (hq : xCO τ h g ms A R r h') : xDBx τ h g A R r h' := by
  obtain ⟨p, τ1, a1, a2, a3, a4, a5⟩ := hq
  exact ⟨p, τ1, a1, a2, a3, a5, fun _ _ _ hc => xRM_F hH a4 hk hc⟩
theorem xDBm_of {g : Nat} {A : Option Value → Prop} {R : List Nat → zm_H → Prop} {r : Option Value} (hH : xHI xKT xSG τ h) (hk : ([(51, 0), (52, 0), (46, 0), (211, 0)] : List (Nat × Nat)).all (fun p => !xms ms p.1 p.2) = true) (hq : xCO τ h g ms A R r h') : xDBm τ h g A R r h' := by
  obtain ⟨p, τ1, a1, a2, a3, a4, a5⟩ := hq
  exact ⟨p, τ1, a1, a2, a3, a5, fun _ _ _ hc => xRX_F hH a4 hk hc⟩
theorem xw0 {w : Int32} (h1 : -1 ≤ w.toInt) (h2 : ¬ w = -1) : 0 ≤ w.toInt := by
  have h3 : ¬ w.toInt = -1 := fun z => h2 (Int32.toInt_inj.mp z)
  omega
theorem xr_tear (a : Int32) (rg : ∀ j, j < 4 → (-1 ≤ (wd j).toInt ∧ (wd j).toInt ≤ 3) ∧ 0 ≤ (sz j).toInt ∧ (sz j).toInt ≤ 60) : ∃ (x : Int32) (wd2 sz2 : Nat → Int32) (nm2 : Nat → Nat → Int64), (∀ (τ : List Nat) (h : zm_H), xHI xKT xSG τ h → xX τ h → xRX τ h wd sz nm → zm_Y og 2 175 0 [(0, .ref 0), (1, .int a)] [] h (xDBx τ h 0 (fun r => r = some (.int x)) (fun τ1 h1 => xRX τ1 h1 wd2 sz2 nm2))) ∧ ∀ (τ : List Nat) (h : zm_H), xHI xKT xSG τ h → xX τ h → xRM h wd sz nm → zm_Y og 2 184 0 [(0, .ref 55), (1, .int a)] [] h (xDBm τ h 0 (fun r => r = some (.int x)) (fun τ1 h1 => xRM h1 wd2 sz2 nm2)) := by
  by_cases c0 : ¬ (0 ≤ a.toInt ∧ a.toInt ≤ 3)
  · exact ⟨0, wd, sz, nm, fun τ h hH hX hc => by
      obtain ⟨rp, hc⟩ := hc
      exact ((yt_x_bad (d := 0) hH hX hc c0).deep (Nat.le_of_ble_eq_true rfl)).mono (fun r h2 hq => xDBx_of hH rfl hq), fun τ h hH hX hc => ((yt_m_bad (d := 0) hH hX hc c0).deep (Nat.le_of_ble_eq_true rfl)).mono (fun r h2 hq => xDBm_of hH rfl hq)⟩
  by_cases c1 : wd a.toInt.toNat = -1
  · exact ⟨0, wd, sz, nm, fun τ h hH hX hc => by
      obtain ⟨rp, hc⟩ := hc
      exact ((yt_x_no (d := 0) hH hX hc (Decidable.not_not.mp c0) c1).deep (Nat.le_of_ble_eq_true rfl)).mono (fun r h2 hq => xDBx_of hH rfl hq), fun τ h hH hX hc => ((yt_m_no (d := 0) hH hX hc (Decidable.not_not.mp c0) c1).deep (Nat.le_of_ble_eq_true rfl)).mono (fun r h2 hq => xDBm_of hH rfl hq)⟩
  have hla : a.toInt.toNat < 4 := by omega
  exact ⟨1, upd wd a.toInt.toNat (-1), sz, nm, fun τ h hH hX hc => by
      obtain ⟨rp, hc⟩ := hc
      exact ((yt_x_ok (d := 0) hH hX hc (Decidable.not_not.mp c0) c1 ⟨xw0 (rg _ hla).1.1 c1, (rg _ hla).1.2⟩).deep (Nat.le_of_ble_eq_true rfl)).mono (fun r h2 hq => xDBx_of hH rfl hq), fun τ h hH hX hc => ((yt_m_ok (d := 0) hH hX hc (Decidable.not_not.mp c0) c1 ⟨xw0 (rg _ hla).1.1 c1, (rg _ hla).1.2⟩).deep (Nat.le_of_ble_eq_true rfl)).mono (fun r h2 hq => xDBm_of hH rfl hq)⟩
theorem xr_row (a : Int32) (b : Int32) (c : Int32) (rg : ∀ j, j < 4 → (-1 ≤ (wd j).toInt ∧ (wd j).toInt ≤ 3) ∧ 0 ≤ (sz j).toInt ∧ (sz j).toInt ≤ 60) : ∃ (x : Int32) (wd2 sz2 : Nat → Int32) (nm2 : Nat → Nat → Int64), (∀ (τ : List Nat) (h : zm_H), xHI xKT xSG τ h → xX τ h → xRX τ h wd sz nm → zm_Y og 3 173 0 [(0, .ref 0), (1, .int a), (2, .int b), (3, .int c)] [] h (xDBx τ h 0 (fun r => r = some (.int x)) (fun τ1 h1 => xRX τ1 h1 wd2 sz2 nm2))) ∧ ∀ (τ : List Nat) (h : zm_H), xHI xKT xSG τ h → xX τ h → xRM h wd sz nm → zm_Y og 3 181 0 [(0, .ref 55), (1, .int a), (2, .int b), (3, .int c)] [] h (xDBm τ h 0 (fun r => r = some (.int x)) (fun τ1 h1 => xRM h1 wd2 sz2 nm2)) := by
  by_cases c0 : ¬ ((0 ≤ a.toInt ∧ a.toInt ≤ 3) ∧ (0 ≤ b.toInt ∧ b.toInt ≤ 3) ∧ c.toInt ≤ 60)
  · exact ⟨(-2), wd, sz, nm, fun τ h hH hX hc => by
      obtain ⟨rp, hc⟩ := hc
      exact ((yr_x_bad (d := 0) hH hX hc c0).deep (Nat.le_of_ble_eq_true rfl)).mono (fun r h2 hq => xDBx_of hH rfl hq), fun τ h hH hX hc => ((yr_m_bad (d := 0) hH hX hc c0).deep (Nat.le_of_ble_eq_true rfl)).mono (fun r h2 hq => xDBm_of hH rfl hq)⟩
  by_cases c1 : c.toInt < 0
  · exact ⟨(-3), wd, sz, nm, fun τ h hH hX hc => by
      obtain ⟨rp, hc⟩ := hc
      exact ((yr_x_neg (d := 0) hH hX hc (Decidable.not_not.mp c0) c1).deep (Nat.le_of_ble_eq_true rfl)).mono (fun r h2 hq => xDBx_of hH rfl hq), fun τ h hH hX hc => ((yr_m_neg (d := 0) hH hX hc (Decidable.not_not.mp c0) c1).deep (Nat.le_of_ble_eq_true rfl)).mono (fun r h2 hq => xDBm_of hH rfl hq)⟩
  exact ⟨0, upd wd a.toInt.toNat b, upd sz a.toInt.toNat c, xnz nm a.toInt.toNat 0 60, fun τ h hH hX hc => by
      obtain ⟨rp, hc⟩ := hc
      exact ((yr_x_ok (d := 0) hH hX hc (Decidable.not_not.mp c0) (by omega)).deep (Nat.le_of_ble_eq_true rfl)).mono (fun r h2 hq => xDBx_of hH rfl hq), fun τ h hH hX hc => ((yr_m_ok (d := 0) hH hX hc (Decidable.not_not.mp c0) (by omega)).deep (Nat.le_of_ble_eq_true rfl)).mono (fun r h2 hq => xDBm_of hH rfl hq)⟩
theorem xr_write (a : Int32) (b : Int32) (v : Int64) (rg : ∀ j, j < 4 → (-1 ≤ (wd j).toInt ∧ (wd j).toInt ≤ 3) ∧ 0 ≤ (sz j).toInt ∧ (sz j).toInt ≤ 60) : ∃ (x : Int32) (wd2 sz2 : Nat → Int32) (nm2 : Nat → Nat → Int64), (∀ (τ : List Nat) (h : zm_H), xHI xKT xSG τ h → xX τ h → xRX τ h wd sz nm → zm_Y og 2 176 0 [(0, .ref 0), (1, .int a), (2, .int b), (3, .long v)] [] h (xDBx τ h 0 (fun r => r = some (.int x)) (fun τ1 h1 => xRX τ1 h1 wd2 sz2 nm2))) ∧ ∀ (τ : List Nat) (h : zm_H), xHI xKT xSG τ h → xX τ h → xRM h wd sz nm → zm_Y og 2 185 0 [(0, .ref 55), (1, .int a), (2, .int b), (3, .long v)] [] h (xDBm τ h 0 (fun r => r = some (.int x)) (fun τ1 h1 => xRM h1 wd2 sz2 nm2)) := by
  by_cases c0 : ¬ (0 ≤ a.toInt ∧ a.toInt ≤ 3)
  · exact ⟨(-2), wd, sz, nm, fun τ h hH hX hc => by
      obtain ⟨rp, hc⟩ := hc
      exact ((yw_x_bad (d := 0) hH hX hc c0).deep (Nat.le_of_ble_eq_true rfl)).mono (fun r h2 hq => xDBx_of hH rfl hq), fun τ h hH hX hc => ((yw_m_bad (d := 0) hH hX hc c0).deep (Nat.le_of_ble_eq_true rfl)).mono (fun r h2 hq => xDBm_of hH rfl hq)⟩
  by_cases c1 : wd a.toInt.toNat = -1
  · exact ⟨(-5), wd, sz, nm, fun τ h hH hX hc => by
      obtain ⟨rp, hc⟩ := hc
      exact ((yw_x_no (d := 0) hH hX hc (Decidable.not_not.mp c0) c1).deep (Nat.le_of_ble_eq_true rfl)).mono (fun r h2 hq => xDBx_of hH rfl hq), fun τ h hH hX hc => ((yw_m_no (d := 0) hH hX hc (Decidable.not_not.mp c0) c1).deep (Nat.le_of_ble_eq_true rfl)).mono (fun r h2 hq => xDBm_of hH rfl hq)⟩
  by_cases c2 : ¬ (0 ≤ b.toInt ∧ b.toInt < (sz a.toInt.toNat).toInt)
  · have hla : a.toInt.toNat < 4 := by omega
    exact ⟨(-6), wd, sz, nm, fun τ h hH hX hc => by
      obtain ⟨rp, hc⟩ := hc
      exact ((yw_x_bey (d := 0) hH hX hc (Decidable.not_not.mp c0) c1 ⟨xw0 (rg _ hla).1.1 c1, (rg _ hla).1.2⟩ (rg _ hla).2.1 (rg _ hla).2.2 c2).deep (Nat.le_of_ble_eq_true rfl)).mono (fun r h2 hq => xDBx_of hH rfl hq), fun τ h hH hX hc => ((yw_m_bey (d := 0) hH hX hc (Decidable.not_not.mp c0) c1 ⟨xw0 (rg _ hla).1.1 c1, (rg _ hla).1.2⟩ (rg _ hla).2.1 (rg _ hla).2.2 c2).deep (Nat.le_of_ble_eq_true rfl)).mono (fun r h2 hq => xDBm_of hH rfl hq)⟩
  have hla : a.toInt.toNat < 4 := by omega
  exact ⟨0, wd, sz, updN nm a.toInt.toNat b.toInt.toNat (xcut (wd a.toInt.toNat) v), fun τ h hH hX hc => by
      obtain ⟨rp, hc⟩ := hc
      exact ((yw_x_ok (d := 0) hH hX hc (Decidable.not_not.mp c0) c1 ⟨xw0 (rg _ hla).1.1 c1, (rg _ hla).1.2⟩ (rg _ hla).2.1 (rg _ hla).2.2 (Decidable.not_not.mp c2)).deep (Nat.le_of_ble_eq_true rfl)).mono (fun r h2 hq => xDBx_of hH rfl hq), fun τ h hH hX hc => ((yw_m_ok (d := 0) hH hX hc (Decidable.not_not.mp c0) c1 ⟨xw0 (rg _ hla).1.1 c1, (rg _ hla).1.2⟩ (rg _ hla).2.1 (rg _ hla).2.2 (Decidable.not_not.mp c2)).deep (Nat.le_of_ble_eq_true rfl)).mono (fun r h2 hq => xDBm_of hH rfl hq)⟩
theorem xr_paste (a : Int32) (u : Int32) (b : Int32) (v : Int32) (c : Int32) (rg : ∀ j, j < 4 → (-1 ≤ (wd j).toInt ∧ (wd j).toInt ≤ 3) ∧ 0 ≤ (sz j).toInt ∧ (sz j).toInt ≤ 60) : ∃ (x : Int32) (wd2 sz2 : Nat → Int32) (nm2 : Nat → Nat → Int64), (∀ (τ : List Nat) (h : zm_H), xHI xKT xSG τ h → xX τ h → xRX τ h wd sz nm → zm_Y og 2 178 0 [(0, .ref 0), (1, .int a), (2, .int u), (3, .int b), (4, .int v), (5, .int c)] [] h (xDBx τ h 0 (fun r => r = some (.int x)) (fun τ1 h1 => xRX τ1 h1 wd2 sz2 nm2))) ∧ ∀ (τ : List Nat) (h : zm_H), xHI xKT xSG τ h → xX τ h → xRM h wd sz nm → zm_Y og 2 187 0 [(0, .ref 55), (1, .int a), (2, .int u), (3, .int b), (4, .int v), (5, .int c)] [] h (xDBm τ h 0 (fun r => r = some (.int x)) (fun τ1 h1 => xRM h1 wd2 sz2 nm2)) := by
  by_cases c0 : ¬ ((0 ≤ a.toInt ∧ a.toInt ≤ 3) ∧ 0 ≤ b.toInt ∧ b.toInt ≤ 3)
  · exact ⟨(-2), wd, sz, nm, fun τ h hH hX hc => by
      obtain ⟨rp, hc⟩ := hc
      exact ((yp_x_bad (d := 0) hH hX hc c0).deep (Nat.le_of_ble_eq_true rfl)).mono (fun r h2 hq => xDBx_of hH rfl hq), fun τ h hH hX hc => ((yp_m_bad (d := 0) hH hX hc c0).deep (Nat.le_of_ble_eq_true rfl)).mono (fun r h2 hq => xDBm_of hH rfl hq)⟩
  by_cases c1 : wd a.toInt.toNat = -1
  · have hp := (Decidable.not_not.mp c0).1
    have hq := (Decidable.not_not.mp c0).2
    exact ⟨(-5), wd, sz, nm, fun τ h hH hX hc => by
      obtain ⟨rp, hc⟩ := hc
      exact ((yp_x_no1 (d := 0) hH hX hc hp hq c1).deep (Nat.le_of_ble_eq_true rfl)).mono (fun r h2 hq => xDBx_of hH rfl hq), fun τ h hH hX hc => ((yp_m_no1 (d := 0) hH hX hc hp hq c1).deep (Nat.le_of_ble_eq_true rfl)).mono (fun r h2 hq => xDBm_of hH rfl hq)⟩
  by_cases c2 : wd b.toInt.toNat = -1
  · have hp := (Decidable.not_not.mp c0).1
    have hq := (Decidable.not_not.mp c0).2
    have hla : a.toInt.toNat < 4 := by omega
    have hlb : b.toInt.toNat < 4 := by omega
    exact ⟨(-5), wd, sz, nm, fun τ h hH hX hc => by
      obtain ⟨rp, hc⟩ := hc
      exact ((yp_x_no2 (d := 0) hH hX hc hp hq c1 (xw0 (rg _ hla).1.1 c1) c2).deep (Nat.le_of_ble_eq_true rfl)).mono (fun r h2 hq => xDBx_of hH rfl hq), fun τ h hH hX hc => ((yp_m_no2 (d := 0) hH hX hc hp hq c1 (xw0 (rg _ hla).1.1 c1) c2).deep (Nat.le_of_ble_eq_true rfl)).mono (fun r h2 hq => xDBm_of hH rfl hq)⟩
  by_cases c3 : ¬ wd a.toInt.toNat = wd b.toInt.toNat
  · have hp := (Decidable.not_not.mp c0).1
    have hq := (Decidable.not_not.mp c0).2
    have hla : a.toInt.toNat < 4 := by omega
    have hlb : b.toInt.toNat < 4 := by omega
    exact ⟨(-7), wd, sz, nm, fun τ h hH hX hc => by
      obtain ⟨rp, hc⟩ := hc
      exact ((yp_x_dif (d := 0) hH hX hc hp hq c1 c2 (xw0 (rg _ hla).1.1 c1) (xw0 (rg _ hlb).1.1 c2) c3).deep (Nat.le_of_ble_eq_true rfl)).mono (fun r h2 hq => xDBx_of hH rfl hq), fun τ h hH hX hc => ((yp_m_dif (d := 0) hH hX hc hp hq c1 c2 (xw0 (rg _ hla).1.1 c1) (xw0 (rg _ hlb).1.1 c2) c3).deep (Nat.le_of_ble_eq_true rfl)).mono (fun r h2 hq => xDBm_of hH rfl hq)⟩
  by_cases c4 : ¬ ((0 ≤ u.toInt ∧ 0 ≤ c.toInt ∧ u.toInt + c.toInt ≤ (sz a.toInt.toNat).toInt) ∧ 0 ≤ v.toInt ∧ 0 ≤ c.toInt ∧ v.toInt + c.toInt ≤ (sz b.toInt.toNat).toInt)
  · have hp := (Decidable.not_not.mp c0).1
    have hq := (Decidable.not_not.mp c0).2
    have hla : a.toInt.toNat < 4 := by omega
    have hlb : b.toInt.toNat < 4 := by omega
    exact ⟨(-6), wd, sz, nm, fun τ h hH hX hc => by
      obtain ⟨rp, hc⟩ := hc
      exact ((yp_x_bey (d := 0) hH hX hc hp hq c1 c2 (xw0 (rg _ hla).1.1 c1) (xw0 (rg _ hlb).1.1 c2) (rg _ hla).2 (rg _ hlb).2 (Decidable.not_not.mp c3) c4).deep (Nat.le_of_ble_eq_true rfl)).mono (fun r h2 hq => xDBx_of hH rfl hq), fun τ h hH hX hc => ((yp_m_bey (d := 0) hH hX hc hp hq c1 c2 (xw0 (rg _ hla).1.1 c1) (xw0 (rg _ hlb).1.1 c2) (rg _ hla).2 (rg _ hlb).2 (Decidable.not_not.mp c3) c4).deep (Nat.le_of_ble_eq_true rfl)).mono (fun r h2 hq => xDBm_of hH rfl hq)⟩
  have hp := (Decidable.not_not.mp c0).1
  have hq := (Decidable.not_not.mp c0).2
  have hla : a.toInt.toNat < 4 := by omega
  have hlb : b.toInt.toNat < 4 := by omega
  exact ⟨0, wd, sz, xpst nm a.toInt.toNat u.toInt.toNat b.toInt.toNat v.toInt.toNat c.toInt.toNat, fun τ h hH hX hc => by
      obtain ⟨rp, hc⟩ := hc
      exact ((yp_x_ok (d := 0) hH hX hc hp hq c1 c2 (xw0 (rg _ hla).1.1 c1) (xw0 (rg _ hlb).1.1 c2) (rg _ hla).2 (rg _ hlb).2 (Decidable.not_not.mp c3) (Decidable.not_not.mp c4).1 (Decidable.not_not.mp c4).2).deep (Nat.le_of_ble_eq_true rfl)).mono (fun r h2 hq => xDBx_of hH rfl hq), fun τ h hH hX hc => ((yp_m_ok (d := 0) hH hX hc hp hq c1 c2 (xw0 (rg _ hla).1.1 c1) (xw0 (rg _ hlb).1.1 c2) (rg _ hla).2 (rg _ hlb).2 (Decidable.not_not.mp c3) (Decidable.not_not.mp c4).1 (Decidable.not_not.mp c4).2).deep (Nat.le_of_ble_eq_true rfl)).mono (fun r h2 hq => xDBm_of hH rfl hq)⟩
end XR2
