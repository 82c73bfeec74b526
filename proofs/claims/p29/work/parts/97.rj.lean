/-! Houses, years, lines: piece 9 (made by a program) -/
section XC1
variable {og : Nat → Option zm_C} {τ τ' : List Nat} {h h' : zm_H} {ms : List (Nat × Nat)} {ad : Nat → Nat} {n : Nat} {st dn rf : Nat → Int32} {nr y L : Int32} {wk : Nat → Int32}
/-- an operation of the class: its own picture, and the model's stays -/
def xCBx (τ : List Nat) (h : zm_H) (g : Nat) (A : Option Value → Prop) (R : List Nat → zm_H → Prop) (r : Option Value) (h' : zm_H) : Prop := A r ∧ ∃ τ', xHI xKT xSG τ' h' ∧ xX τ' h' ∧ xW h' ≤ xW h + g ∧ R τ' h' ∧ ∀ n st dn rf nr y L wk, xCM h n st dn rf nr y L wk → xCM h' n st dn rf nr y L wk
def xCBm (τ : List Nat) (h : zm_H) (g : Nat) (A : Option Value → Prop) (R : List Nat → zm_H → Prop) (r : Option Value) (h' : zm_H) : Prop := A r ∧ ∃ τ', xHI xKT xSG τ' h' ∧ xX τ' h' ∧ xW h' ≤ xW h + g ∧ R τ' h' ∧ ∀ n st dn rf nr y L wk, xCX τ h n st dn rf nr y L wk → xCX τ' h' n st dn rf nr y L wk
theorem xCBx_of {g : Nat} {A : Option Value → Prop} {R : List Nat → zm_H → Prop} {r : Option Value} (hH : xHI xKT xSG τ h) (hk : ([(55, 6), (55, 10), (55, 5), (55, 8), (93, 0), (62, 0), (68, 0), (69, 0)] : List (Nat × Nat)).all (fun p => !xms ms p.1 p.2) = true) (hq : xCO τ h g ms A R r h') : xCBx τ h g A R r h' := by
  obtain ⟨p, τ1, a1, a2, a3, a4, a5⟩ := hq
  exact ⟨p, τ1, a1, a2, a3, a5, fun _ _ _ _ _ _ _ _ hc => xCM_F hH a4 hk hc⟩
theorem xCBm_of {g : Nat} {A : Option Value → Prop} {R : List Nat → zm_H → Prop} {r : Option Value} (hH : xHI xKT xSG τ h) (hk : ([(0, 1), (0, 2), (0, 3), (27, 6), (34, 0), (1, 0), (207, 0), (207, 4), (207, 9)] : List (Nat × Nat)).all (fun p => !xms ms p.1 p.2) = true) (hq : xCO τ h g ms A R r h') : xCBm τ h g A R r h' := by
  obtain ⟨p, τ1, a1, a2, a3, a4, a5⟩ := hq
  exact ⟨p, τ1, a1, a2, a3, a5, fun _ _ _ _ _ _ _ _ hc => xCX_F hH a4 hk hc⟩
theorem xOF_x {g : Nat} {A : Option Value → Prop} {r : Option Value} (hH : xHI xKT xSG τ h) (hc : xCX τ h n st dn rf nr y L wk) (hk : ([(0, 1), (0, 2), (0, 3), (27, 6), (34, 0), (1, 0), (207, 0), (207, 4), (207, 9)] : List (Nat × Nat)).all (fun p => !xms ms p.1 p.2) = true) (hq : xOF τ h g ms (fun r _ _ => A r) r h') : xCO τ h g ms A (fun τ1 h1 => xCX τ1 h1 n st dn rf nr y L wk) r h' := by
  obtain ⟨τ1, p, a1, a2, a3, a4⟩ := hq
  exact ⟨p, τ1, a1, a2, a3, a4, xCX_F hH a4 hk hc⟩
theorem xOF_m {g : Nat} {A : Option Value → Prop} {r : Option Value} (hH : xHI xKT xSG τ h) (hc : xCM h n st dn rf nr y L wk) (hk : ([(55, 6), (55, 10), (55, 5), (55, 8), (93, 0), (62, 0), (68, 0), (69, 0)] : List (Nat × Nat)).all (fun p => !xms ms p.1 p.2) = true) (hq : xOF τ h g ms (fun r _ _ => A r) r h') : xCO τ h g ms A (fun τ1 h1 => xCM h1 n st dn rf nr y L wk) r h' := by
  obtain ⟨τ1, p, a1, a2, a3, a4⟩ := hq
  exact ⟨p, τ1, a1, a2, a3, a4, xCM_F hH a4 hk hc⟩
theorem xOF_xL {g : Nat} {A : Option Value → Prop} {r : Option Value} (hH : xHI xKT xSG τ h) (hc : xCX τ h n st dn rf nr y L wk) (hk : ([(0, 1), (0, 2), (0, 3), (34, 0), (1, 0), (207, 0), (207, 4), (207, 9)] : List (Nat × Nat)).all (fun p => !xms ms p.1 p.2) = true) (hq : xOF τ h g ms (fun r _ h1 => A r ∧ xfd h1 27 6 = some (.int (L + 1))) r h') : xCO τ h g ms A (fun τ1 h1 => xCX τ1 h1 n st dn rf nr y (L + 1) wk) r h' := by
  obtain ⟨τ1, p, a1, a2, a3, a4⟩ := hq
  obtain ⟨ad, hc⟩ := hc
  exact ⟨p.1, τ1, a1, a2, a3, a4, ad, xCXa_L hH a4 hk p.2 hc⟩
theorem xOF_mL {g : Nat} {A : Option Value → Prop} {r : Option Value} (hH : xHI xKT xSG τ h) (hc : xCM h n st dn rf nr y L wk) (hk : ([(55, 6), (55, 10), (55, 5), (93, 0), (62, 0), (68, 0), (69, 0)] : List (Nat × Nat)).all (fun p => !xms ms p.1 p.2) = true) (hq : xOF τ h g ms (fun r _ h1 => A r ∧ xfd h1 55 8 = some (.int (L + 1))) r h') : xCO τ h g ms A (fun τ1 h1 => xCM h1 n st dn rf nr y (L + 1) wk) r h' := by
  obtain ⟨τ1, p, a1, a2, a3, a4⟩ := hq
  exact ⟨p.1, τ1, a1, a2, a3, a4, xCM_L hH a4 hk p.2 hc⟩
theorem xOF_xy {g : Nat} {A : Option Value → Prop} {r : Option Value} (hH : xHI xKT xSG τ h) (hc : xCX τ h n st dn rf nr y L wk) (hk : ([(0, 1), (0, 2), (27, 6), (34, 0), (1, 0), (207, 0), (207, 4), (207, 9)] : List (Nat × Nat)).all (fun p => !xms ms p.1 p.2) = true) (hq : xOF τ h g ms (fun r _ h1 => A r ∧ xfd h1 0 3 = some (.int (y + 1))) r h') : xCO τ h g ms A (fun τ1 h1 => xCX τ1 h1 n st dn rf nr (y + 1) L wk) r h' := by
  obtain ⟨τ1, p, a1, a2, a3, a4⟩ := hq
  obtain ⟨ad, hc⟩ := hc
  exact ⟨p.1, τ1, a1, a2, a3, a4, ad, xCXa_y hH a4 hk p.2 hc⟩
theorem xOF_my {g : Nat} {A : Option Value → Prop} {r : Option Value} (hH : xHI xKT xSG τ h) (hc : xCM h n st dn rf nr y L wk) (hk : ([(55, 6), (55, 10), (55, 8), (93, 0), (62, 0), (68, 0), (69, 0)] : List (Nat × Nat)).all (fun p => !xms ms p.1 p.2) = true) (hq : xOF τ h g ms (fun r _ h1 => A r ∧ xfd h1 55 5 = some (.int (y + 1))) r h') : xCO τ h g ms A (fun τ1 h1 => xCM h1 n st dn rf nr (y + 1) L wk) r h' := by
  obtain ⟨τ1, p, a1, a2, a3, a4⟩ := hq
  exact ⟨p.1, τ1, a1, a2, a3, a4, xCM_y hH a4 hk p.2 hc⟩
theorem xdn01X (hH : xHI xKT xSG τ h) (hc : xCXa ad τ h n st dn rf nr y L wk) {i : Nat} (hi : i < n) (h0 : ¬ dn i = 0) : dn i = 1 := by
  obtain ⟨-, -, -, -, -, -, hh, -⟩ := hc
  obtain ⟨-, g2, -, -, g5⟩ := hh i hi
  obtain ⟨fs, q1, q2, q3⟩ := xcf_o hH g2 (show xKT 207 = some (.inl (2, _)) from rfl)
  have g := xfd_obj q1 g5
  obtain ⟨x, hx, s1⟩ := q3 9 _ _ rfl g
  have hx := List.mem_singleton.mp hx
  subst hx
  obtain ⟨v, e, l1, l2⟩ := s1
  cases e
  have l1 : (0 : Int) ≤ (dn i).toInt := l1
  have l2 : (dn i).toInt ≤ (1 : Int) := l2
  have h0 : ¬ (dn i).toInt = 0 := fun z => h0 (Int32.toInt_inj.mp z)
  exact Int32.toInt_inj.mp (by show (dn i).toInt = 1; omega)
theorem xdn01M (hH : xHI xKT xSG τ h) (hc : xCM h n st dn rf nr y L wk) {i : Nat} (hi : i < n) (h0 : ¬ dn i = 0) : dn i = 1 := by
  obtain ⟨-, -, -, -, -, -, hh, -⟩ := hc
  obtain ⟨-, -, g3⟩ := hh i hi
  obtain ⟨k, q1, q2, q3⟩ := xcf_a hH (hH.2.2 69 rfl) (show xKT 69 = some (.inr (3, 16, _)) from rfl)
  obtain ⟨k2, p1, -, p3, p4⟩ := xar_of hH (hH.2.2 69 rfl) (show xKT 69 = some (.inr (3, 16, _)) from rfl) g3
  have q1 : h[69]? = some (.inl (3, 16, k)) := q1
  rw [p1] at q1
  cases q1
  obtain ⟨q, hq, s1, -⟩ := q3 i p3
  rw [p4] at s1
  have hq := List.mem_singleton.mp hq
  subst hq
  obtain ⟨v, e, l1, l2⟩ := s1
  cases e
  have l1 : (0 : Int) ≤ (dn i).toInt := l1
  have l2 : (dn i).toInt ≤ (1 : Int) := l2
  have h0 : ¬ (dn i).toInt = 0 := fun z => h0 (Int32.toInt_inj.mp z)
  exact Int32.toInt_inj.mp (by show (dn i).toInt = 1; omega)
end XC1
