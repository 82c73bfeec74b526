/-! Houses, years, lines: piece 6 (made by a program) -/
section XC1
variable {og : Nat → Option zm_C} {τ τ' : List Nat} {h h' : zm_H} {ms : List (Nat × Nat)} {ad : Nat → Nat} {n : Nat} {st dn rf : Nat → Int32} {nr y L : Int32} {wk : Nat → Int32}
theorem xOF_weak {l l2 : List (Nat × Nat)} {g : Nat} {P : Option Value → List Nat → zm_H → Prop} {r : Option Value} (hl : l.all (fun q => xms l2 q.1 q.2) = true) (hq : xOF τ h g l P r h') : xOF τ h g l2 P r h' := by
  obtain ⟨τ1, a1, a2, a3, a4, a5⟩ := hq
  exact ⟨τ1, a1, a2, a3, a4, xF_weak a5 (xmsS hl)⟩
theorem zc_count {tt b : Nat} {y w : Int32} (ht : tt = 16 ∨ τ[tt]? = some 200) (hb : τ[b]? = some 207) (hH : xHI xKT xSG τ h) (hX : xX τ h) : zm_Y og 12 85 0 [(0, .ref 7), (1, .ref tt), (2, .ref b), (3, .int y), (4, .int w)] [] h (xOF τ h 0 [(23, 0), (24, 0)] (fun r _ _ => ∃ i : Int32, r = some (.int i))) := by
  rcases ht with rfl | ht
  · exact ((zc_countN hb hH hX).deep (Nat.le_of_ble_eq_true rfl)).mono (fun r h' hq => xOF_weak rfl hq)
  · exact ((zc_countT ht hb hH hX).deep (Nat.le_of_ble_eq_true rfl)).mono (fun r h' hq => xOF_weak rfl hq)
theorem xtt {tt : Nat} (hf : xF (xms ms) τ h τ' h') (ht : tt = 16 ∨ τ[tt]? = some 200) : tt = 16 ∨ τ'[tt]? = some 200 := by
  rcases ht with rfl | ht
  · exact Or.inl rfl
  · obtain ⟨s, rfl⟩ := hf.1
    exact Or.inr (xgl ht)
theorem xLc {L : Int32} {c : Nat} (h0 : 0 ≤ L.toInt) (h1 : L.toInt + (c : Int) ≤ 100000) : (L + Int32.ofNat c).toInt = L.toInt + (c : Int) := by
  have ea : xI32a = -2147483648 := rfl
  have eb : xI32b = 2147483647 := rfl
  rw [Int32.toInt_add, (xofn (k := c) (by omega)).1, xb_bm32 (by omega) (by omega)]
theorem xryX (hH : xHI xKT xSG τ h) (f3 : xfd h 0 3 = some (.int y)) : 0 ≤ y.toInt ∧ y.toInt ≤ 99 := by
  obtain ⟨i, e, l1, l2⟩ := xfo_int (k := 0) (f := 3) hH rfl rfl rfl
  rw [f3] at e
  cases e
  exact ⟨l1, l2⟩
theorem xryM (hH : xHI xKT xSG τ h) (f3 : xfd h 55 5 = some (.int y)) : 0 ≤ y.toInt ∧ y.toInt ≤ 99 := by
  obtain ⟨i, e, l1, l2⟩ := xfo_int (k := 55) (f := 5) hH rfl rfl rfl
  rw [f3] at e
  cases e
  exact ⟨l1, l2⟩
theorem xrLX (hH : xHI xKT xSG τ h) (f4 : xfd h 27 6 = some (.int L)) : 0 ≤ L.toInt ∧ L.toInt ≤ 1200 := by
  obtain ⟨i, e, l1, l2⟩ := xfo_int (k := 27) (f := 6) hH rfl rfl rfl
  rw [f4] at e
  cases e
  exact ⟨l1, l2⟩
theorem xrLM (hH : xHI xKT xSG τ h) (f4 : xfd h 55 8 = some (.int L)) : 0 ≤ L.toInt ∧ L.toInt ≤ 1200 := by
  obtain ⟨i, e, l1, l2⟩ := xfo_int (k := 55) (f := 8) hH rfl rfl rfl
  rw [f4] at e
  cases e
  exact ⟨l1, l2⟩
end XC1
