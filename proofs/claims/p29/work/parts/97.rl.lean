/-! Houses, years, lines: piece 11 (made by a program) -/
section XC1
variable {og : Nat → Option zm_C} {τ τ' : List Nat} {h h' : zm_H} {ms : List (Nat × Nat)} {ad : Nat → Nat} {n : Nat} {st dn rf : Nat → Int32} {nr y L : Int32} {wk : Nat → Int32}
/-- what both sides hold of houses, years and lines -/
def xRR (τ : List Nat) (h : zm_H) : Prop := ∃ (n : Nat) (st dn rf : Nat → Int32) (nr y L : Int32) (wk : Nat → Int32), xCX τ h n st dn rf nr y L wk ∧ xCM h n st dn rf nr y L wk
theorem xRR_F (hH : xHI xKT xSG τ h) (hf : xF (xms ms) τ h τ' h') (hk : ([(0, 1), (0, 2), (0, 3), (27, 6), (34, 0), (1, 0), (207, 0), (207, 4), (207, 9)] : List (Nat × Nat)).all (fun p => !xms ms p.1 p.2) = true ∧ ([(55, 6), (55, 10), (55, 5), (55, 8), (93, 0), (62, 0), (68, 0), (69, 0)] : List (Nat × Nat)).all (fun p => !xms ms p.1 p.2) = true) (hR : xRR τ h) : xRR τ' h' := by
  obtain ⟨n, st, dn, rf, nr, y, L, wk, h1, h2⟩ := hR
  exact ⟨n, st, dn, rf, nr, y, L, wk, xCX_F hH hf hk.1 h1, xCM_F hH hf hk.2 h2⟩
theorem xRR_r (hH : xHI xKT xSG τ h) (hc : xCX τ h n st dn rf nr y L wk) : n ≤ 16 ∧ (0 ≤ y.toInt ∧ y.toInt ≤ 99) ∧ 0 ≤ L.toInt ∧ L.toInt ≤ 1200 := by
  obtain ⟨ad, hn, f1, f2, f3, f4, -, -, -⟩ := hc
  exact ⟨hn, xryX hH f3, xrLX hH f4⟩
/-! The fresh heap -/
def zf_ckR (c : Bool) : Bool := match zf_r2 c with
  | some (none, h) => (decide (xfd h 0 1 = some (.int 0)) && decide (xfd h 0 2 = some (.int 0)) && decide (xfd h 0 3 = some (.int 0)) && decide (xfd h 27 6 = some (.int 0))) && ((decide (xfd h 55 6 = some (.int 0)) && decide (xfd h 55 10 = some (.int 0)) && decide (xfd h 55 5 = some (.int 0)) && decide (xfd h 55 8 = some (.int 0))) && (List.range 16).all (fun j => decide (xar h 34 j = some (.int 0)) && (decide (xar h 93 j = some (.int (-1))) && decide (xar h 69 j = some (.int 0)))))
  | _ => false
set_option maxRecDepth 100000 in
theorem zf_ckR_ok : zf_ckR false = true ∧ zf_ckR true = true := by decide +kernel
theorem zf_freshR (og : Nat → Option zm_C) (c : Bool) (ho : og 95 = zf_og c 95) : ∃ h1 h2 : zm_H, h1.length = 55 ∧ xHI xKT xSG zf_t h2 ∧ xX zf_t h2 ∧ xRR zf_t h2 ∧ xW h2 = 73441 ∧ zm_Y og 10 0 0 [(0, .ref 0)] [] [.inr (10, zm_df 10)] (fun r h => r = none ∧ h = h1) ∧ zm_Y og 10 180 0 [(0, .ref 55)] [] (h1 ++ [.inr (11, zm_df 11)]) (fun r h => r = none ∧ h = h2) := by
  have a : zf_ck1 c = true := by cases c; exact zf_ck1_ok.1; exact zf_ck1_ok.2
  have b : zf_ck2 c = true := by cases c; exact zf_ck2_ok.1; exact zf_ck2_ok.2
  have d : zf_ckR c = true := by cases c; exact zf_ckR_ok.1; exact zf_ckR_ok.2
  have hol : zm_ol (zf_og c) og := by
    refine ⟨fun j d hj => ?_, ho⟩
    by_cases h9 : j = 95
    · subst h9
      rw [ho]
      exact hj
    · simp [zf_og, h9] at hj
  unfold zf_ck1 at a
  split at a
  · rename_i h1 e1
    unfold zf_ck2 zf_r2 at b
    unfold zf_ckR zf_r2 at d
    rw [e1] at b d
    dsimp only at b d
    split at b
    · rename_i h2 e2
      rw [e2] at d
      dsimp only at d
      simp only [Bool.and_eq_true, decide_eq_true_eq] at b d
      have hH := xckh_ok b.1
      obtain ⟨⟨⟨⟨d1, d2⟩, d3⟩, d4⟩, ⟨⟨⟨d5, d6⟩, d7⟩, d8⟩, d9⟩ := d
      have d9 : ∀ j, j < 16 → xar h2 34 j = some (.int 0) ∧ xar h2 93 j = some (.int (-1)) ∧ xar h2 69 j = some (.int 0) := fun j hj => by
        have := List.all_eq_true.mp d9 j (List.mem_range.mpr hj)
        simp only [Bool.and_eq_true, decide_eq_true_eq] at this
        exact this
      refine ⟨h1, h2, of_decide_eq_true a, hH, xckx_ok hH b.2.1, ⟨0, fun _ => 0, fun _ => 0, fun _ => 0, 0, 0, 0, fun _ => -1, ⟨fun _ => 0, by omega, d1, d2, d3, d4, fun j hj => (show xar h2 34 j = some (.int ((-1 : Int32) + 1)) from by rw [show (-1 : Int32) + 1 = 0 by decide]; exact (d9 j hj).1), fun i hi => absurd hi (Nat.not_lt_zero i), fun i j hi => absurd hi (Nat.not_lt_zero i)⟩, by omega, d5, d6, d7, d8, fun j hj => (d9 j hj).2.1, fun i hi => absurd hi (Nat.not_lt_zero i), fun i _ hi => (d9 i hi).2.2⟩, b.2.2, ?_, ?_⟩
      · exact zm_Y.old (og := zf_og c) ⟨2000, none, h1, e1, rfl, rfl⟩ hol
      · exact zm_Y.old (og := zf_og c) ⟨2000, none, h2, e2, rfl, rfl⟩ hol
    · cases b
  · cases a
end XC1
