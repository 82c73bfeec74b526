/-! PLACES and PAIRS: piece 17 (made by a program) -/
section XR2
set_option maxRecDepth 100000
variable {og : Nat → Option zm_C} {τ τ' : List Nat} {h h' : zm_H} {ms : List (Nat × Nat)} {rp : Nat → Nat} {wd sz : Nat → Int32} {nm : Nat → Nat → Int64}
/-- what both sides hold of PLACES -/
def xRR (τ : List Nat) (h : zm_H) : Prop := ∃ (wd sz : Nat → Int32) (nm : Nat → Nat → Int64) (pl : Int32) (pr : Nat → Int32), xRX τ h wd sz nm ∧ xRM h wd sz nm ∧ (0 ≤ pl.toInt ∧ pl.toInt ≤ 60) ∧ xPRX h pl pr ∧ xPRM h pl pr
theorem xRR_F (hH : xHI xKT xSG τ h) (hf : xF (xms ms) τ h τ' h') (hk : ([(51, 0), (52, 0), (46, 0), (211, 0)] : List (Nat × Nat)).all (fun p => !xms ms p.1 p.2) = true ∧ ([(56, 0), (57, 0), (58, 0)] : List (Nat × Nat)).all (fun p => !xms ms p.1 p.2) = true ∧ ([(45, 4), (53, 0)] : List (Nat × Nat)).all (fun p => !xms ms p.1 p.2) = true ∧ ([(55, 108), (116, 0)] : List (Nat × Nat)).all (fun p => !xms ms p.1 p.2) = true) (hR : xRR τ h) : xRR τ' h' := by
  obtain ⟨wd, sz, nm, pl, pr, h1, h2, h3, h4, h5⟩ := hR
  exact ⟨wd, sz, nm, pl, pr, xRX_F hH hf hk.1 h1, xRM_F hH hf hk.2.1 h2, h3, xPRX_F hH hf hk.2.2.1 h4, xPRM_F hH hf hk.2.2.2 h5⟩
/-! The fresh heap -/
def zf_ckR (c : Bool) : Bool := match zf_r2 c with
  | some (none, h) => (decide (xfd h 45 4 = some (.int 0)) && decide (xfd h 55 108 = some (.int 0))) && (List.range 4).all (fun j => decide (xar h 51 j = some (.int (-1))) && (decide (xar h 52 j = some (.int 0)) && (decide (xar h 46 j = some (.ref (47 + j))) && (decide (xar h 56 j = some (.int (-1))) && (decide (xar h 57 j = some (.int 0)) && (List.range 60).all (fun i => decide (xar h (47 + j) i = some (.long 0)) && decide (xar h 58 (60 * j + i) = some (.long 0))))))))
  | _ => false
set_option maxRecDepth 100000 in
theorem zf_ckR_ok : zf_ckR false = true ∧ zf_ckR true = true := by decide +kernel
theorem zf_freshR (og : Nat → Option zm_C) (c : Bool) (ho : og 95 = zf_og c 95) : ∃ h1 h2 : zm_H, h1.length = 55 ∧ xHI xKT xSG zf_t h2 ∧ xX zf_t h2 ∧ xRR zf_t h2 ∧ xW h2 = 73441 ∧ zm_Y og 10 0 0 [(0, .ref 0)] [] [.inr (10, zm_df 10)] (fun r h => r = none ∧ h = h1) ∧ zm_Y og 10 180 0 [(0, .ref 55)] [] (h1 ++ [.inr (11, zm_df 11)]) (fun r h => r = none ∧ h = h2) := by
  have a : zf_ck1 c = true := by cases c; exact zf_ck1_ok.1; exact zf_ck1_ok.2
  have b : zf_ck2 c = true := by cases c; exact zf_ck2_ok.1; exact zf_ck2_ok.2
  have d : zf_ckR c = true := by cases c; exact zf_ckR_ok.1; exact zf_ckR_ok.2
  have hol : zm_ol (zf_og c) og := by
    refine ⟨fun j d hj => ?_, ho⟩
    by_cases h9 : j = 95
    · subst h9
      rw [ho]
      exact hj
    · simp [zf_og, h9] at hj
  unfold zf_ck1 at a
  split at a
  · rename_i h1 e1
    unfold zf_ck2 zf_r2 at b
    unfold zf_ckR zf_r2 at d
    rw [e1] at b d
    dsimp only at b d
    split at b
    · rename_i h2 e2
      rw [e2] at d
      dsimp only at d
      simp only [Bool.and_eq_true, decide_eq_true_eq] at b
      have hH := xckh_ok b.1
      rw [Bool.and_eq_true, Bool.and_eq_true, decide_eq_true_eq, decide_eq_true_eq] at d
      have d9 : ∀ j, j < 4 → xar h2 51 j = some (.int (-1)) ∧ xar h2 52 j = some (.int 0) ∧ xar h2 46 j = some (.ref (47 + j)) ∧ xar h2 56 j = some (.int (-1)) ∧ xar h2 57 j = some (.int 0) ∧ ∀ i, i < 60 → xar h2 (47 + j) i = some (.long 0) ∧ xar h2 58 (60 * j + i) = some (.long 0) := fun j hj => by
        have := List.all_eq_true.mp d.2 j (List.mem_range.mpr hj)
        simp only [Bool.and_eq_true, decide_eq_true_eq] at this
        refine ⟨this.1, this.2.1, this.2.2.1, this.2.2.2.1, this.2.2.2.2.1, fun i hi => ?_⟩
        have t2 := List.all_eq_true.mp this.2.2.2.2.2 i (List.mem_range.mpr hi)
        simp only [Bool.and_eq_true, decide_eq_true_eq] at t2
        exact t2
      refine ⟨h1, h2, of_decide_eq_true a, hH, xckx_ok hH b.2.1, ⟨fun _ => -1, fun _ => 0, fun _ _ => 0, 0, fun _ => 0, ⟨fun j => 47 + j, fun j hj => ?_, fun i j _ _ e => by have e : 47 + i = 47 + j := e; omega⟩, fun j hj => ⟨(d9 j hj).2.2.2.1, (d9 j hj).2.2.2.2.1, fun i hi => ((d9 j hj).2.2.2.2.2 i hi).2⟩, ⟨Int.le_refl _, by decide⟩, ⟨d.1.1, fun q hq => absurd hq (by have e : (0 : Int32).toInt = 0 := rfl; omega)⟩, ⟨d.1.2, fun q hq => absurd hq (by have e : (0 : Int32).toInt = 0 := rfl; omega)⟩⟩, b.2.2, ?_, ?_⟩
      · have q := d9 j hj
        refine ⟨q.1, q.2.1, q.2.2.1, ?_, fun i hi => (q.2.2.2.2.2 i hi).1⟩
        rcases (show j = 0 ∨ j = 1 ∨ j = 2 ∨ j = 3 by omega) with rfl | rfl | rfl | rfl <;> rfl
      · exact zm_Y.old (og := zf_og c) ⟨2000, none, h1, e1, rfl, rfl⟩ hol
      · exact zm_Y.old (og := zf_og c) ⟨2000, none, h2, e2, rfl, rfl⟩ hol
    · cases b
  · cases a
end XR2
