/-! What both sides hold of houses, years, lines (made by a program) -/
abbrev xupb (n : Nat) (dn : Nat → Int32) (a : Int32) : Prop := 0 ≤ a.toInt ∧ a.toInt < (n : Int) ∧ dn a.toInt.toNat = 0
def xCXa (ad : Nat → Nat) (τ : List Nat) (h : zm_H) (n : Nat) (st dn rf : Nat → Int32) (nr y L : Int32) (wk : Nat → Int32) : Prop := n ≤ 16 ∧ xfd h 0 1 = some (.int (Int32.ofNat n)) ∧ xfd h 0 2 = some (.int nr) ∧ xfd h 0 3 = some (.int y) ∧ xfd h 27 6 = some (.int L) ∧ (∀ j, j < 16 → xar h 34 j = some (.int (wk j + 1))) ∧ (∀ i, i < n → xar h 1 i = some (.ref (ad i)) ∧ τ[ad i]? = some 207 ∧ xfd h (ad i) 0 = some (.int (st i)) ∧ xfd h (ad i) 4 = some (.int (rf i)) ∧ xfd h (ad i) 9 = some (.int (dn i))) ∧ ∀ i j, i < n → j < n → ad i = ad j → i = j
def xCX (τ : List Nat) (h : zm_H) (n : Nat) (st dn rf : Nat → Int32) (nr y L : Int32) (wk : Nat → Int32) : Prop := ∃ ad : Nat → Nat, xCXa ad τ h n st dn rf nr y L wk
def xCM (h : zm_H) (n : Nat) (st dn rf : Nat → Int32) (nr y L : Int32) (wk : Nat → Int32) : Prop := n ≤ 16 ∧ xfd h 55 6 = some (.int (Int32.ofNat n)) ∧ xfd h 55 10 = some (.int nr) ∧ xfd h 55 5 = some (.int y) ∧ xfd h 55 8 = some (.int L) ∧ (∀ j, j < 16 → xar h 93 j = some (.int (wk j))) ∧ (∀ i, i < n → xar h 62 i = some (.int (st i)) ∧ xar h 68 i = some (.int (rf i)) ∧ xar h 69 i = some (.int (dn i))) ∧ ∀ i, n ≤ i → i < 16 → xar h 69 i = some (.int 0)
section XC1
variable {og : Nat → Option zm_C} {τ τ' : List Nat} {h h' : zm_H} {ms : List (Nat × Nat)} {ad : Nat → Nat} {n : Nat} {st dn rf : Nat → Int32} {nr y L : Int32} {wk : Nat → Int32}
theorem xar_F {a kd j : Nat} {v : Value} (hf : xF (xms ms) τ h τ' h') (k1 : τ[a]? = some kd) (k2 : xms ms kd 0 = false) (k3 : xar h a j = some v) : xar h' a j = some v := by
  unfold xar at k3 ⊢
  split at k3
  · rename_i c hc
    rw [hf.2.2 a kd c k1 k2 hc]
    exact k3
  · cases k3
theorem xCXa_F (hH : xHI xKT xSG τ h) (hf : xF (xms ms) τ h τ' h') (hk : ([(0, 1), (0, 2), (0, 3), (27, 6), (34, 0), (1, 0), (207, 0), (207, 4), (207, 9)] : List (Nat × Nat)).all (fun p => !xms ms p.1 p.2) = true) (hc : xCXa ad τ h n st dn rf nr y L wk) : xCXa ad τ' h' n st dn rf nr y L wk := by
  have hm : ∀ p ∈ ([(0, 1), (0, 2), (0, 3), (27, 6), (34, 0), (1, 0), (207, 0), (207, 4), (207, 9)] : List (Nat × Nat)), xms ms p.1 p.2 = false := fun p hp => by
    have := List.all_eq_true.mp hk p hp
    simpa using this
  obtain ⟨h1, f1, f2, f3, f4, hw, hh, hi⟩ := hc
  obtain ⟨s, hs⟩ := hf.1
  refine ⟨h1, hf.2.1 0 0 1 _ (hH.2.2 0 rfl) (hm (0, 1) (by simp)) f1, hf.2.1 0 0 2 _ (hH.2.2 0 rfl) (hm (0, 2) (by simp)) f2, hf.2.1 0 0 3 _ (hH.2.2 0 rfl) (hm (0, 3) (by simp)) f3, hf.2.1 27 27 6 _ (hH.2.2 27 rfl) (hm (27, 6) (by simp)) f4, fun j hj => xar_F hf (hH.2.2 34 rfl) (hm (34, 0) (by simp)) (hw j hj), fun i hi' => ?_, hi⟩
  obtain ⟨g1, g2, g3, g4, g5⟩ := hh i hi'
  exact ⟨xar_F hf (hH.2.2 1 rfl) (hm (1, 0) (by simp)) g1, by rw [hs]; exact xgl g2, hf.2.1 _ _ _ _ g2 (hm (207, 0) (by simp)) g3, hf.2.1 _ _ _ _ g2 (hm (207, 4) (by simp)) g4, hf.2.1 _ _ _ _ g2 (hm (207, 9) (by simp)) g5⟩
theorem xCX_F (hH : xHI xKT xSG τ h) (hf : xF (xms ms) τ h τ' h') (hk : ([(0, 1), (0, 2), (0, 3), (27, 6), (34, 0), (1, 0), (207, 0), (207, 4), (207, 9)] : List (Nat × Nat)).all (fun p => !xms ms p.1 p.2) = true) (hc : xCX τ h n st dn rf nr y L wk) : xCX τ' h' n st dn rf nr y L wk := by
  obtain ⟨ad, hc⟩ := hc
  exact ⟨ad, xCXa_F hH hf hk hc⟩
theorem xCM_F (hH : xHI xKT xSG τ h) (hf : xF (xms ms) τ h τ' h') (hk : ([(55, 6), (55, 10), (55, 5), (55, 8), (93, 0), (62, 0), (68, 0), (69, 0)] : List (Nat × Nat)).all (fun p => !xms ms p.1 p.2) = true) (hc : xCM h n st dn rf nr y L wk) : xCM h' n st dn rf nr y L wk := by
  have hm : ∀ p ∈ ([(55, 6), (55, 10), (55, 5), (55, 8), (93, 0), (62, 0), (68, 0), (69, 0)] : List (Nat × Nat)), xms ms p.1 p.2 = false := fun p hp => by
    have := List.all_eq_true.mp hk p hp
    simpa using this
  obtain ⟨h1, f1, f2, f3, f4, hw, hh, hz⟩ := hc
  refine ⟨h1, hf.2.1 55 55 6 _ (hH.2.2 55 rfl) (hm (55, 6) (by simp)) f1, hf.2.1 55 55 10 _ (hH.2.2 55 rfl) (hm (55, 10) (by simp)) f2, hf.2.1 55 55 5 _ (hH.2.2 55 rfl) (hm (55, 5) (by simp)) f3, hf.2.1 55 55 8 _ (hH.2.2 55 rfl) (hm (55, 8) (by simp)) f4, fun j hj => xar_F hf (hH.2.2 93 rfl) (hm (93, 0) (by simp)) (hw j hj), fun i hi' => ?_, fun i k1 k2 => xar_F hf (hH.2.2 69 rfl) (hm (69, 0) (by simp)) (hz i k1 k2)⟩
  obtain ⟨g1, g2, g3⟩ := hh i hi'
  exact ⟨xar_F hf (hH.2.2 62 rfl) (hm (62, 0) (by simp)) g1, xar_F hf (hH.2.2 68 rfl) (hm (68, 0) (by simp)) g2, xar_F hf (hH.2.2 69 rfl) (hm (69, 0) (by simp)) g3⟩
theorem xsubN (hn : n ≤ 16) : (Int32.ofNat n - 1).toInt = (n : Int) - 1 := by
  have ea : xI32a = -2147483648 := rfl
  have eb : xI32b = 2147483647 := rfl
  rw [Int32.toInt_sub, (xofn (k := n) (by omega)).1, show (1 : Int32).toInt = 1 from rfl, xb_bm32 (by omega) (by omega)]
theorem xnat (a : Int32) (ha : 0 ≤ a.toInt) : a.toInt = ((a.toInt.toNat : Nat) : Int) := (Int.toNat_of_nonneg ha).symm
theorem xne207 {a k : Nat} (hH : xHI xKT xSG τ h) (ha : τ[a]? = some 207) (hk : xSG k = true) : a ≠ k := by
  rintro rfl
  rw [hH.2.2 _ hk] at ha
  cases ha
  revert hk
  decide
theorem xCXa_nr {v : Int32} (hH : xHI xKT xSG τ h) (hc : xCXa ad τ h n st dn rf nr y L wk) (hg : xag [(0, 0, 2)] h h') (hs : xfd h' 0 2 = some (.int v)) : xCXa ad τ h' n st dn rf v y L wk := by
  obtain ⟨hn, f1, f2, f3, f4, hw, hh, hj⟩ := hc
  refine ⟨hn, hg.1 _ _ _ (by simp) f1, hs, hg.1 _ _ _ (by simp) f3, hg.1 _ _ _ (by simp) f4, fun j hj => hg.2 _ _ _ (by simp) (hw j hj), fun i hi => ?_, hj⟩
  obtain ⟨k1, k2, k3, k4, k5⟩ := hh i hi
  exact ⟨hg.2 _ _ _ (by simp) k1, k2, hg.1 _ _ _ (by simp) k3, hg.1 _ _ _ (by simp) k4, hg.1 _ _ _ (by simp) k5⟩
theorem xCXa_rf {i : Nat} {v : Int32} (hH : xHI xKT xSG τ h) (hc : xCXa ad τ h n st dn rf nr y L wk) (hi : i < n) (hg : xag [(0, ad i, 4)] h h') (hs : xfd h' (ad i) 4 = some (.int v)) : xCXa ad τ h' n st dn (upd rf i v) nr y L wk := by
  obtain ⟨hn, f1, f2, f3, f4, hw, hh, hj⟩ := hc
  refine ⟨hn, hg.1 _ _ _ (by simp) f1, hg.1 _ _ _ (by simp) f2, hg.1 _ _ _ (by simp) f3, hg.1 _ _ _ (by simp) f4, fun j hj => hg.2 _ _ _ (by simp) (hw j hj), fun i2 hi2 => ?_, hj⟩
  obtain ⟨k1, k2, k3, k4, k5⟩ := hh i2 hi2
  refine ⟨hg.2 _ _ _ (by simp) k1, k2, hg.1 _ _ _ (by simp) k3, ?_, hg.1 _ _ _ (by simp) k5⟩
  by_cases e : i2 = i
  · subst e
    rw [show upd rf i2 v i2 = v from if_pos rfl]
    exact hs
  · rw [show upd rf i v i2 = rf i2 from if_neg e]
    have hne : ad i2 ≠ ad i := fun z => e (hj _ _ hi2 hi z)
    exact hg.1 _ _ _ (by simp [hne]) k4
theorem xCXa_dn {i : Nat} {v : Int32} (hH : xHI xKT xSG τ h) (hc : xCXa ad τ h n st dn rf nr y L wk) (hi : i < n) (hg : xag [(0, ad i, 9)] h h') (hs : xfd h' (ad i) 9 = some (.int v)) : xCXa ad τ h' n st (upd dn i v) rf nr y L wk := by
  obtain ⟨hn, f1, f2, f3, f4, hw, hh, hj⟩ := hc
  refine ⟨hn, hg.1 _ _ _ (by simp) f1, hg.1 _ _ _ (by simp) f2, hg.1 _ _ _ (by simp) f3, hg.1 _ _ _ (by simp) f4, fun j hj => hg.2 _ _ _ (by simp) (hw j hj), fun i2 hi2 => ?_, hj⟩
  obtain ⟨k1, k2, k3, k4, k5⟩ := hh i2 hi2
  refine ⟨hg.2 _ _ _ (by simp) k1, k2, hg.1 _ _ _ (by simp) k3, hg.1 _ _ _ (by simp) k4, ?_⟩
  by_cases e : i2 = i
  · subst e
    rw [show upd dn i2 v i2 = v from if_pos rfl]
    exact hs
  · rw [show upd dn i v i2 = dn i2 from if_neg e]
    have hne : ad i2 ≠ ad i := fun z => e (hj _ _ hi2 hi z)
    exact hg.1 _ _ _ (by simp [hne]) k5
theorem xCM_nr {v : Int32} (hc : xCM h n st dn rf nr y L wk) (hg : xag [(0, 55, 10)] h h') (hs : xfd h' 55 10 = some (.int v)) : xCM h' n st dn rf v y L wk := by
  obtain ⟨hn, f1, f2, f3, f4, hw, hh, hz⟩ := hc
  refine ⟨hn, hg.1 _ _ _ (by simp) f1, hs, hg.1 _ _ _ (by simp) f3, hg.1 _ _ _ (by simp) f4, fun j hj => hg.2 _ _ _ (by simp) (hw j hj), fun i hi => ?_, fun i k1 k2 => hg.2 _ _ _ (by simp) (hz i k1 k2)⟩
  obtain ⟨k1, k2, k3⟩ := hh i hi
  exact ⟨hg.2 _ _ _ (by simp) k1, hg.2 _ _ _ (by simp) k2, hg.2 _ _ _ (by simp) k3⟩
theorem xCM_rf {i : Nat} {v : Int32} (hc : xCM h n st dn rf nr y L wk) (hg : xag [(1, 68, i)] h h') (hs : xar h' 68 i = some (.int v)) : xCM h' n st dn (upd rf i v) nr y L wk := by
  obtain ⟨hn, f1, f2, f3, f4, hw, hh, hz⟩ := hc
  refine ⟨hn, hg.1 _ _ _ (by simp) f1, hg.1 _ _ _ (by simp) f2, hg.1 _ _ _ (by simp) f3, hg.1 _ _ _ (by simp) f4, fun j hj => hg.2 _ _ _ (by simp) (hw j hj), fun i2 hi => ?_, fun i k1 k2 => hg.2 _ _ _ (by simp) (hz i k1 k2)⟩
  obtain ⟨k1, k2, k3⟩ := hh i2 hi
  refine ⟨hg.2 _ _ _ (by simp) k1, ?_, hg.2 _ _ _ (by simp) k3⟩
  by_cases e : i2 = i
  · subst e
    rw [show upd rf i2 v i2 = v from if_pos rfl]
    exact hs
  · rw [show upd rf i v i2 = rf i2 from if_neg e]
    exact hg.2 _ _ _ (by simp [e]) k2
theorem xCM_dn {i : Nat} {v : Int32} (hc : xCM h n st dn rf nr y L wk) (hi : i < n) (hg : xag [(1, 69, i)] h h') (hs : xar h' 69 i = some (.int v)) : xCM h' n st (upd dn i v) rf nr y L wk := by
  obtain ⟨hn, f1, f2, f3, f4, hw, hh, hz⟩ := hc
  refine ⟨hn, hg.1 _ _ _ (by simp) f1, hg.1 _ _ _ (by simp) f2, hg.1 _ _ _ (by simp) f3, hg.1 _ _ _ (by simp) f4, fun j hj => hg.2 _ _ _ (by simp) (hw j hj), fun i2 hi => ?_, fun i2 k1 k2 => hg.2 _ _ _ (by simp; omega) (hz i2 k1 k2)⟩
  obtain ⟨k1, k2, k3⟩ := hh i2 hi
  refine ⟨hg.2 _ _ _ (by simp) k1, hg.2 _ _ _ (by simp) k2, ?_⟩
  by_cases e : i2 = i
  · subst e
    rw [show upd dn i2 v i2 = v from if_pos rfl]
    exact hs
  · rw [show upd dn i v i2 = dn i2 from if_neg e]
    exact hg.2 _ _ _ (by simp [e]) k3
/-- what an operation leaves -/
def xCO (τ : List Nat) (h : zm_H) (g : Nat) (ms : List (Nat × Nat)) (P : Option Value → Prop) (R : List Nat → zm_H → Prop) (r : Option Value) (h' : zm_H) : Prop := P r ∧ ∃ τ', xHI xKT xSG τ' h' ∧ xX τ' h' ∧ xW h' ≤ xW h + g ∧ xF (xms ms) τ h τ' h' ∧ R τ' h'
theorem xCO_tr {τ1 : List Nat} {h1 : zm_H} {g g1 g2 : Nat} {P : Option Value → Prop} {R : List Nat → zm_H → Prop} {r : Option Value} (hf : xF (xms ms) τ h τ1 h1) (hw : xW h1 ≤ xW h + g1) (hg : g1 + g2 ≤ g) (hq : xCO τ1 h1 g2 ms P R r h') : xCO τ h g ms P R r h' := by
  obtain ⟨p, τ2, a1, a2, a3, a4, a5⟩ := hq
  exact ⟨p, τ2, a1, a2, by omega, xF_trans hf a4, a5⟩
end XC1
