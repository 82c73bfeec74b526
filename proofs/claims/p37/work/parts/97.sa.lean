/-! What both sides hold of PLACES (made by a program) -/
def xRXa (rp : Nat → Nat) (τ : List Nat) (h : zm_H) (wd sz : Nat → Int32) (nm : Nat → Nat → Int64) : Prop := (∀ j, j < 4 → xar h 51 j = some (.int (wd j)) ∧ xar h 52 j = some (.int (sz j)) ∧ xar h 46 j = some (.ref (rp j)) ∧ τ[rp j]? = some 211 ∧ ∀ i, i < 60 → xar h (rp j) i = some (.long (nm j i))) ∧ ∀ i j, i < 4 → j < 4 → rp i = rp j → i = j
def xRX (τ : List Nat) (h : zm_H) (wd sz : Nat → Int32) (nm : Nat → Nat → Int64) : Prop := ∃ rp : Nat → Nat, xRXa rp τ h wd sz nm
def xRM (h : zm_H) (wd sz : Nat → Int32) (nm : Nat → Nat → Int64) : Prop := ∀ j, j < 4 → xar h 56 j = some (.int (wd j)) ∧ xar h 57 j = some (.int (sz j)) ∧ ∀ i, i < 60 → xar h 58 (60 * j + i) = some (.long (nm j i))
def updN (f : Nat → Nat → Int64) (j i : Nat) (v : Int64) : Nat → Nat → Int64 := fun a b => if a = j ∧ b = i then v else f a b
section XR2
variable {og : Nat → Option zm_C} {τ τ' : List Nat} {h h' : zm_H} {ms : List (Nat × Nat)} {rp : Nat → Nat} {wd sz : Nat → Int32} {nm : Nat → Nat → Int64}
theorem xar_F {a kd j : Nat} {v : Value} (hf : xF (xms ms) τ h τ' h') (k1 : τ[a]? = some kd) (k2 : xms ms kd 0 = false) (k3 : xar h a j = some v) : xar h' a j = some v := by
  unfold xar at k3 ⊢
  split at k3
  · rename_i c hc
    rw [hf.2.2 a kd c k1 k2 hc]
    exact k3
  · cases k3
theorem xnat (a : Int32) (ha : 0 ≤ a.toInt) : a.toInt = ((a.toInt.toNat : Nat) : Int) := (Int.toNat_of_nonneg ha).symm
theorem xne211 {a k : Nat} (hH : xHI xKT xSG τ h) (ha : τ[a]? = some 211) (hk : xSG k = true) : a ≠ k := by
  rintro rfl
  rw [hH.2.2 _ hk] at ha
  cases ha
  revert hk
  decide
/-- what an operation leaves -/
def xCO (τ : List Nat) (h : zm_H) (g : Nat) (ms : List (Nat × Nat)) (P : Option Value → Prop) (R : List Nat → zm_H → Prop) (r : Option Value) (h' : zm_H) : Prop := P r ∧ ∃ τ', xHI xKT xSG τ' h' ∧ xX τ' h' ∧ xW h' ≤ xW h + g ∧ xF (xms ms) τ h τ' h' ∧ R τ' h'
theorem xCO_tr {τ1 : List Nat} {h1 : zm_H} {g g1 g2 : Nat} {P : Option Value → Prop} {R : List Nat → zm_H → Prop} {r : Option Value} (hf : xF (xms ms) τ h τ1 h1) (hw : xW h1 ≤ xW h + g1) (hg : g1 + g2 ≤ g) (hq : xCO τ1 h1 g2 ms P R r h') : xCO τ h g ms P R r h' := by
  obtain ⟨p, τ2, a1, a2, a3, a4, a5⟩ := hq
  exact ⟨p, τ2, a1, a2, by omega, xF_trans hf a4, a5⟩
theorem xmsS {l l2 : List (Nat × Nat)} (h : l.all (fun q => xms l2 q.1 q.2) = true) : ∀ k f, xms l k f = true → xms l2 k f = true := by
  intro k f e
  obtain ⟨q, hq, e2⟩ := List.any_eq_true.mp e
  have e3 := Bool.and_eq_true_iff.mp e2
  have := List.all_eq_true.mp h q hq
  rwa [Nat.eq_of_beq_eq_true e3.1, Nat.eq_of_beq_eq_true e3.2] at this
theorem xRXa_F (hH : xHI xKT xSG τ h) (hf : xF (xms ms) τ h τ' h') (hk : ([(51, 0), (52, 0), (46, 0), (211, 0)] : List (Nat × Nat)).all (fun p => !xms ms p.1 p.2) = true) (hc : xRXa rp τ h wd sz nm) : xRXa rp τ' h' wd sz nm := by
  have hm : ∀ p ∈ ([(51, 0), (52, 0), (46, 0), (211, 0)] : List (Nat × Nat)), xms ms p.1 p.2 = false := fun p hp => by
    have := List.all_eq_true.mp hk p hp
    simpa using this
  obtain ⟨s, hs⟩ := hf.1
  refine ⟨fun j hj => ?_, hc.2⟩
  obtain ⟨g1, g2, g3, g4, g5⟩ := hc.1 j hj
  exact ⟨xar_F hf (hH.2.2 51 rfl) (hm (51, 0) (by simp)) g1, xar_F hf (hH.2.2 52 rfl) (hm (52, 0) (by simp)) g2, xar_F hf (hH.2.2 46 rfl) (hm (46, 0) (by simp)) g3, by rw [hs]; exact xgl g4, fun i hi => xar_F hf g4 (hm (211, 0) (by simp)) (g5 i hi)⟩
theorem xRX_F (hH : xHI xKT xSG τ h) (hf : xF (xms ms) τ h τ' h') (hk : ([(51, 0), (52, 0), (46, 0), (211, 0)] : List (Nat × Nat)).all (fun p => !xms ms p.1 p.2) = true) (hc : xRX τ h wd sz nm) : xRX τ' h' wd sz nm := by
  obtain ⟨rp, hc⟩ := hc
  exact ⟨rp, xRXa_F hH hf hk hc⟩
theorem xRM_F (hH : xHI xKT xSG τ h) (hf : xF (xms ms) τ h τ' h') (hk : ([(56, 0), (57, 0), (58, 0)] : List (Nat × Nat)).all (fun p => !xms ms p.1 p.2) = true) (hc : xRM h wd sz nm) : xRM h' wd sz nm := by
  have hm : ∀ p ∈ ([(56, 0), (57, 0), (58, 0)] : List (Nat × Nat)), xms ms p.1 p.2 = false := fun p hp => by
    have := List.all_eq_true.mp hk p hp
    simpa using this
  intro j hj
  obtain ⟨g1, g2, g3⟩ := hc j hj
  exact ⟨xar_F hf (hH.2.2 56 rfl) (hm (56, 0) (by simp)) g1, xar_F hf (hH.2.2 57 rfl) (hm (57, 0) (by simp)) g2, fun i hi => xar_F hf (hH.2.2 58 rfl) (hm (58, 0) (by simp)) (g3 i hi)⟩
theorem xRXa_wd {i : Nat} {v : Int32} (hH : xHI xKT xSG τ h) (hc : xRXa rp τ h wd sz nm) (hg : xag [(1, 51, i)] h h') (hs : xar h' 51 i = some (.int v)) : xRXa rp τ h' (upd wd i v) sz nm := by
  refine ⟨fun j hj => ?_, hc.2⟩
  obtain ⟨g1, g2, g3, g4, g5⟩ := hc.1 j hj
  have h51 := xne211 hH g4 (k := 51) rfl
  refine ⟨?_, hg.2 _ _ _ (by simp) g2, hg.2 _ _ _ (by simp) g3, g4, fun i hi => hg.2 _ _ _ (by simp [h51]) (g5 i hi)⟩
  by_cases e : j = i
  · subst e
    rw [show upd wd j v j = v from if_pos rfl]
    exact hs
  · rw [show upd wd i v j = wd j from if_neg e]
    exact hg.2 _ _ _ (by simp [e]) g1
theorem xRXa_sz {i : Nat} {v : Int32} (hH : xHI xKT xSG τ h) (hc : xRXa rp τ h wd sz nm) (hg : xag [(1, 52, i)] h h') (hs : xar h' 52 i = some (.int v)) : xRXa rp τ h' wd (upd sz i v) nm := by
  refine ⟨fun j hj => ?_, hc.2⟩
  obtain ⟨g1, g2, g3, g4, g5⟩ := hc.1 j hj
  have h52 := xne211 hH g4 (k := 52) rfl
  refine ⟨hg.2 _ _ _ (by simp) g1, ?_, hg.2 _ _ _ (by simp) g3, g4, fun i hi => hg.2 _ _ _ (by simp [h52]) (g5 i hi)⟩
  by_cases e : j = i
  · subst e
    rw [show upd sz j v j = v from if_pos rfl]
    exact hs
  · rw [show upd sz i v j = sz j from if_neg e]
    exact hg.2 _ _ _ (by simp [e]) g2
theorem xRXa_nm {p i : Nat} {v : Int64} (hH : xHI xKT xSG τ h) (hc : xRXa rp τ h wd sz nm) (hp : p < 4) (hg : xag [(1, rp p, i)] h h') (hs : xar h' (rp p) i = some (.long v)) : xRXa rp τ h' wd sz (updN nm p i v) := by
  have q4 := (hc.1 p hp).2.2.2.1
  have n51 := Ne.symm (xne211 hH q4 (k := 51) rfl)
  have n52 := Ne.symm (xne211 hH q4 (k := 52) rfl)
  have n46 := Ne.symm (xne211 hH q4 (k := 46) rfl)
  refine ⟨fun j hj => ?_, hc.2⟩
  obtain ⟨g1, g2, g3, g4, g5⟩ := hc.1 j hj
  refine ⟨hg.2 _ _ _ (by simp [n51]) g1, hg.2 _ _ _ (by simp [n52]) g2, hg.2 _ _ _ (by simp [n46]) g3, g4, fun b hb => ?_⟩
  by_cases e : j = p ∧ b = i
  · obtain ⟨rfl, rfl⟩ := e
    rw [show updN nm j b v j b = v from if_pos ⟨rfl, rfl⟩]
    exact hs
  · rw [show updN nm p i v j b = nm j b from if_neg e]
    refine hg.2 _ _ _ ?_ (g5 b hb)
    have e2 : ¬ (rp j = rp p ∧ b = i) := fun z => e ⟨hc.2 _ _ hj hp z.1, z.2⟩
    simp only [List.mem_singleton, Prod.mk.injEq, true_and]
    exact e2
theorem xRM_wd {i : Nat} {v : Int32} (hc : xRM h wd sz nm) (hg : xag [(1, 56, i)] h h') (hs : xar h' 56 i = some (.int v)) : xRM h' (upd wd i v) sz nm := by
  intro j hj
  obtain ⟨g1, g2, g3⟩ := hc j hj
  refine ⟨?_, hg.2 _ _ _ (by simp) g2, fun i hi => hg.2 _ _ _ (by simp) (g3 i hi)⟩
  by_cases e : j = i
  · subst e
    rw [show upd wd j v j = v from if_pos rfl]
    exact hs
  · rw [show upd wd i v j = wd j from if_neg e]
    exact hg.2 _ _ _ (by simp [e]) g1
theorem xRM_sz {i : Nat} {v : Int32} (hc : xRM h wd sz nm) (hg : xag [(1, 57, i)] h h') (hs : xar h' 57 i = some (.int v)) : xRM h' wd (upd sz i v) nm := by
  intro j hj
  obtain ⟨g1, g2, g3⟩ := hc j hj
  refine ⟨hg.2 _ _ _ (by simp) g1, ?_, fun i hi => hg.2 _ _ _ (by simp) (g3 i hi)⟩
  by_cases e : j = i
  · subst e
    rw [show upd sz j v j = v from if_pos rfl]
    exact hs
  · rw [show upd sz i v j = sz j from if_neg e]
    exact hg.2 _ _ _ (by simp [e]) g2
theorem xRM_nm {p i : Nat} {v : Int64} (hc : xRM h wd sz nm) (hi : i < 60) (hg : xag [(1, 58, 60 * p + i)] h h') (hs : xar h' 58 (60 * p + i) = some (.long v)) : xRM h' wd sz (updN nm p i v) := by
  intro j hj
  obtain ⟨g1, g2, g3⟩ := hc j hj
  refine ⟨hg.2 _ _ _ (by simp) g1, hg.2 _ _ _ (by simp) g2, fun b hb => ?_⟩
  by_cases e : j = p ∧ b = i
  · obtain ⟨rfl, rfl⟩ := e
    rw [show updN nm j b v j b = v from if_pos ⟨rfl, rfl⟩]
    exact hs
  · rw [show updN nm p i v j b = nm j b from if_neg e]
    refine hg.2 _ _ _ ?_ (g3 b hb)
    have e2 : ¬ 60 * j + b = 60 * p + i := fun z => e (by omega)
    simp only [List.mem_singleton, Prod.mk.injEq, true_and]
    exact e2
theorem xrw (hH : xHI xKT xSG τ h) (hc : xRX τ h wd sz nm) {j : Nat} (hj : j < 4) : (-1 ≤ (wd j).toInt ∧ (wd j).toInt ≤ 3) ∧ 0 ≤ (sz j).toInt ∧ (sz j).toInt ≤ 60 := by
  obtain ⟨rp, hc⟩ := hc
  obtain ⟨g1, g2, -, -, -⟩ := hc.1 j hj
  refine ⟨?_, ?_⟩
  · obtain ⟨k, q1, q2, q3⟩ := xcf_a hH (hH.2.2 51 rfl) (show xKT 51 = some (.inr (0, 4, _)) from rfl)
    obtain ⟨k2, p1, -, p3, p4⟩ := xar_of hH (hH.2.2 51 rfl) (show xKT 51 = some (.inr (0, 4, _)) from rfl) g1
    have q1 : h[51]? = some (.inl (0, 4, k)) := q1
    rw [p1] at q1
    cases q1
    obtain ⟨q, hq, s1, -⟩ := q3 j p3
    rw [p4] at s1
    have hq := List.mem_singleton.mp hq
    subst hq
    obtain ⟨v, e, l1, l2⟩ := s1
    cases e
    exact ⟨l1, l2⟩
  · obtain ⟨k, q1, q2, q3⟩ := xcf_a hH (hH.2.2 52 rfl) (show xKT 52 = some (.inr (0, 4, _)) from rfl)
    obtain ⟨k2, p1, -, p3, p4⟩ := xar_of hH (hH.2.2 52 rfl) (show xKT 52 = some (.inr (0, 4, _)) from rfl) g2
    have q1 : h[52]? = some (.inl (0, 4, k)) := q1
    rw [p1] at q1
    cases q1
    obtain ⟨q, hq, s1, -⟩ := q3 j p3
    rw [p4] at s1
    have hq := List.mem_singleton.mp hq
    subst hq
    obtain ⟨v, e, l1, l2⟩ := s1
    cases e
    exact ⟨l1, l2⟩
end XR2
