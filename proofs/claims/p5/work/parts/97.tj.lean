/-! ROOMS and OPENINGS (made by a program) -/
section XR5
set_option maxRecDepth 100000
variable {og : Nat → Option zm_C} {τ τ' : List Nat} {h h' : zm_H} {ms : List (Nat × Nat)} {ad rp : Nat → Nat} {n : Nat} {dn rc oc : Nat → Int32} {st rf : Nat → Int32} {nr y L : Int32} {wk : Nat → Int32} {wd sz : Nat → Int32} {nm : Nat → Nat → Int64}
/-! What both sides hold of houses, ROOMS and OPENINGS (made by a program) -/
def xHX (ad : Nat → Nat) (τ : List Nat) (h : zm_H) (n : Nat) (dn rc oc : Nat → Int32) : Prop := n ≤ 16 ∧ xfd h 0 1 = some (.int (Int32.ofNat n)) ∧ (∀ i, i < n → xar h 1 i = some (.ref (ad i)) ∧ τ[ad i]? = some 207 ∧ xfd h (ad i) 9 = some (.int (dn i)) ∧ xfd h (ad i) 5 = some (.int (rc i)) ∧ xfd h (ad i) 7 = some (.int (oc i))) ∧ ∀ i j, i < n → j < n → ad i = ad j → i = j
def xH5 (τ : List Nat) (h : zm_H) (n : Nat) (dn rc oc : Nat → Int32) : Prop := ∃ ad : Nat → Nat, xHX ad τ h n dn rc oc
def xHM (h : zm_H) (n : Nat) (dn rc oc : Nat → Int32) : Prop := n ≤ 16 ∧ xfd h 55 6 = some (.int (Int32.ofNat n)) ∧ (∀ i, i < 16 → xar h 69 i = some (.int (dn i)) ∧ xar h 66 i = some (.int (rc i)) ∧ xar h 67 i = some (.int (oc i))) ∧ ∀ i, n ≤ i → i < 16 → dn i = 0
theorem xHX_F (hH : xHI xKT xSG τ h) (hf : xF (xms ms) τ h τ' h') (hk : ([(0, 1), (1, 0), (207, 9), (207, 5), (207, 7)] : List (Nat × Nat)).all (fun p => !xms ms p.1 p.2) = true) (hc : xHX ad τ h n dn rc oc) : xHX ad τ' h' n dn rc oc := by
  have hm : ∀ p ∈ ([(0, 1), (1, 0), (207, 9), (207, 5), (207, 7)] : List (Nat × Nat)), xms ms p.1 p.2 = false := fun p hp => by
    have := List.all_eq_true.mp hk p hp
    simpa using this
  obtain ⟨h1, f1, hh, hi⟩ := hc
  obtain ⟨s, hs⟩ := hf.1
  refine ⟨h1, hf.2.1 0 0 1 _ (hH.2.2 0 rfl) (hm (0, 1) (by simp)) f1, fun i hi' => ?_, hi⟩
  obtain ⟨g1, g2, g3, g4, g5⟩ := hh i hi'
  exact ⟨xar_F hf (hH.2.2 1 rfl) (hm (1, 0) (by simp)) g1, by rw [hs]; exact xgl g2, hf.2.1 _ _ _ _ g2 (hm (207, 9) (by simp)) g3, hf.2.1 _ _ _ _ g2 (hm (207, 5) (by simp)) g4, hf.2.1 _ _ _ _ g2 (hm (207, 7) (by simp)) g5⟩
theorem xH5_F (hH : xHI xKT xSG τ h) (hf : xF (xms ms) τ h τ' h') (hk : ([(0, 1), (1, 0), (207, 9), (207, 5), (207, 7)] : List (Nat × Nat)).all (fun p => !xms ms p.1 p.2) = true) (hc : xH5 τ h n dn rc oc) : xH5 τ' h' n dn rc oc := by
  obtain ⟨ad, hc⟩ := hc
  exact ⟨ad, xHX_F hH hf hk hc⟩
theorem xHM_F (hH : xHI xKT xSG τ h) (hf : xF (xms ms) τ h τ' h') (hk : ([(55, 6), (69, 0), (66, 0), (67, 0)] : List (Nat × Nat)).all (fun p => !xms ms p.1 p.2) = true) (hc : xHM h n dn rc oc) : xHM h' n dn rc oc := by
  have hm : ∀ p ∈ ([(55, 6), (69, 0), (66, 0), (67, 0)] : List (Nat × Nat)), xms ms p.1 p.2 = false := fun p hp => by
    have := List.all_eq_true.mp hk p hp
    simpa using this
  obtain ⟨h1, f1, hh, hz⟩ := hc
  refine ⟨h1, hf.2.1 55 55 6 _ (hH.2.2 55 rfl) (hm (55, 6) (by simp)) f1, fun i hi' => ?_, hz⟩
  obtain ⟨g1, g2, g3⟩ := hh i hi'
  exact ⟨xar_F hf (hH.2.2 69 rfl) (hm (69, 0) (by simp)) g1, xar_F hf (hH.2.2 66 rfl) (hm (66, 0) (by simp)) g2, xar_F hf (hH.2.2 67 rfl) (hm (67, 0) (by simp)) g3⟩
theorem xif_0_2 {a : Nat} (hH : xHI xKT xSG τ h) (ha : τ[a]? = some 0) : ∃ v : Int32, xfd h a 2 = some (.int v) := by
  obtain ⟨fs, q1, q2, q3⟩ := xcf_o hH ha (show xKT 0 = some (.inl (10, _)) from rfl)
  have hl : fs.length = 16 := q2
  have g : fs[2]? = some fs[2] := List.getElem?_eq_getElem (by omega)
  obtain ⟨x, hx, s1⟩ := q3 2 _ _ rfl g
  have hx := List.mem_singleton.mp hx
  subst hx
  obtain ⟨v, e, -, -⟩ := s1
  rw [e] at g
  refine ⟨v, ?_⟩
  have q1 : h[a]? = some (.inr (10, fs)) := q1
  unfold xfd
  rw [q1]
  exact g
theorem xif_0_3 {a : Nat} (hH : xHI xKT xSG τ h) (ha : τ[a]? = some 0) : ∃ v : Int32, xfd h a 3 = some (.int v) := by
  obtain ⟨fs, q1, q2, q3⟩ := xcf_o hH ha (show xKT 0 = some (.inl (10, _)) from rfl)
  have hl : fs.length = 16 := q2
  have g : fs[3]? = some fs[3] := List.getElem?_eq_getElem (by omega)
  obtain ⟨x, hx, s1⟩ := q3 3 _ _ rfl g
  have hx := List.mem_singleton.mp hx
  subst hx
  obtain ⟨v, e, -, -⟩ := s1
  rw [e] at g
  refine ⟨v, ?_⟩
  have q1 : h[a]? = some (.inr (10, fs)) := q1
  unfold xfd
  rw [q1]
  exact g
theorem xif_27_6 {a : Nat} (hH : xHI xKT xSG τ h) (ha : τ[a]? = some 27) : ∃ v : Int32, xfd h a 6 = some (.int v) := by
  obtain ⟨fs, q1, q2, q3⟩ := xcf_o hH ha (show xKT 27 = some (.inl (4, _)) from rfl)
  have hl : fs.length = 9 := q2
  have g : fs[6]? = some fs[6] := List.getElem?_eq_getElem (by omega)
  obtain ⟨x, hx, s1⟩ := q3 6 _ _ rfl g
  have hx := List.mem_singleton.mp hx
  subst hx
  obtain ⟨v, e, -, -⟩ := s1
  rw [e] at g
  refine ⟨v, ?_⟩
  have q1 : h[a]? = some (.inr (4, fs)) := q1
  unfold xfd
  rw [q1]
  exact g
theorem xif_55_10 {a : Nat} (hH : xHI xKT xSG τ h) (ha : τ[a]? = some 55) : ∃ v : Int32, xfd h a 10 = some (.int v) := by
  obtain ⟨fs, q1, q2, q3⟩ := xcf_o hH ha (show xKT 55 = some (.inl (11, _)) from rfl)
  have hl : fs.length = 109 := q2
  have g : fs[10]? = some fs[10] := List.getElem?_eq_getElem (by omega)
  obtain ⟨x, hx, s1⟩ := q3 10 _ _ rfl g
  have hx := List.mem_singleton.mp hx
  subst hx
  obtain ⟨v, e, -, -⟩ := s1
  rw [e] at g
  refine ⟨v, ?_⟩
  have q1 : h[a]? = some (.inr (11, fs)) := q1
  unfold xfd
  rw [q1]
  exact g
theorem xif_55_5 {a : Nat} (hH : xHI xKT xSG τ h) (ha : τ[a]? = some 55) : ∃ v : Int32, xfd h a 5 = some (.int v) := by
  obtain ⟨fs, q1, q2, q3⟩ := xcf_o hH ha (show xKT 55 = some (.inl (11, _)) from rfl)
  have hl : fs.length = 109 := q2
  have g : fs[5]? = some fs[5] := List.getElem?_eq_getElem (by omega)
  obtain ⟨x, hx, s1⟩ := q3 5 _ _ rfl g
  have hx := List.mem_singleton.mp hx
  subst hx
  obtain ⟨v, e, -, -⟩ := s1
  rw [e] at g
  refine ⟨v, ?_⟩
  have q1 : h[a]? = some (.inr (11, fs)) := q1
  unfold xfd
  rw [q1]
  exact g
theorem xif_55_8 {a : Nat} (hH : xHI xKT xSG τ h) (ha : τ[a]? = some 55) : ∃ v : Int32, xfd h a 8 = some (.int v) := by
  obtain ⟨fs, q1, q2, q3⟩ := xcf_o hH ha (show xKT 55 = some (.inl (11, _)) from rfl)
  have hl : fs.length = 109 := q2
  have g : fs[8]? = some fs[8] := List.getElem?_eq_getElem (by omega)
  obtain ⟨x, hx, s1⟩ := q3 8 _ _ rfl g
  have hx := List.mem_singleton.mp hx
  subst hx
  obtain ⟨v, e, -, -⟩ := s1
  rw [e] at g
  refine ⟨v, ?_⟩
  have q1 : h[a]? = some (.inr (11, fs)) := q1
  unfold xfd
  rw [q1]
  exact g
theorem xif_207_0 {a : Nat} (hH : xHI xKT xSG τ h) (ha : τ[a]? = some 207) : ∃ v : Int32, xfd h a 0 = some (.int v) := by
  obtain ⟨fs, q1, q2, q3⟩ := xcf_o hH ha (show xKT 207 = some (.inl (2, _)) from rfl)
  have hl : fs.length = 11 := q2
  have g : fs[0]? = some fs[0] := List.getElem?_eq_getElem (by omega)
  obtain ⟨x, hx, s1⟩ := q3 0 _ _ rfl g
  have hx := List.mem_singleton.mp hx
  subst hx
  obtain ⟨v, e, -, -⟩ := s1
  rw [e] at g
  refine ⟨v, ?_⟩
  have q1 : h[a]? = some (.inr (2, fs)) := q1
  unfold xfd
  rw [q1]
  exact g
theorem xif_207_4 {a : Nat} (hH : xHI xKT xSG τ h) (ha : τ[a]? = some 207) : ∃ v : Int32, xfd h a 4 = some (.int v) := by
  obtain ⟨fs, q1, q2, q3⟩ := xcf_o hH ha (show xKT 207 = some (.inl (2, _)) from rfl)
  have hl : fs.length = 11 := q2
  have g : fs[4]? = some fs[4] := List.getElem?_eq_getElem (by omega)
  obtain ⟨x, hx, s1⟩ := q3 4 _ _ rfl g
  have hx := List.mem_singleton.mp hx
  subst hx
  obtain ⟨v, e, -, -⟩ := s1
  rw [e] at g
  refine ⟨v, ?_⟩
  have q1 : h[a]? = some (.inr (2, fs)) := q1
  unfold xfd
  rw [q1]
  exact g
theorem xrw_34 (hH : xHI xKT xSG τ h) (j : Nat) : ∃ v : Int32, j < 16 → xar h 34 j = some (.int v) := by
  by_cases hj : j < 16
  · obtain ⟨k, q1, q2, q3⟩ := xcf_a hH (hH.2.2 34 rfl) (show xKT 34 = some (.inr (0, 16, _)) from rfl)
    obtain ⟨q, hq, s1, -⟩ := q3 j hj
    have hq := List.mem_singleton.mp hq
    subst hq
    obtain ⟨v, e, -, -⟩ := s1
    refine ⟨v, fun _ => ?_⟩
    have q1 : h[34]? = some (.inl (0, 16, k)) := q1
    unfold xar
    rw [q1]
    show (if j < 16 then some (zm_kv k j) else none) = _
    rw [if_pos hj, e]
  · exact ⟨0, fun z => absurd z hj⟩
theorem xrw_93 (hH : xHI xKT xSG τ h) (j : Nat) : ∃ v : Int32, j < 16 → xar h 93 j = some (.int v) := by
  by_cases hj : j < 16
  · obtain ⟨k, q1, q2, q3⟩ := xcf_a hH (hH.2.2 93 rfl) (show xKT 93 = some (.inr (0, 16, _)) from rfl)
    obtain ⟨q, hq, s1, -⟩ := q3 j hj
    have hq := List.mem_singleton.mp hq
    subst hq
    obtain ⟨v, e, -, -⟩ := s1
    refine ⟨v, fun _ => ?_⟩
    have q1 : h[93]? = some (.inl (0, 16, k)) := q1
    unfold xar
    rw [q1]
    show (if j < 16 then some (zm_kv k j) else none) = _
    rw [if_pos hj, e]
  · exact ⟨0, fun z => absurd z hj⟩
theorem xrw_62 (hH : xHI xKT xSG τ h) (j : Nat) : ∃ v : Int32, j < 16 → xar h 62 j = some (.int v) := by
  by_cases hj : j < 16
  · obtain ⟨k, q1, q2, q3⟩ := xcf_a hH (hH.2.2 62 rfl) (show xKT 62 = some (.inr (0, 16, _)) from rfl)
    obtain ⟨q, hq, s1, -⟩ := q3 j hj
    have hq := List.mem_singleton.mp hq
    subst hq
    obtain ⟨v, e, -, -⟩ := s1
    refine ⟨v, fun _ => ?_⟩
    have q1 : h[62]? = some (.inl (0, 16, k)) := q1
    unfold xar
    rw [q1]
    show (if j < 16 then some (zm_kv k j) else none) = _
    rw [if_pos hj, e]
  · exact ⟨0, fun z => absurd z hj⟩
theorem xrw_68 (hH : xHI xKT xSG τ h) (j : Nat) : ∃ v : Int32, j < 16 → xar h 68 j = some (.int v) := by
  by_cases hj : j < 16
  · obtain ⟨k, q1, q2, q3⟩ := xcf_a hH (hH.2.2 68 rfl) (show xKT 68 = some (.inr (0, 16, _)) from rfl)
    obtain ⟨q, hq, s1, -⟩ := q3 j hj
    have hq := List.mem_singleton.mp hq
    subst hq
    obtain ⟨v, e, -, -⟩ := s1
    refine ⟨v, fun _ => ?_⟩
    have q1 : h[68]? = some (.inl (0, 16, k)) := q1
    unfold xar
    rw [q1]
    show (if j < 16 then some (zm_kv k j) else none) = _
    rw [if_pos hj, e]
  · exact ⟨0, fun z => absurd z hj⟩
theorem xHX_full (hH : xHI xKT xSG τ h) (hc : xHX ad τ h n dn rc oc) : ∃ (st rf : Nat → Int32) (nr y L : Int32) (wk : Nat → Int32), xCXa ad τ h n st dn rf nr y L wk := by
  obtain ⟨hn, f1, hh, hi⟩ := hc
  obtain ⟨nr, f2⟩ := xif_0_2 hH (hH.2.2 0 rfl)
  obtain ⟨y, f3⟩ := xif_0_3 hH (hH.2.2 0 rfl)
  obtain ⟨L, f4⟩ := xif_27_6 hH (hH.2.2 27 rfl)
  obtain ⟨w, hw⟩ := Classical.axiomOfChoice (xrw_34 (h := h) hH)
  obtain ⟨st, hst⟩ := Classical.axiomOfChoice (fun i : Nat => (show ∃ v : Int32, i < n → xfd h (ad i) 0 = some (.int v) from by
    by_cases c : i < n
    · obtain ⟨v, hv⟩ := xif_207_0 hH (hh i c).2.1
      exact ⟨v, fun _ => hv⟩
    · exact ⟨0, fun z => absurd z c⟩))
  obtain ⟨rf, hrf⟩ := Classical.axiomOfChoice (fun i : Nat => (show ∃ v : Int32, i < n → xfd h (ad i) 4 = some (.int v) from by
    by_cases c : i < n
    · obtain ⟨v, hv⟩ := xif_207_4 hH (hh i c).2.1
      exact ⟨v, fun _ => hv⟩
    · exact ⟨0, fun z => absurd z c⟩))
  refine ⟨st, rf, nr, y, L, fun j => w j - 1, hn, f1, f2, f3, f4, fun j hj => ?_, fun i hi' => ?_, hi⟩
  · show xar h 34 j = some (.int (w j - 1 + 1))
    rw [Int32.sub_add_cancel]
    exact hw j hj
  · obtain ⟨g1, g2, g3, -, -⟩ := hh i hi'
    exact ⟨g1, g2, hst i hi', hrf i hi', g3⟩
theorem xHM_full (hH : xHI xKT xSG τ h) (hc : xHM h n dn rc oc) : ∃ (st rf : Nat → Int32) (nr y L : Int32) (wk : Nat → Int32), xCM h n st dn rf nr y L wk := by
  obtain ⟨hn, f1, hh, hz⟩ := hc
  obtain ⟨nr, f2⟩ := xif_55_10 hH (hH.2.2 55 rfl)
  obtain ⟨y, f3⟩ := xif_55_5 hH (hH.2.2 55 rfl)
  obtain ⟨L, f4⟩ := xif_55_8 hH (hH.2.2 55 rfl)
  obtain ⟨wk, hw⟩ := Classical.axiomOfChoice (xrw_93 (h := h) hH)
  obtain ⟨st, hst⟩ := Classical.axiomOfChoice (xrw_62 (h := h) hH)
  obtain ⟨rf, hrf⟩ := Classical.axiomOfChoice (xrw_68 (h := h) hH)
  refine ⟨st, rf, nr, y, L, wk, hn, f1, f2, f3, f4, hw, fun i hi' => ⟨hst i (by omega), hrf i (by omega), (hh i (by omega)).1⟩, fun i k1 k2 => ?_⟩
  rw [← hz i k1 k2]
  exact (hh i k2).1
theorem xH5_of {dn2 : Nat → Int32} (hc : xHX ad τ h n dn rc oc) (hH : xHI xKT xSG τ h) (hf : xF (xms ms) τ h τ' h') (hk : ([(1, 0), (207, 5), (207, 7)] : List (Nat × Nat)).all (fun p => !xms ms p.1 p.2) = true) (h2 : xCX τ' h' n st dn2 rf nr y L wk) : xH5 τ' h' n dn2 rc oc := by
  have hm : ∀ p ∈ ([(1, 0), (207, 5), (207, 7)] : List (Nat × Nat)), xms ms p.1 p.2 = false := fun p hp => by
    have := List.all_eq_true.mp hk p hp
    simpa using this
  obtain ⟨ad2, k1, f1, -, -, -, -, hh2, hi2⟩ := h2
  refine ⟨ad2, k1, f1, fun i hi => ?_, hi2⟩
  obtain ⟨g1, g2, g3, g4, g5⟩ := hc.2.2.1 i hi
  obtain ⟨p1, p2, -, -, p5⟩ := hh2 i hi
  have e : ad2 i = ad i := by
    have q := xar_F hf (hH.2.2 1 rfl) (hm (1, 0) (by simp)) g1
    rw [p1] at q
    injection q with q
    injection q
  refine ⟨p1, p2, p5, ?_, ?_⟩
  · rw [e]
    exact hf.2.1 _ _ _ _ g2 (hm (207, 5) (by simp)) g4
  · rw [e]
    exact hf.2.1 _ _ _ _ g2 (hm (207, 7) (by simp)) g5
theorem xHM_of {n2 : Nat} {dn2 : Nat → Int32} (hc : xHM h n dn rc oc) (hH : xHI xKT xSG τ h) (hf : xF (xms ms) τ h τ' h') (hk : ([(66, 0), (67, 0)] : List (Nat × Nat)).all (fun p => !xms ms p.1 p.2) = true) (h2 : xCM h' n2 st dn2 rf nr y L wk) (hz2 : ∀ i, n2 ≤ i → i < 16 → dn2 i = 0) : xHM h' n2 dn2 rc oc := by
  have hm : ∀ p ∈ ([(66, 0), (67, 0)] : List (Nat × Nat)), xms ms p.1 p.2 = false := fun p hp => by
    have := List.all_eq_true.mp hk p hp
    simpa using this
  obtain ⟨k1, f1, -, -, -, -, hh2, hz⟩ := h2
  refine ⟨k1, f1, fun i hi => ⟨?_, xar_F hf (hH.2.2 66 rfl) (hm (66, 0) (by simp)) (hc.2.2.1 i hi).2.1, xar_F hf (hH.2.2 67 rfl) (hm (67, 0) (by simp)) (hc.2.2.1 i hi).2.2⟩, hz2⟩
  by_cases c : i < n2
  · exact (hh2 i c).2.2
  · rw [hz2 i (by omega) hi]
    exact hz i (by omega) hi
end XR5
