/-! What the model's cells hold; the pieces put together -/
section XMOD
variable {og : Nat → Option zm_C} {τ : List Nat} {h : zm_H} {ρ : List Int} {σ : List Nat}
theorem xfo {k f : Nat} {d : Nat × List (List xA)} {sp : List xA} (hH : xHI xKT xSG τ h) (hs : xSG k = true) (hK : xKT k = some (.inl d)) (hf : d.2[f]? = some sp) : ∃ fs v, h[k]? = some (.inr (d.1, fs)) ∧ fs[f]? = some v ∧ ∃ a ∈ sp, xsat τ a v := by
  obtain ⟨fs, h1, h2, h3⟩ := xcf_o hH (hH.2.2 k hs) hK
  have hl := (List.getElem?_eq_some_iff.mp hf).1
  have hv : fs[f]? = some fs[f] := List.getElem?_eq_getElem (by omega)
  exact ⟨fs, _, h1, hv, h3 f sp _ hf hv⟩
theorem xfo_ref {k f a : Nat} {d : Nat × List (List xA)} {lo hi : Int} (hH : xHI xKT xSG τ h) (hs : xSG k = true) (hK : xKT k = some (.inl d)) (hf : d.2[f]? = some [(3, a, lo, hi)]) : xfd h k f = some (.ref a) := by
  obtain ⟨fs, v, h1, h2, q, hq, h3⟩ := xfo hH hs hK hf
  have hq := List.mem_singleton.mp hq
  subst hq
  have h3 : v = .ref a := h3
  subst h3
  simp only [xfd, h1, h2]
theorem xfo_int {k f : Nat} {d : Nat × List (List xA)} {n : Nat} {lo hi : Int} (hH : xHI xKT xSG τ h) (hs : xSG k = true) (hK : xKT k = some (.inl d)) (hf : d.2[f]? = some [(0, n, lo, hi)]) : ∃ i : Int32, xfd h k f = some (.int i) ∧ lo ≤ i.toInt ∧ i.toInt ≤ hi := by
  obtain ⟨fs, v, h1, h2, q, hq, h3⟩ := xfo hH hs hK hf
  have hq := List.mem_singleton.mp hq
  subst hq
  obtain ⟨i, rfl, h4, h5⟩ := h3
  exact ⟨i, by simp only [xfd, h1, h2], h4, h5⟩
theorem xfd_obj {k f ci : Nat} {fs : List Value} {v : Value} (hh : h[k]? = some (.inr (ci, fs))) (hv : xfd h k f = some v) : fs[f]? = some v := by
  simp only [xfd, hh] at hv
  exact hv
theorem xo55 (hH : xHI xKT xSG τ h) : ∃ fs, h[55]? = some (.inr (11, fs)) := by
  obtain ⟨fs, v, h1, -⟩ := xfo (f := 0) (k := 55) hH rfl rfl rfl
  exact ⟨fs, h1⟩
/-- a field of the model -/
theorem zh_gm {i f c : Nat} {w v : Value} {ps : List Nat} {st : List Value} (hH : xHI xKT xSG τ h) (hv : xfd h 55 f = some v) : zm_hp zm_df og (.getfield i) (11, f, c, w, ps) (.ref 55 :: st) h = some (v :: st, h) := by
  obtain ⟨fs, h1⟩ := xo55 hH
  exact zh_get h1 (xfd_obj h1 hv)
theorem xl_int {ls : xLS} {lc : zm_L} {i n : Nat} {e : xl} {z : Int32} (hl : xlk ρ σ ls lc) (hm : (i, (0, e, n)) ∈ ls) (he : xe ρ e = some z.toInt) : zm_get lc i = some (.int z) := by
  obtain ⟨v, h1, j, rfl, h3⟩ := hl _ hm
  have h3 : xe ρ e = some j.toInt := h3
  rw [he] at h3
  rw [h1, Int32.toInt_inj.mp (Option.some.inj h3)]
theorem xl_ref {ls : xLS} {lc : zm_L} {i a : Nat} {e : xl} (hl : xlk ρ σ ls lc) (hm : (i, (3, e, a)) ∈ ls) : zm_get lc i = some (.ref a) := by
  obtain ⟨v, h1, h2⟩ := hl _ hm
  have h2 : v = .ref a := h2
  rw [h1, h2]
theorem xofn {k : Nat} (hk : k < 2147483648) : (Int32.ofNat k).toInt = (k : Int) ∧ (Int32.ofNat k).toNatClampNeg = k := by
  have e : (Int32.ofNat k).toInt = (k : Int) := Int32.toInt_ofNat_of_lt hk
  refine ⟨e, ?_⟩
  show (Int32.ofNat k).toInt.toNat = k
  rw [e]
  rfl
theorem xofs {k : Nat} (hk : k + 1 < 2147483648) : Int32.ofNat k + 1 = Int32.ofNat (k + 1) := by
  apply Int32.toInt_inj.mp
  rw [Int32.toInt_add, (xofn (show k < 2147483648 by omega)).1, (xofn hk).1]
  have e1 : (1 : Int32).toInt = 1 := rfl
  have ea : xI32a = -2147483648 := rfl
  have eb : xI32b = 2147483647 := rfl
  rw [e1, xb_bm32 (by omega) (by omega)]
  omega
theorem xeqn {c : Int32} {k : Nat} (h0 : c.toInt = (k : Int)) (hk : k < 2147483648) : c = Int32.ofNat k := Int32.toInt_inj.mp (by rw [h0, (xofn hk).1])
end XMOD
