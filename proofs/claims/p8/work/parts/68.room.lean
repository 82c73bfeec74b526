/-! By hand: makeRoom -/
def xzj (t : Nat) (j : Nat) (q : xJ) : Bool := Nat.beq q.2.2.2.1 0 && (xle q.2.1 (.ofNat j) && (xle (.ofNat j) q.2.2.1 && (bif Nat.beq t 1 then Nat.beq q.1.1 1 else Nat.beq q.1.1 0 && (xle q.1.2.2.1 0 && xle 0 q.1.2.2.2))))
def xX5 (τ : List Nat) (h : zm_H) : Prop := (∀ a : Nat, xSG a = true → τ[a]? = some a) ∧ xPX 1 0 0 1 τ h ∧ xPX 8 7 0 1 τ h ∧ xPX 209 207 8 7 τ h ∧ xPP h
section XRM
variable {τ : List Nat} {h : zm_H} {og : Nat → Option zm_C}
theorem xzj_ok {t j : Nat} {q : xJ} (ht : t ≤ 1) (hq : xzj t j q = true) : xsat τ q.1 (zm_kv (zm_zero t) j) ∧ xjok q j := by
  unfold xzj at hq
  simp only [Bool.and_eq_true, xle_iff] at hq
  obtain ⟨h1, h2, h3, h4⟩ := hq
  refine ⟨?_, h2, h3, Or.inl (Nat.eq_of_beq_eq_true h1)⟩
  obtain ⟨⟨tq, nq, lo, hi⟩, qq⟩ := q
  rcases (show t = 0 ∨ t = 1 by omega) with rfl | rfl
  · have h4 : (Nat.beq tq 0 && (xle lo 0 && xle 0 hi)) = true := h4
    simp only [Bool.and_eq_true, xle_iff] at h4
    have e : tq = 0 := Nat.eq_of_beq_eq_true h4.1
    subst e
    exact ⟨0, rfl, h4.2.1, h4.2.2⟩
  · have h4 : Nat.beq tq 1 = true := h4
    have e : tq = 1 := Nat.eq_of_beq_eq_true h4
    subst e
    exact ⟨0, rfl⟩
theorem xHI_app {kd t n : Nat} {js : List xJ} (hH : xHI xKT xSG τ h) (hk : xKT kd = some (.inr (t, n, js))) (ht : t ≤ 1) (hz : (List.range n).all (fun j => js.any (xzj t j)) = true) : xHI xKT xSG (τ ++ [kd]) (h ++ [.inl (t, n, zm_zero t)]) := by
  have hlen := hH.1
  refine ⟨by simp [hlen], fun b kb hb => ?_, fun b hb => xgl (hH.2.2 b hb)⟩
  by_cases hlt : b < τ.length
  · rw [List.getElem?_append_left hlt] at hb
    obtain ⟨D', c', k1, k2, k3⟩ := hH.2.1 b kb hb
    refine ⟨D', c', k1, ?_, xcf_mono k3⟩
    rw [List.getElem?_append_left (List.getElem?_eq_some_iff.mp k2).1]
    exact k2
  · have hl2 := (List.getElem?_eq_some_iff.mp hb).1
    rw [List.length_append, List.length_singleton] at hl2
    have e : b = τ.length := by omega
    subst e
    have hb : kd = kb := by simpa using hb
    subst hb
    refine ⟨_, _, hk, by rw [← hlen]; simp, zm_zero t, rfl, ?_, fun j hj => ?_⟩
    · rcases (show t = 0 ∨ t = 1 by omega) with rfl | rfl
      · exact ⟨_, rfl⟩
      · exact ⟨_, rfl⟩
    · have h1 := List.all_eq_true.mp hz j (List.mem_range.mpr hj)
      obtain ⟨q, hq, hq2⟩ := List.any_eq_true.mp h1
      exact ⟨q, hq, xzj_ok ht hq2⟩
theorem xPX_3 {ak ok fa fc kd f : Nat} {fs : List Value} {v : Value} {a ci : Nat} (hx : xPX ak ok fa fc τ h) (ht : τ[a]? = some kd) (hne : kd ≠ ok) (hh : h[a]? = some (.inr (ci, fs))) : xPX ak ok fa fc τ (h.set a (.inr (ci, fs.set f v))) := by
  intro a' b t n i c g k1 k2 k3 k4 k5 k6 k7
  have hna : a' ≠ a := by
    rintro rfl
    rw [ht] at k1
    cases k1
    exact hne rfl
  rw [xfd_set hh (Or.inl hna)] at k3 k4
  rw [xgs hh] at k5
  by_cases e : a = b
  · rw [if_pos e] at k5; cases k5
  · rw [if_neg e] at k5
    exact hx a' b t n i c g k1 k2 k3 k4 k5 k6 k7
theorem xX5_put {f : Nat} {fs : List Value} {v : Value} (hx : xX5 τ h) (hh : h[36]? = some (.inr (6, fs))) : xX5 τ (h.set 36 (.inr (6, fs.set f v))) := by
  obtain ⟨h0, h1, h2, h3, h4⟩ := hx
  have ht := h0 36 rfl
  refine ⟨h0, xPX_3 h1 ht (by decide) hh, xPX_3 h2 ht (by decide) hh, xPX_3 h3 ht (by decide) hh, fun n m j g1 g2 k1 k2 k3 => ?_⟩
  rw [xgs hh, if_neg (by decide)] at k1 k2
  exact h4 n m j g1 g2 k1 k2 k3
theorem xX5_app {kd t n : Nat} {k : zm_K} (hx : xX5 τ h) (hH : xHI xKT xSG τ h) : xX5 (τ ++ [kd]) (h ++ [.inl (t, n, k)]) := by
  obtain ⟨h0, h1, h2, h3, h4⟩ := hx
  have l36 : 36 < h.length := by
    have := (List.getElem?_eq_some_iff.mp (h0 36 rfl)).1
    have := hH.1
    omega
  refine ⟨fun a ha => xgl (h0 a ha), xPX_n h1 hH (fun a b p q => xref_lt (f := 0) hH (show xKT 0 = some _ from rfl) rfl (by decide) p q), xPX_n h2 hH (fun a b p q => xref_lt (f := 0) hH (show xKT 7 = some _ from rfl) rfl (by decide) p q), xPX_n h3 hH (fun a b p q => xref_lt (f := 8) hH (show xKT 207 = some _ from rfl) rfl (by decide) p q), fun n' m j g1 g2 k1 k2 k3 => ?_⟩
  rw [List.getElem?_append_left (by omega)] at k1 k2
  exact h4 n' m j g1 g2 k1 k2 k3
theorem xF_app {MS : Nat → Nat → Bool} {kd : Nat} {c : zm_C} : xF MS τ h (τ ++ [kd]) (h ++ [c]) := by
  refine ⟨⟨[kd], rfl⟩, fun a ka f v _ _ hv => xfd_app hv, fun a ka q _ _ hq => ?_⟩
  rw [List.getElem?_append_left (List.getElem?_eq_some_iff.mp hq).1]
  exact hq
def xmkh (h : zm_H) (t n f : Nat) (fs : List Value) : zm_H := (h ++ [Sum.inl (t, n, zm_zero t)]).set 36 (Sum.inr (6, fs.set f (.ref h.length)))
/-- one row made and put into the planner's field -/
theorem xmk {f kd t n : Nat} {js : List xJ} {fs : List Value} {sp : List xA} (hH : xHI xKT xSG τ h) (hx : xX5 τ h) (hh : h[36]? = some (.inr (6, fs))) (hk : xKT kd = some (.inr (t, n, js))) (ht : t ≤ 1) (hz : (List.range n).all (fun j => js.any (xzj t j)) = true) (hsp : ∃ d : Nat × List (List xA), xKT 36 = some (.inl d) ∧ d.1 = 6 ∧ d.2[f]? = some sp) (hs : (4, kd, 0, 0) ∈ sp) : xHI xKT xSG (τ ++ [kd]) (xmkh h t n f fs) ∧ xX5 (τ ++ [kd]) (xmkh h t n f fs) ∧ (xmkh h t n f fs).length = h.length + 1 ∧ zm_szs (xmkh h t n f fs) = zm_szs h + n ∧ (xmkh h t n f fs)[36]? = some (.inr (6, fs.set f (.ref h.length))) ∧ xF (xms [(36, 10), (36, 11), (36, 12), (36, 13), (36, 14)]) τ h (τ ++ [kd]) (h ++ [.inl (t, n, zm_zero t)]) := by
  obtain ⟨d, hd, hd1, hd2⟩ := hsp
  have hH1 := xHI_app hH hk ht hz
  have hx1 := xX5_app (kd := kd) (t := t) (n := n) (k := zm_zero t) hx hH
  have hh1 : (h ++ [.inl (t, n, zm_zero t)])[36]? = some (.inr (6, fs)) := zs_app hh
  obtain ⟨fs', e1, e2, e3⟩ := xcf_o hH1 (hx1.1 36 rfl) hd
  rw [hh1, hd1] at e1
  cases e1
  have hlt := (List.getElem?_eq_some_iff.mp hd2).1
  obtain ⟨d1, d2⟩ := d
  have hd1 : d1 = 6 := hd1
  subst hd1
  refine ⟨xHI_set hH1 hh1 (hx1.1 36 rfl) hd ⟨fs.set f (.ref h.length), rfl, by rw [List.length_set]; exact e2, fun g sp' v' c1 c2 => ?_⟩, xX5_put hx1 hh1, ?_, ?_, zs_eq hh1, xF_app⟩
  · by_cases e : f = g
    · subst e
      have c1 : d2[f]? = some sp' := c1
      have hd2 : d2[f]? = some sp := hd2
      rw [hd2] at c1
      cases c1
      have e2 : fs.length = d2.length := e2
      have hlt : f < d2.length := hlt
      rw [List.getElem?_set_self (by omega)] at c2
      cases c2
      refine ⟨_, hs, h.length, rfl, ?_⟩
      rw [hH.1]
      simp
    · rw [List.getElem?_set_ne e] at c2
      exact e3 g sp' v' c1 c2
  · unfold xmkh
    rw [List.length_set, List.length_append, List.length_singleton]
  · unfold xmkh
    rw [(zm_set_sz hh1 (by show (fs.set f (.ref h.length)).length = fs.length; rw [List.length_set])).2, zm_szs_app]
    rfl
end XRM
