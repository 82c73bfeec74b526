/-! By hand: an ACT comes into its row -/
section XLY
variable {τ : List Nat} {h : zm_H}
theorem xst_l {MS : Nat → Nat → Bool} {N : Nat} {c : Int32} {f : Nat → Option Nat} (hH : xHI xKT xSG τ h) (hX : xX τ h) (hm1 : MS 8 0 = true) (hh : h[8]? = some (.inl (5, 12, .inr (.inr f)))) (hN : τ[N]? = some 200) (c0 : 0 ≤ c.toInt) (c11 : c.toInt ≤ 11) : xHI xKT xSG τ (h.set 8 (.inl (5, 12, .inr (.inr (va_up f c.toNatClampNeg (some N)))))) ∧ xX τ (h.set 8 (.inl (5, 12, .inr (.inr (va_up f c.toNatClampNeg (some N)))))) ∧ xF MS τ h τ (h.set 8 (.inl (5, 12, .inr (.inr (va_up f c.toNatClampNeg (some N)))))) ∧ xW (h.set 8 (.inl (5, 12, .inr (.inr (va_up f c.toNatClampNeg (some N)))))) = xW h := by
  obtain ⟨s0, sx1, sx2, sx3, sp, sl⟩ := hX
  have ht : τ[8]? = some 8 := s0 8 rfl
  obtain ⟨kB, u1, u2, u3⟩ := xcf_a hH ht (show xKT 8 = some (.inr (5, 12, _)) from rfl)
  rw [hh] at u1
  cases u1
  have hx : ∀ q g, xfd (h.set 8 (.inl (5, 12, .inr (.inr (va_up f c.toNatClampNeg (some N)))))) q g = xfd h q g := by
    intro q g
    unfold xfd
    rw [xgs hh]
    by_cases e : 8 = q
    · rw [if_pos e, ← e, hh]
    · rw [if_neg e]
  have px : ∀ {ak ok fa fc : Nat}, xPX ak ok fa fc τ h → ak ≠ 8 → xPX ak ok fa fc τ (h.set 8 (.inl (5, 12, .inr (.inr (va_up f c.toNatClampNeg (some N)))))) := by
    intro ak ok fa fc hx0 n1 a' b' t n i c' g k1 k2 k3 k4 k5 k6 k7
    rw [hx] at k3 k4
    rw [xgs hh] at k5
    by_cases e : 8 = b'
    · subst e
      rw [ht] at k2
      cases k2
      exact absurd rfl n1
    · rw [if_neg e] at k5
      exact hx0 a' b' t n i c' g k1 k2 k3 k4 k5 k6 k7
  refine ⟨?_, ⟨s0, px sx1 (by decide), ?_, px sx3 (by decide), ?_, ?_⟩, ⟨⟨[], (List.append_nil τ).symm⟩, ?_, ?_⟩, ?_⟩
  · refine xHI_set hH hh ht (show xKT 8 = some (.inr (5, 12, _)) from rfl) ⟨_, rfl, ⟨_, rfl⟩, fun j hj => ?_⟩
    have hj : j < 12 := hj
    by_cases e : j = c.toNatClampNeg
    · have ev : zm_kv (.inr (.inr (va_up f c.toNatClampNeg (some N)))) j = .ref N := by
        show va_rf (if j = _ then _ else _) = _
        rw [if_pos e]
        rfl
      refine ⟨((4, 200, 0, 0), .ofNat 0, .ofNat 11, 0, 0), List.mem_cons_of_mem _ List.mem_cons_self, ?_, by show (0 : Int) ≤ _; omega, by show _ ≤ (11 : Int); omega, Or.inl rfl⟩
      rw [ev]
      exact ⟨N, rfl, hN⟩
    · obtain ⟨x, x1, x2, x3⟩ := u3 j hj
      have ev : zm_kv (.inr (.inr (va_up f c.toNatClampNeg (some N)))) j = zm_kv (.inr (.inr f)) j := by
        show va_rf (if j = _ then _ else _) = _
        rw [if_neg e]
        rfl
      exact ⟨x, x1, by rw [ev]; exact x2, x3⟩
  · intro a' b' t n i c' g k1 k2 k3 k4 k5 k6 k7
    rw [hx] at k3 k4
    rw [xgs hh] at k5
    by_cases e : 8 = b'
    · rw [if_pos e] at k5
      cases k5
      show (if i = c.toNatClampNeg then some N else f i) ≠ none
      by_cases ei : i = c.toNatClampNeg
      · rw [if_pos ei]; simp
      · rw [if_neg ei]
        subst e
        exact sx2 a' 8 5 12 i c' f k1 k2 k3 k4 hh k6 k7
    · rw [if_neg e] at k5
      exact sx2 a' b' t n i c' g k1 k2 k3 k4 k5 k6 k7
  · intro n m j g1 g2 k1 k2 k3
    rw [xgs hh, if_neg (by decide)] at k1 k2
    exact sp n m j g1 g2 k1 k2 k3
  · intro v g c1 c2 c3 c4 c5
    rw [hx] at c1 c5
    exact sl v g c1 c2 c3 c4 c5
  · intro a kd g v ha hm hv
    rw [hx]
    exact hv
  · intro a kd cc ha hm hv
    rw [xgs hh]
    by_cases e : 8 = a
    · subst e
      rw [ht] at ha
      cases ha
      rw [hm1] at hm
      cases hm
    · rw [if_neg e]
      exact hv
  · have w := zm_set_sz (c2 := .inl (5, 12, .inr (.inr (va_up f c.toNatClampNeg (some N))))) hh rfl
    unfold xW
    rw [hx, w.1, w.2]
end XLY
