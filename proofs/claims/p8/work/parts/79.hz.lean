/-! By hand: fields of a known cell -/
section XHZ
variable {τ : List Nat} {h : zm_H}
theorem xF_setf {MS : Nat → Nat → Bool} {a kd ci f : Nat} {fs : List Value} {v : Value} (ht : τ[a]? = some kd) (hm : MS kd f = true) (hh : h[a]? = some (.inr (ci, fs))) : xF MS τ h τ (h.set a (.inr (ci, fs.set f v))) := by
  refine ⟨⟨[], (List.append_nil τ).symm⟩, fun b kb g w hb hn hw => ?_, fun b kb c hb hn hw => ?_⟩
  · rw [xfd_set hh ?_]
    · exact hw
    · by_cases e : b = a
      · right
        rintro rfl
        subst e
        rw [ht] at hb
        cases hb
        rw [hm] at hn
        cases hn
      · exact Or.inl e
  · rw [xgs hh]
    by_cases e : a = b
    · subst e
      rw [hh] at hw
      cases hw
    · rw [if_neg e]
      exact hw
theorem xHI_setf {a kd ci f : Nat} {sps : List (List xA)} {fs : List Value} {v : Value} (hH : xHI xKT xSG τ h) (ht : τ[a]? = some kd) (hk : xKT kd = some (.inl (ci, sps))) (hh : h[a]? = some (.inr (ci, fs))) (hv : ∀ sp, sps[f]? = some sp → ∃ x ∈ sp, xsat τ x v) : xHI xKT xSG τ (h.set a (.inr (ci, fs.set f v))) := by
  obtain ⟨fs', q1, q2, q3⟩ := xcf_o hH ht hk
  rw [hh] at q1
  cases q1
  refine xHI_set hH hh ht hk ⟨_, rfl, by rw [List.length_set]; exact q2, fun g sp w c1 c2 => ?_⟩
  by_cases e : f = g
  · subst e
    have hl : f < fs.length := by
      have := (List.getElem?_eq_some_iff.mp c2).1
      rwa [List.length_set] at this
    rw [List.getElem?_set_self hl] at c2
    cases c2
    exact hv sp c1
  · rw [List.getElem?_set_ne e] at c2
    exact q3 g sp w c1 c2
theorem xct_h {MS : Nat → Nat → Bool} {c : Int32} {fs : List Value} {f : Nat → Option Nat} (hH : xHI xKT xSG τ h) (hX : xX τ h) (hm : MS 0 1 = true) (h0 : h[0]? = some (.inr (10, fs))) (f0 : fs[0]? = some (.ref 1)) (f1 : fs[1]? = some (.int c)) (hh : h[1]? = some (.inl (4, 16, .inr (.inr f)))) (hc : f c.toNatClampNeg ≠ none) (c0 : 0 ≤ c.toInt) (c15 : c.toInt ≤ 15) : xHI xKT xSG τ (h.set 0 (.inr (10, fs.set 1 (.int (c + 1))))) ∧ xX τ (h.set 0 (.inr (10, fs.set 1 (.int (c + 1))))) ∧ xF MS τ h τ (h.set 0 (.inr (10, fs.set 1 (.int (c + 1))))) ∧ xW (h.set 0 (.inr (10, fs.set 1 (.int (c + 1))))) = xW h := by
  obtain ⟨s0, sx1, sx2, sx3, sp, sl⟩ := hX
  have ht : τ[0]? = some 0 := s0 0 rfl
  have c1 : (c + 1).toInt = c.toInt + 1 := by
    rw [Int32.toInt_add]
    have e1 : xI32a = -2147483648 := rfl
    have e2 : xI32b = 2147483647 := rfl
    exact xb_bm32 (by show xI32a ≤ c.toInt + 1; omega) (by show c.toInt + 1 ≤ xI32b; omega)
  obtain ⟨hin, hjn, hjlt⟩ := xin_ok (j := c) (n := 16) c0 (by omega)
  have hl1 : 1 < fs.length := (List.getElem?_eq_some_iff.mp f1).1
  have hx : ∀ q g, q ≠ 0 ∨ g ≠ 1 → xfd (h.set 0 (.inr (10, fs.set 1 (.int (c + 1))))) q g = xfd h q g := fun q g hne => xfd_set h0 hne
  have px : ∀ {ak ok fa fc : Nat}, xPX ak ok fa fc τ h → ok ≠ 0 → xPX ak ok fa fc τ (h.set 0 (.inr (10, fs.set 1 (.int (c + 1))))) := by
    intro ak ok fa fc hx0 n1 a' b' t n i c' g k1 k2 k3 k4 k5 k6 k7
    have ha : a' ≠ 0 := fun e => by
      subst e
      rw [ht] at k1
      cases k1
      exact n1 rfl
    rw [hx _ _ (Or.inl ha)] at k3 k4
    rw [xgs h0] at k5
    by_cases e : 0 = b'
    · rw [if_pos e] at k5; cases k5
    · rw [if_neg e] at k5
      exact hx0 a' b' t n i c' g k1 k2 k3 k4 k5 k6 k7
  refine ⟨?_, ⟨s0, ?_, px sx2 (by decide), px sx3 (by decide), ?_, ?_⟩, xF_setf ht hm h0, ?_⟩
  · refine xHI_setf hH ht (show xKT 0 = some (.inl (10, _)) from rfl) h0 (fun sp' hs => ?_)
    cases hs
    exact ⟨_, List.mem_cons_self, c + 1, rfl, by show (0 : Int) ≤ _; omega, by show _ ≤ (16 : Int); omega⟩
  · intro a' b' t n i c' g k1 k2 k3 k4 k5 k6 k7
    rw [xgs h0] at k5
    by_cases e : 0 = b'
    · rw [if_pos e] at k5; cases k5
    · rw [if_neg e] at k5
      rw [hx _ _ (Or.inr (by decide))] at k3
      by_cases ea : a' = 0
      · subst ea
        have e0 : xfd h 0 0 = some (.ref 1) := by simp only [xfd, h0]; exact f0
        rw [e0] at k3
        cases k3
        have e1 : xfd (h.set 0 (.inr (10, fs.set 1 (.int (c + 1))))) 0 1 = some (.int (c + 1)) := by
          unfold xfd
          rw [xgs h0, if_pos rfl]
          exact List.getElem?_set_self hl1
        rw [e1] at k4
        cases k4
        rw [hh] at k5
        cases k5
        by_cases ei : (i : Int) < c.toInt
        · exact sx1 0 1 4 16 i c f k1 k2 e0 (by simp only [xfd, h0]; exact f1) hh ei k7
        · have ei : i = c.toNatClampNeg := by omega
          rw [ei]
          exact hc
      · rw [hx _ _ (Or.inl ea)] at k4
        exact sx1 a' b' t n i c' g k1 k2 k3 k4 k5 k6 k7
  · intro n m j g1 g2 k1 k2 k3
    rw [xgs h0, if_neg (by decide)] at k1 k2
    exact sp n m j g1 g2 k1 k2 k3
  · intro v g c1 c2 c3 c4 c5
    rw [hx _ _ (Or.inl (by decide))] at c1 c5
    exact sl v g c1 c2 c3 c4 c5
  · have w := zm_set_sz (c2 := .inr (10, fs.set 1 (.int (c + 1)))) h0 (by show (fs.set 1 _).length = fs.length; rw [List.length_set])
    unfold xW
    rw [hx _ _ (Or.inl (by decide)), w.1, w.2]
end XHZ
