/-! By hand: a new HOUSE keeps what the hands know -/
section XHX
variable {τ : List Nat} {h : zm_H}
theorem xlt_ap3 {q kq a b c : Nat} (hl : h.length = τ.length) (hq : (τ ++ [a, b, c])[q]? = some kq) (ka : kq ≠ a) (kb : kq ≠ b) (kc : kq ≠ c) : q < h.length ∧ τ[q]? = some kq := by
  by_cases hl2 : q < τ.length
  · rw [List.getElem?_append_left hl2] at hq
    exact ⟨by omega, hq⟩
  · rw [List.getElem?_append_right (by omega)] at hq
    have hm := List.mem_of_getElem? hq
    simp only [List.mem_cons, List.not_mem_nil, or_false] at hm
    rcases hm with e | e | e
    · exact absurd e ka
    · exact absurd e kb
    · exact absurd e kc
theorem xfd_apl {cs : zm_H} {q g : Nat} (hq : q < h.length) : xfd (h ++ cs) q g = xfd h q g := by
  unfold xfd
  rw [List.getElem?_append_left hq]
theorem xX_house {s w f m r : Int32} (hH : xHI xKT xSG τ h) (hX : xX τ h) : xX (τ ++ [207, 208, 209]) (h ++ [xhho h.length s w f m r, xhc1, xhc2]) := by
  obtain ⟨s0, sx1, sx2, sx3, sp, sl⟩ := hX
  have hlen := hH.1
  have sg : ∀ a : Nat, xSG a = true → a < h.length := fun a ha => by
    have := (List.getElem?_eq_some_iff.mp (s0 a ha)).1
    omega
  have px : ∀ {ak ok fa fc : Nat}, xPX ak ok fa fc τ h → (ok ≠ 207 ∧ ok ≠ 208 ∧ ok ≠ 209) → (ak ≠ 207 ∧ ak ≠ 208 ∧ ak ≠ 209) → xPX ak ok fa fc (τ ++ [207, 208, 209]) (h ++ [xhho h.length s w f m r, xhc1, xhc2]) := by
    intro ak ok fa fc hx n1 n2 a' b' t n i c g k1 k2 k3 k4 k5 k6 k7
    obtain ⟨la, ta⟩ := xlt_ap3 hlen k1 n1.1 n1.2.1 n1.2.2
    obtain ⟨lb, tb⟩ := xlt_ap3 hlen k2 n2.1 n2.2.1 n2.2.2
    rw [xfd_apl la] at k3 k4
    rw [List.getElem?_append_left lb] at k5
    exact hx a' b' t n i c g ta tb k3 k4 k5 k6 k7
  refine ⟨fun a ha => xgl (s0 a ha), px sx1 (by decide) (by decide), px sx2 (by decide) (by decide), ?_, ?_, ?_⟩
  · intro a' b' t n i c g k1 k2 k3 k4 k5 k6 k7
    by_cases la : a' < h.length
    · rw [xfd_apl la] at k3 k4
      rw [List.getElem?_append_left (by omega)] at k1
      obtain ⟨fs, hhA, hl, hsp⟩ := xcf_o hH k1 (show xKT 207 = some (.inl (2, _)) from rfl)
      have e3 : fs[8]? = some (.ref b') := by
        simp only [xfd, hhA] at k3
        exact k3
      obtain ⟨a8, m8, s8⟩ := hsp 8 _ _ rfl e3
      have m8 := List.mem_singleton.mp m8
      subst m8
      obtain ⟨B, e8, hB⟩ := s8
      cases e8
      have lb : b' < h.length := by
        have := (List.getElem?_eq_some_iff.mp hB).1
        omega
      rw [List.getElem?_append_left lb] at k5
      exact sx3 a' b' t n i c g k1 hB k3 k4 k5 k6 k7
    · exfalso
      have l3 := (List.getElem?_eq_some_iff.mp k1).1
      rw [List.length_append] at l3
      have l3 : a' < τ.length + 3 := l3
      rcases (show a' = h.length ∨ a' = h.length + 1 ∨ a' = h.length + 2 by omega) with e | e | e
      · subst e
        have e7 : xfd (h ++ [xhho h.length s w f m r, xhc1, xhc2]) h.length 7 = some (.int 0) := by
          unfold xfd
          rw [List.getElem?_append_right (Nat.le_refl _), Nat.sub_self]
          rfl
        rw [e7] at k4
        cases k4
        have k6 : (i : Int) < 0 := k6
        omega
      · subst e
        rw [hlen, List.getElem?_append_right (by omega), Nat.add_sub_cancel_left] at k1
        cases k1
      · subst e
        rw [hlen, List.getElem?_append_right (by omega), Nat.add_sub_cancel_left] at k1
        cases k1
  · intro n m j g1 g2 k1 k2 k3
    rw [List.getElem?_append_left (sg 4 rfl)] at k1
    rw [List.getElem?_append_left (sg 6 rfl)] at k2
    exact sp n m j g1 g2 k1 k2 k3
  · intro v g c1 c2 c3 c4 c5
    rw [xfd_apl (sg 36 rfl)] at c1 c5
    exact sl v g c1 c2 c3 c4 c5
theorem xF_apl {MS : Nat → Nat → Bool} {ks : List Nat} {cs : zm_H} : xF MS τ h (τ ++ ks) (h ++ cs) := by
  refine ⟨⟨ks, rfl⟩, fun a kd f v ha hm hv => ?_, fun a kd c ha hm hv => ?_⟩
  · rw [xfd_apl ?_]
    · exact hv
    · unfold xfd at hv
      split at hv
      · rename_i o ho
        exact (List.getElem?_eq_some_iff.mp ho).1
      · cases hv
  · exact zs_app hv
theorem xW_house {s w f m r : Int32} (h36 : 36 < h.length) : xW (h ++ [xhho h.length s w f m r, xhc1, xhc2]) ≤ xW h + 90 := by
  have e : h ++ [xhho h.length s w f m r, xhc1, xhc2] = ((h ++ [xhho h.length s w f m r]) ++ [xhc1]) ++ [xhc2] := by simp
  have hs : zm_szs (h ++ [xhho h.length s w f m r, xhc1, xhc2]) = zm_szs h + 11 + 6 + 10 := by
    rw [e, zm_szs_app, zm_szs_app, zm_szs_app]
    rfl
  unfold xW
  rw [xfd_apl h36, hs, List.length_append]
  have : [xhho h.length s w f m r, xhc1, xhc2].length = 3 := rfl
  omega
end XHX
