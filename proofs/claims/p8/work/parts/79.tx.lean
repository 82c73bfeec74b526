/-! By hand: a new TEXT keeps what the hands know -/
section XTX
variable {τ : List Nat} {h : zm_H}
theorem xlt_aps {q kq : Nat} {ks : List Nat} (hl : h.length = τ.length) (hq : (τ ++ ks)[q]? = some kq) (ka : kq ∉ ks) : q < h.length ∧ τ[q]? = some kq := by
  by_cases hl2 : q < τ.length
  · rw [List.getElem?_append_left hl2] at hq
    exact ⟨by omega, hq⟩
  · rw [List.getElem?_append_right (by omega)] at hq
    exact absurd (List.mem_of_getElem? hq) ka
theorem xX_text {cs : zm_H} (hH : xHI xKT xSG τ h) (hX : xX τ h) : xX (τ ++ [200, 201, 202, 203, 204, 205, 206]) (h ++ cs) := by
  obtain ⟨s0, sx1, sx2, sx3, sp, sl⟩ := hX
  have hlen := hH.1
  have sg : ∀ a : Nat, xSG a = true → a < h.length := fun a ha => by
    have := (List.getElem?_eq_some_iff.mp (s0 a ha)).1
    omega
  have px : ∀ {ak ok fa fc : Nat}, xPX ak ok fa fc τ h → ok ∉ [200, 201, 202, 203, 204, 205, 206] → ak ∉ [200, 201, 202, 203, 204, 205, 206] → xPX ak ok fa fc (τ ++ [200, 201, 202, 203, 204, 205, 206]) (h ++ cs) := by
    intro ak ok fa fc hx n1 n2 a' b' t n i c g k1 k2 k3 k4 k5 k6 k7
    obtain ⟨la, ta⟩ := xlt_aps hlen k1 n1
    obtain ⟨lb, tb⟩ := xlt_aps hlen k2 n2
    rw [xfd_apl la] at k3 k4
    rw [List.getElem?_append_left lb] at k5
    exact hx a' b' t n i c g ta tb k3 k4 k5 k6 k7
  refine ⟨fun a ha => xgl (s0 a ha), px sx1 (by decide) (by decide), px sx2 (by decide) (by decide), px sx3 (by decide) (by decide), ?_, ?_⟩
  · intro n m j g1 g2 k1 k2 k3
    rw [List.getElem?_append_left (sg 4 rfl)] at k1
    rw [List.getElem?_append_left (sg 6 rfl)] at k2
    exact sp n m j g1 g2 k1 k2 k3
  · intro v g c1 c2 c3 c4 c5
    rw [xfd_apl (sg 36 rfl)] at c1 c5
    exact sl v g c1 c2 c3 c4 c5
theorem xW_text (h36 : 36 < h.length) : xW (h ++ xtcs h.length) ≤ xW h + 500 := by
  have hs : zm_szs (h ++ xtcs h.length) = zm_szs h + 370 := by
    rw [zm_szs_app2]
    rfl
  unfold xW
  rw [xfd_apl h36, hs, List.length_append]
  have : (xtcs h.length).length = 7 := rfl
  omega
end XTX
