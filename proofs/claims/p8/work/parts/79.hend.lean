/-! By hand: the three cells of a new HOUSE -/
section XHE
variable {τ : List Nat} {h : zm_H}
theorem xHI_apps {ks : List Nat} {cs : zm_H} (hH : xHI xKT xSG τ h) (hl : cs.length = ks.length) (hc : ∀ (i kd : Nat), ks[i]? = some kd → ∃ D c, xKT kd = some D ∧ cs[i]? = some c ∧ xcf (τ ++ ks) D c) : xHI xKT xSG (τ ++ ks) (h ++ cs) := by
  have hlen := hH.1
  refine ⟨by rw [List.length_append, List.length_append, hlen, hl], fun b kb hb => ?_, fun b hb => xgl (hH.2.2 b hb)⟩
  by_cases hlt : b < τ.length
  · rw [List.getElem?_append_left hlt] at hb
    obtain ⟨D', c', k1, k2, k3⟩ := hH.2.1 b kb hb
    refine ⟨D', c', k1, ?_, xcf_mono k3⟩
    rw [List.getElem?_append_left (List.getElem?_eq_some_iff.mp k2).1]
    exact k2
  · rw [List.getElem?_append_right (by omega)] at hb
    obtain ⟨D', c', k1, k2, k3⟩ := hc _ _ hb
    refine ⟨D', c', k1, ?_, k3⟩
    rw [List.getElem?_append_right (by omega), hlen]
    exact k2
def xhho (n : Nat) (s w f m r : Int32) : zm_C := Sum.inr (2, [.int s, .int w, .int f, .int m, .int r, .int 0, .ref (n + 1), .int 0, .ref (n + 2), .int 0, .long 0])
theorem xHI_house {s w f m r : Int32} (hH : xHI xKT xSG τ h) (m0 : 0 ≤ m.toInt ∧ m.toInt ≤ 60) : xHI xKT xSG (τ ++ [207, 208, 209]) (h ++ [xhho h.length s w f m r, xhc1, xhc2]) := by
  have hlen := hH.1
  refine xHI_apps hH rfl (fun i kd hk => ?_)
  have hi : i < 3 := by
    have := (List.getElem?_eq_some_iff.mp hk).1
    simpa using this
  rcases (show i = 0 ∨ i = 1 ∨ i = 2 by omega) with rfl | rfl | rfl
  · cases hk
    refine ⟨_, _, (show xKT 207 = some (.inl (2, _)) from rfl), rfl, _, rfl, rfl, fun g sp' v' c1 c2 => ?_⟩
    have hlt : g < 11 := by
      have := (List.getElem?_eq_some_iff.mp c2).1
      simpa using this
    rcases (show g = 0 ∨ g = 1 ∨ g = 2 ∨ g = 3 ∨ g = 4 ∨ g = 5 ∨ g = 6 ∨ g = 7 ∨ g = 8 ∨ g = 9 ∨ g = 10 by omega) with rfl | rfl | rfl | rfl | rfl | rfl | rfl | rfl | rfl | rfl | rfl
    · cases c1; cases c2; exact ⟨_, List.mem_cons_self, s, rfl, (xb_rng s).1, (xb_rng s).2⟩
    · cases c1; cases c2; exact ⟨_, List.mem_cons_self, w, rfl, (xb_rng w).1, (xb_rng w).2⟩
    · cases c1; cases c2; exact ⟨_, List.mem_cons_self, f, rfl, (xb_rng f).1, (xb_rng f).2⟩
    · cases c1; cases c2; exact ⟨_, List.mem_cons_self, m, rfl, m0.1, m0.2⟩
    · cases c1; cases c2; exact ⟨_, List.mem_cons_self, r, rfl, (xb_rng r).1, (xb_rng r).2⟩
    · cases c1; cases c2; exact ⟨_, List.mem_cons_self, 0, rfl, by decide, by decide⟩
    · cases c1; cases c2; exact ⟨_, List.mem_cons_self, h.length + 1, rfl, by rw [hlen, List.getElem?_append_right (by omega), Nat.add_sub_cancel_left]; rfl⟩
    · cases c1; cases c2; exact ⟨_, List.mem_cons_self, 0, rfl, by decide, by decide⟩
    · cases c1; cases c2; exact ⟨_, List.mem_cons_self, h.length + 2, rfl, by rw [hlen, List.getElem?_append_right (by omega), Nat.add_sub_cancel_left]; rfl⟩
    · cases c1; cases c2; exact ⟨_, List.mem_cons_self, 0, rfl, by decide, by decide⟩
    · cases c1; cases c2; exact ⟨_, List.mem_cons_self, 0, rfl⟩
  · cases hk
    refine ⟨_, _, (show xKT 208 = some (.inr (0, 6, _)) from rfl), rfl, _, rfl, ⟨_, rfl⟩, fun j hj => ?_⟩
    have hj : j < 6 := hj
    exact ⟨_, List.mem_cons_self, ⟨0, rfl, by decide, by decide⟩, by show (0 : Int) ≤ _; omega, by show _ ≤ (5 : Int); omega, Or.inl rfl⟩
  · cases hk
    refine ⟨_, _, (show xKT 209 = some (.inr (6, 10, _)) from rfl), rfl, _, rfl, ⟨_, rfl⟩, fun j hj => ?_⟩
    have hj : j < 10 := hj
    exact ⟨_, List.mem_cons_self, rfl, by show (0 : Int) ≤ _; omega, by show _ ≤ (9 : Int); omega, Or.inl rfl⟩
end XHE
