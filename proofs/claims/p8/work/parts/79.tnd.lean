/-! By hand: the seven cells of a new TEXT -/
section XTE
variable {τ : List Nat} {h : zm_H}
def xtho (n : Nat) : zm_C := Sum.inr (9, [.ref (n + 1), .int 0, .ref (n + 2), .ref (n + 3), .ref (n + 4), .ref (n + 5), .ref (n + 6), .int 0, .int 0, .null])
def xtcs (n : Nat) : zm_H := [xtho n, xtc1, xtc2, xtc2, xtc2, xtc2, xtc2]
theorem xHI_text (hH : xHI xKT xSG τ h) : xHI xKT xSG (τ ++ [200, 201, 202, 203, 204, 205, 206]) (h ++ xtcs h.length) := by
  have hlen := hH.1
  refine xHI_apps hH rfl (fun i kd hk => ?_)
  have hi : i < 7 := by
    have := (List.getElem?_eq_some_iff.mp hk).1
    simpa using this
  rcases (show i = 0 ∨ i = 1 ∨ i = 2 ∨ i = 3 ∨ i = 4 ∨ i = 5 ∨ i = 6 by omega) with rfl | rfl | rfl | rfl | rfl | rfl | rfl
  · cases hk
    refine ⟨_, _, (show xKT 200 = some (.inl (9, _)) from rfl), rfl, _, rfl, rfl, fun g sp' v' c1 c2 => ?_⟩
    have hlt : g < 10 := by
      have := (List.getElem?_eq_some_iff.mp c2).1
      simpa using this
    rcases (show g = 0 ∨ g = 1 ∨ g = 2 ∨ g = 3 ∨ g = 4 ∨ g = 5 ∨ g = 6 ∨ g = 7 ∨ g = 8 ∨ g = 9 by omega) with rfl | rfl | rfl | rfl | rfl | rfl | rfl | rfl | rfl | rfl
    · cases c1; cases c2; exact ⟨_, List.mem_cons_self, h.length + 1, rfl, by rw [hlen, List.getElem?_append_right (by omega), Nat.add_sub_cancel_left]; rfl⟩
    · cases c1; cases c2; exact ⟨_, List.mem_cons_self, 0, rfl, by decide, by decide⟩
    · cases c1; cases c2; exact ⟨_, List.mem_cons_self, h.length + 2, rfl, by rw [hlen, List.getElem?_append_right (by omega), Nat.add_sub_cancel_left]; rfl⟩
    · cases c1; cases c2; exact ⟨_, List.mem_cons_self, h.length + 3, rfl, by rw [hlen, List.getElem?_append_right (by omega), Nat.add_sub_cancel_left]; rfl⟩
    · cases c1; cases c2; exact ⟨_, List.mem_cons_self, h.length + 4, rfl, by rw [hlen, List.getElem?_append_right (by omega), Nat.add_sub_cancel_left]; rfl⟩
    · cases c1; cases c2; exact ⟨_, List.mem_cons_self, h.length + 5, rfl, by rw [hlen, List.getElem?_append_right (by omega), Nat.add_sub_cancel_left]; rfl⟩
    · cases c1; cases c2; exact ⟨_, List.mem_cons_self, h.length + 6, rfl, by rw [hlen, List.getElem?_append_right (by omega), Nat.add_sub_cancel_left]; rfl⟩
    · cases c1; cases c2; exact ⟨_, List.mem_cons_self, 0, rfl, by decide, by decide⟩
    · cases c1; cases c2; exact ⟨_, List.mem_cons_self, 0, rfl, by decide, by decide⟩
    · cases c1; cases c2; exact ⟨_, List.mem_cons_self, rfl⟩
  · cases hk
    refine ⟨_, _, (show xKT 201 = some (.inr (0, 300, _)) from rfl), rfl, _, rfl, ⟨_, rfl⟩, fun j hj => ?_⟩
    have hj : j < 300 := hj
    exact ⟨_, List.mem_cons_self, ⟨0, rfl, by decide, by decide⟩, by show (0 : Int) ≤ _; omega, by show _ ≤ (299 : Int); omega, Or.inl rfl⟩
  · cases hk
    refine ⟨_, _, (show xKT 202 = some (.inr (0, 12, _)) from rfl), rfl, _, rfl, ⟨_, rfl⟩, fun j hj => ?_⟩
    have hj : j < 12 := hj
    exact ⟨_, List.mem_cons_self, ⟨0, rfl, by decide, by decide⟩, by show (0 : Int) ≤ _; omega, by show _ ≤ (11 : Int); omega, Or.inl rfl⟩
  · cases hk
    refine ⟨_, _, (show xKT 203 = some (.inr (0, 12, _)) from rfl), rfl, _, rfl, ⟨_, rfl⟩, fun j hj => ?_⟩
    have hj : j < 12 := hj
    exact ⟨_, List.mem_cons_self, ⟨0, rfl, by decide, by decide⟩, by show (0 : Int) ≤ _; omega, by show _ ≤ (11 : Int); omega, Or.inl rfl⟩
  · cases hk
    refine ⟨_, _, (show xKT 204 = some (.inr (0, 12, _)) from rfl), rfl, _, rfl, ⟨_, rfl⟩, fun j hj => ?_⟩
    have hj : j < 12 := hj
    exact ⟨_, List.mem_cons_self, ⟨0, rfl, by decide, by decide⟩, by show (0 : Int) ≤ _; omega, by show _ ≤ (11 : Int); omega, Or.inl rfl⟩
  · cases hk
    refine ⟨_, _, (show xKT 205 = some (.inr (0, 12, _)) from rfl), rfl, _, rfl, ⟨_, rfl⟩, fun j hj => ?_⟩
    have hj : j < 12 := hj
    exact ⟨_, List.mem_cons_self, ⟨0, rfl, by decide, by decide⟩, by show (0 : Int) ≤ _; omega, by show _ ≤ (11 : Int); omega, Or.inl rfl⟩
  · cases hk
    refine ⟨_, _, (show xKT 206 = some (.inr (0, 12, _)) from rfl), rfl, _, rfl, ⟨_, rfl⟩, fun j hj => ?_⟩
    have hj : j < 12 := hj
    exact ⟨_, List.mem_cons_self, ⟨0, rfl, by decide, by decide⟩, by show (0 : Int) ≤ _; omega, by show _ ≤ (11 : Int); omega, Or.inl rfl⟩
end XTE
