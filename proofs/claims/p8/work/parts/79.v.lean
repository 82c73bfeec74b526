/-! By hand: enactSpare, a new ACT -/
section XEV
variable {τ : List Nat} {h : zm_H} {og : Nat → Option zm_C}
theorem zh_e88 {d S : Nat} {x k : Int32} (τ0 : List Nat) (h0 : zm_H) (hH : xHI xKT xSG τ h) (hX : xX τ h) (hF : xF (xms [(7, 0), (7, 1), (7, 2), (8, 0), (200, 8)]) τ0 h0 τ h) (hW : xW h ≤ xW h0) (hS : τ[S]? = some 200) : zm_Y og (d + 1) 72 88 [(3, .int k), (2, .ref S), (0, .ref 7), (1, .int x)] [.ref 7] h (xeQ τ0 h0) := by
  have s0 := hX.1
  have hlen := hH.1
  have l36 : 36 < h.length := by
    have := (List.getElem?_eq_some_iff.mp (s0 36 rfl)).1
    omega
  obtain ⟨fs, h7, hl, -⟩ := xcf_o hH (s0 7 rfl) (show xKT 7 = some (.inl (3, _)) from rfl)
  have h7 : h[7]? = some (.inr (3, fs)) := h7
  have hnew : (h ++ [Sum.inr (9, zm_df 9)])[h.length]? = some (.inr (9, zm_df 9)) := by
    rw [List.getElem?_append_right (Nat.le_refl _), Nat.sub_self]
    rfl
  refine zy_h (mr := zm_m72) rfl rfl (zh_new (n := h.length) rfl) ?_
  refine zy_n 3 (mr := zm_m72) rfl rfl ?_
  refine zy_c (mr := zm_m72) (mc := zm_m3) rfl rfl rfl rfl rfl ?_
  refine (zh_tin hnew).mono (fun q h' hq => ?_)
  obtain ⟨rfl, rfl⟩ := hq
  refine xY_eq (h' := h ++ xtcs h.length) ?_ ?_
  · simp only [List.length_append, List.length_singleton]
    exact xt_eq
  have hK := xHI_text hH
  have hXK := xX_text (cs := xtcs h.length) hH hX
  have k7 : (h ++ xtcs h.length)[7]? = some (.inr (3, fs)) := zs_app h7
  have t7 : (τ ++ [200, 201, 202, 203, 204, 205, 206])[7]? = some 7 := xgl (s0 7 rfl)
  have hN : (τ ++ [200, 201, 202, 203, 204, 205, 206])[h.length]? = some 200 := by
    rw [hlen, List.getElem?_append_right (Nat.le_refl _), Nat.sub_self]
    rfl
  have hWK := xW_text l36
  refine zy_h (mr := zm_m72) rfl rfl (zh_put k7 (by rw [hl]; rfl) rfl) ?_
  have hH1 := xHI_setf (f := 2) (v := .ref h.length) hK t7 (show xKT 7 = some (.inl (3, _)) from rfl) k7 (fun sp hs => by
    cases hs
    exact ⟨_, List.mem_cons_self, h.length, rfl, hN⟩)
  have hX1 := xXW_ok.1 _ _ 7 7 3 2 fs (.ref h.length) hXK t7 rfl k7 (by rw [hl]; decide)
  have hF1 := xF_setf (MS := xms [(7, 0), (7, 1), (7, 2), (8, 0), (200, 8)]) (f := 2) (v := .ref h.length) t7 rfl k7
  exact zh_e103 hH1 hX1.1 (xF_trans hF (xF_trans xF_apl hF1)) (by rw [hX1.2]; omega) (xgl hS)
end XEV
