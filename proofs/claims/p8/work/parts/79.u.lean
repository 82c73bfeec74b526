/-! By hand: enactSpare, the end of the walk -/
section XEU
variable {τ : List Nat} {h : zm_H} {og : Nat → Option zm_C}
theorem xt_eq {D H' a b c d e g : zm_C} : ((((((((h ++ [D]) ++ [a]) ++ [b]) ++ [c]) ++ [d]) ++ [e]) ++ [g]).set h.length H') = h ++ [H', a, b, c, d, e, g] := by
  simp only [List.append_assoc]
  rw [List.set_append_right _ _ (Nat.le_refl _), Nat.sub_self]
  rfl
def xeQ (τ : List Nat) (h : zm_H) (r : Option Value) (h' : zm_H) : Prop := (∃ b : Int32, r = some (.int b) ∧ 0 ≤ b.toInt ∧ b.toInt ≤ 12) ∧ ∃ τ', xHI xKT xSG τ' h' ∧ xX τ' h' ∧ xF (xms [(7, 0), (7, 1), (7, 2), (8, 0), (200, 8)]) τ h τ' h' ∧ xW h' ≤ xW h + 500
theorem zh_e103 {d S : Nat} {x k : Int32} {τ' : List Nat} {h' : zm_H} (hH : xHI xKT xSG τ' h') (hX : xX τ' h') (hF : xF (xms [(7, 0), (7, 1), (7, 2), (8, 0), (200, 8)]) τ h τ' h') (hW : xW h' ≤ xW h + 500) (hS : τ'[S]? = some 200) : zm_Y og d 72 103 [(3, .int k), (2, .ref S), (0, .ref 7), (1, .int x)] [] h' (xeQ τ h) := by
  obtain ⟨fs, hh, hl, hsp⟩ := xcf_o hH hS (show xKT 200 = some (.inl (9, _)) from rfl)
  have hl2 : 7 < fs.length := by rw [hl]; decide
  have g := List.getElem?_eq_getElem hl2
  obtain ⟨a, ma, sa⟩ := hsp 7 _ _ rfl g
  have ma := List.mem_singleton.mp ma
  subst ma
  obtain ⟨c, e, c0, c1⟩ := sa
  rw [e] at g
  refine zy_n 1 (mr := zm_m72) rfl rfl ?_
  refine zy_h (mr := zm_m72) rfl rfl (zh_get hh g) ?_
  exact zy_r (mr := zm_m72) rfl rfl rfl ⟨⟨c, rfl, c0, c1⟩, τ', hH, hX, hF, hW⟩
end XEU
