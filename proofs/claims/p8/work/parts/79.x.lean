/-! By hand: enactSpare, its loop -/
section XEX
variable {τ : List Nat} {h : zm_H} {og : Nat → Option zm_C}
theorem zh_e50 {d S : Nat} {x k : Int32} {τ' : List Nat} {h' : zm_H} (hH : xHI xKT xSG τ' h') (hX : xX τ' h') (hF : xF (xms [(7, 0), (7, 1), (7, 2), (8, 0), (200, 8)]) τ h τ' h') (hW : xW h' ≤ xW h + 500) (hS : τ'[S]? = some 200) : zm_Y og d 72 50 [(3, .int k), (2, .ref S), (0, .ref 7), (1, .int x)] [] h' (xeQ τ h) := by
  obtain ⟨fs, hh, hl, hsp⟩ := xcf_o hH hS (show xKT 200 = some (.inl (9, _)) from rfl)
  have hl2 : 7 < fs.length := by rw [hl]; decide
  have g := List.getElem?_eq_getElem hl2
  obtain ⟨a, ma, sa⟩ := hsp 7 _ _ rfl g
  have ma := List.mem_singleton.mp ma
  subst ma
  obtain ⟨c, e, c0, c1⟩ := sa
  rw [e] at g
  refine zy_n 1 (mr := zm_m72) rfl rfl ?_
  refine zy_h (mr := zm_m72) rfl rfl (zh_get hh g) ?_
  exact zy_r (mr := zm_m72) rfl rfl rfl ⟨⟨c, rfl, c0, c1⟩, τ', hH, hX, hF, hW⟩
theorem zh_e33 {d S T : Nat} {x k : Int32} {g : Nat → Option Nat} (τ0 : List Nat) (h0 : zm_H) (hH : xHI xKT xSG τ h) (hX : xX τ h) (hF : xF (xms [(7, 0), (7, 1), (7, 2), (8, 0), (200, 8)]) τ0 h0 τ h) (hW : xW h ≤ xW h0) (hS : τ[S]? = some 200) (h8 : h[8]? = some (.inl (5, 12, .inr (.inr g)))) (k0 : 0 ≤ k.toInt) (k11 : k.toInt ≤ 11) (hg : g k.toNatClampNeg = some T) (hT : τ[T]? = some 200) : zm_Y og d 72 33 [(3, .int k), (2, .ref S), (0, .ref 7), (1, .int x)] [] h (xeQ τ0 h0) := by
  have s0 := hX.1
  obtain ⟨fs, h7, hl, hsp⟩ := xcf_o hH (s0 7 rfl) (show xKT 7 = some (.inl (3, _)) from rfl)
  have h7 : h[7]? = some (.inr (3, fs)) := h7
  have f0 : fs[0]? = some (.ref 8) := xone hl hsp rfl
  have g0 : (fs.set 2 (.ref T))[0]? = some (.ref 8) := by rw [List.getElem?_set_ne (by decide)]; exact f0
  obtain ⟨ts, hhS, -, -⟩ := xcf_o hH hS (show xKT 200 = some (.inl (9, _)) from rfl)
  have hhS : h[S]? = some (.inr (9, ts)) := hhS
  have hS7 : 7 ≠ S := fun e => by rw [← e, s0 7 rfl] at hS; cases hS
  obtain ⟨hin, hjn, hjlt⟩ := xin_ok (j := k) (n := 12) k0 (by omega)
  refine zy_n 2 (mr := zm_m72) rfl rfl ?_
  refine zy_h (mr := zm_m72) rfl rfl (zh_get h7 f0) ?_
  refine zy_n 1 (mr := zm_m72) rfl rfl ?_
  refine zy_h (mr := zm_m72) rfl rfl (zh_aald h8 rfl hin hg) ?_
  refine zy_h (mr := zm_m72) rfl rfl (zh_put h7 (by rw [hl]; rfl) rfl) ?_
  refine zy_n 1 (mr := zm_m72) rfl rfl ?_
  refine zy_h (mr := zm_m72) rfl rfl (zh_get (zs_eq h7) g0) ?_
  refine zy_n 2 (mr := zm_m72) rfl rfl ?_
  have i8 := zs_ne (x := .inr (3, fs.set 2 (.ref T))) h8 (show (7 : Nat) ≠ 8 by decide)
  refine zy_h (mr := zm_m72) rfl rfl (zh_aast i8 (zs_ne hhS hS7) rfl hin) ?_
  have hH1 := xHI_setf (f := 2) (v := .ref T) hH (s0 7 rfl) (show xKT 7 = some (.inl (3, _)) from rfl) h7 (fun sp hs => by
    cases hs
    exact ⟨_, List.mem_cons_self, T, rfl, hT⟩)
  have hX1 := xXW_ok.1 _ _ 7 7 3 2 fs (.ref T) hX (s0 7 rfl) rfl h7 (by rw [hl]; decide)
  have hF1 := xF_setf (MS := xms [(7, 0), (7, 1), (7, 2), (8, 0), (200, 8)]) (f := 2) (v := .ref T) (s0 7 rfl) rfl h7
  obtain ⟨hH2, hX2, hF2, hW2⟩ := xst_l (MS := xms [(7, 0), (7, 1), (7, 2), (8, 0), (200, 8)]) hH1 hX1.1 rfl i8 hS k0 k11
  exact zh_e50 hH2 hX2 (xF_trans hF (xF_trans hF1 hF2)) (Nat.le_trans (Nat.le_of_eq (hW2.trans hX1.2)) (Nat.le_trans hW (Nat.le_add_right _ _))) hS
end XEX
