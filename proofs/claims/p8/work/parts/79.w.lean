/-! By hand: enactSpare behind its loop -/
section XEW
variable {τ : List Nat} {h : zm_H} {og : Nat → Option zm_C}
theorem zh_e61 {d S : Nat} {x k : Int32} (τ0 : List Nat) (h0 : zm_H) (hH : xHI xKT xSG τ h) (hX : xX τ h) (hF : xF (xms [(7, 0), (7, 1), (7, 2), (8, 0), (200, 8)]) τ0 h0 τ h) (hW : xW h ≤ xW h0) (hS : τ[S]? = some 200) : zm_Y og (d + 1) 72 61 [(3, .int k), (2, .ref S), (0, .ref 7), (1, .int x)] [] h (xeQ τ0 h0) := by
  have s0 := hX.1
  obtain ⟨fs, h7, hl, hsp⟩ := xcf_o hH (s0 7 rfl) (show xKT 7 = some (.inl (3, _)) from rfl)
  have h7 : h[7]? = some (.inr (3, fs)) := h7
  have f0 : fs[0]? = some (.ref 8) := xone hl hsp rfl
  obtain ⟨a, f1, a0⟩ : ∃ c : Int32, fs[1]? = some (.int c) ∧ (0 : Int) ≤ c.toInt := by
    have hl2 : 1 < fs.length := by rw [hl]; decide
    have g := List.getElem?_eq_getElem hl2
    obtain ⟨a, ma, sa⟩ := hsp 1 _ _ rfl g
    have ma := List.mem_singleton.mp ma
    subst ma
    obtain ⟨c, e, c0, -⟩ := sa
    exact ⟨c, by rw [g, e], c0⟩
  obtain ⟨kB, h8, b2, -⟩ := xcf_a hH (s0 8 rfl) (show xKT 8 = some (.inr (5, 12, _)) from rfl)
  obtain ⟨g, rfl⟩ := b2
  have h8 : h[8]? = some (.inl (5, 12, .inr (.inr g))) := h8
  obtain ⟨ts, hhS, -, -⟩ := xcf_o hH hS (show xKT 200 = some (.inl (9, _)) from rfl)
  have hhS : h[S]? = some (.inr (9, ts)) := hhS
  have hS7 : 7 ≠ S := fun e => by rw [← e, s0 7 rfl] at hS; cases hS
  refine zy_n 1 (mr := zm_m72) rfl rfl ?_
  refine zy_h (mr := zm_m72) rfl rfl (zh_get h7 f1) ?_
  refine zy_n 1 (mr := zm_m72) rfl rfl ?_
  refine zy_b (mr := zm_m72) rfl rfl rfl ?_
  refine zc_ge (fun _ => zh_e103 hH hX hF (Nat.le_trans hW (Nat.le_add_right _ _)) hS) (fun hc => ?_)
  have e12 : (12 : Int32).toInt = 12 := rfl
  have a11 : a.toInt ≤ 11 := by
    have : ¬ (12 : Int32).toInt ≤ a.toInt := fun q => hc (Int32.le_iff_toInt_le.mpr q)
    omega
  obtain ⟨hin, hjn, hjlt⟩ := xin_ok (j := a) (n := 12) a0 (by omega)
  refine zy_n 1 (mr := zm_m72) rfl rfl ?_
  refine zy_h (mr := zm_m72) rfl rfl (zh_get h7 f0) ?_
  refine zy_n 2 (mr := zm_m72) rfl rfl ?_
  refine zy_h (mr := zm_m72) rfl rfl (zh_get h7 f1) ?_
  refine zy_n 3 (mr := zm_m72) rfl rfl ?_
  refine zy_h (mr := zm_m72) rfl rfl (zh_put h7 (by rw [hl]; rfl) rfl) ?_
  refine zy_n 1 (mr := zm_m72) rfl rfl ?_
  refine zy_h (mr := zm_m72) rfl rfl (zh_aast (zs_ne h8 (show (7 : Nat) ≠ 8 by decide)) (zs_ne hhS hS7) rfl hin) ?_
  refine zy_n 1 (mr := zm_m72) rfl rfl ?_
  refine xY_eq (List.set_comm _ _ (show (7 : Nat) ≠ 8 by decide)) ?_
  obtain ⟨hH1, hX1, hF1, hW1⟩ := xst_l (MS := xms [(7, 0), (7, 1), (7, 2), (8, 0), (200, 8)]) hH hX rfl h8 hS a0 a11
  have i7 := zs_ne (x := .inl (5, 12, .inr (.inr (va_up g a.toNatClampNeg (some S))))) h7 (show (8 : Nat) ≠ 7 by decide)
  have i8 := zs_eq (x := .inl (5, 12, .inr (.inr (va_up g a.toNatClampNeg (some S))))) h8
  obtain ⟨hH2, hX2, hF2, hW2⟩ := xct_l (MS := xms [(7, 0), (7, 1), (7, 2), (8, 0), (200, 8)]) hH1 hX1 rfl i7 f0 f1 i8 (by
    show (if _ = _ then some S else _) ≠ none
    rw [if_pos rfl]
    simp) a0 a11
  exact zh_e88 τ0 h0 hH2 hX2 (xF_trans hF (xF_trans hF1 hF2)) (by rw [hW2, hW1]; exact hW) hS
end XEW
