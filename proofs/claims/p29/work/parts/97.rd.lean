/-! Houses, years, lines: piece 3 (made by a program) -/
section XC1
variable {og : Nat → Option zm_C} {τ τ' : List Nat} {h h' : zm_H} {ms : List (Nat × Nat)} {ad : Nat → Nat} {n : Nat} {st dn rf : Nat → Int32} {nr y L : Int32} {wk : Nat → Int32}
theorem zh_isE {d : Nat} {a : Int32} : zm_Y og (d + 1) 13 0 [(0, .int a)] [] h (fun r h' => h' = h ∧ r = some (.int (if (0 : Int32).toInt ≤ a.toInt ∧ a.toInt ≤ (10000 : Int32).toInt then 1 else 0))) := by
  refine zy_n 3 (mr := zm_m13) rfl rfl ?_
  refine zy_c (mr := zm_m13) (mc := zm_m10) rfl rfl rfl rfl rfl ?_
  refine zh_withinE.mono (fun q h' hq => ?_)
  obtain ⟨rfl, rfl⟩ := hq
  by_cases c : (0 : Int32).toInt ≤ a.toInt ∧ a.toInt ≤ (10000 : Int32).toInt
  · rw [if_pos c]
    exact zy_r (mr := zm_m13) rfl rfl rfl ⟨rfl, rfl⟩
  · rw [if_neg c]
    exact zy_r (mr := zm_m13) rfl rfl rfl ⟨rfl, rfl⟩
theorem zh_ifE {d : Nat} {a : Int32} : zm_Y og (d + 1) 14 0 [(0, .int a)] [] h (fun r h' => h' = h ∧ r = some (.int (if (1 : Int32).toInt ≤ a.toInt ∧ a.toInt ≤ (9 : Int32).toInt then 1 else 0))) := by
  refine zy_n 3 (mr := zm_m14) rfl rfl ?_
  refine zy_c (mr := zm_m14) (mc := zm_m10) rfl rfl rfl rfl rfl ?_
  refine zh_withinE.mono (fun q h' hq => ?_)
  obtain ⟨rfl, rfl⟩ := hq
  by_cases c : (1 : Int32).toInt ≤ a.toInt ∧ a.toInt ≤ (9 : Int32).toInt
  · rw [if_pos c]
    exact zy_r (mr := zm_m14) rfl rfl rfl ⟨rfl, rfl⟩
  · rw [if_neg c]
    exact zy_r (mr := zm_m14) rfl rfl rfl ⟨rfl, rfl⟩
theorem xoap {k : Nat} (hk : k < 16) : Int32.ofNat k + 1 - 1 = Int32.ofNat k := by
  apply Int32.toInt_inj.mp
  have ea : xI32a = -2147483648 := rfl
  have eb : xI32b = 2147483647 := rfl
  rw [xofs (by omega), Int32.toInt_sub, (xofn (k := k + 1) (by omega)).1, show (1 : Int32).toInt = 1 from rfl, xb_bm32 (by omega) (by omega), (xofn (k := k) (by omega)).1]
  omega
theorem xCM_st {v : Int32} (hc : xCM h n st dn rf nr y L wk) (hg : xag [(1, 62, n)] h h') (hs : xar h' 62 n = some (.int v)) : xCM h' n (upd st n v) dn rf nr y L wk := by
  obtain ⟨hn, f1, f2, f3, f4, hw, hh, hz⟩ := hc
  refine ⟨hn, hg.1 _ _ _ (by simp) f1, hg.1 _ _ _ (by simp) f2, hg.1 _ _ _ (by simp) f3, hg.1 _ _ _ (by simp) f4, fun j hj => hg.2 _ _ _ (by simp) (hw j hj), fun i2 hi => ?_, fun i k1 k2 => hg.2 _ _ _ (by simp) (hz i k1 k2)⟩
  obtain ⟨k1, k2, k3⟩ := hh i2 hi
  refine ⟨?_, hg.2 _ _ _ (by simp) k2, hg.2 _ _ _ (by simp) k3⟩
  have e : i2 ≠ n := by omega
  rw [show upd st n v i2 = st i2 from if_neg e]
  exact hg.2 _ _ _ (by simp [e]) k1
theorem xCM_n (hc : xCM h n st dn rf nr y L wk) (hn : n < 16) (g1 : xar h 62 n = some (.int (st n))) (g2 : xar h 68 n = some (.int (rf n))) (hg : xag [(0, 55, 6)] h h') (hs : xfd h' 55 6 = some (.int (Int32.ofNat n + 1))) : xCM h' (n + 1) st (upd dn n 0) rf nr y L wk := by
  obtain ⟨-, f1, f2, f3, f4, hw, hh, hz⟩ := hc
  rw [xofs (by omega)] at hs
  refine ⟨by omega, hs, hg.1 _ _ _ (by simp) f2, hg.1 _ _ _ (by simp) f3, hg.1 _ _ _ (by simp) f4, fun j hj => hg.2 _ _ _ (by simp) (hw j hj), fun i hi => ?_, fun i k1 k2 => hg.2 _ _ _ (by simp) (hz i (by omega) k2)⟩
  by_cases e : i = n
  · subst e
    rw [show upd dn i 0 i = 0 from if_pos rfl]
    exact ⟨hg.2 _ _ _ (by simp) g1, hg.2 _ _ _ (by simp) g2, hg.2 _ _ _ (by simp) (hz i (Nat.le_refl _) hn)⟩
  · obtain ⟨k1, k2, k3⟩ := hh i (by omega)
    rw [show upd dn n 0 i = dn i from if_neg e]
    exact ⟨hg.2 _ _ _ (by simp) k1, hg.2 _ _ _ (by simp) k2, hg.2 _ _ _ (by simp) k3⟩
theorem zh_h49C {d : Nat} {s w f m : Int32} (hH : xHI xKT xSG τ h) (hX : xX τ h) (hc : xCXa ad τ h n st dn rf nr y L wk) (hn16 : n < 16) (sr : 0 ≤ s.toInt ∧ s.toInt ≤ 3) (m0 : 0 ≤ m.toInt ∧ m.toInt ≤ 60) : zm_Y og (d + 1) 12 49 [(0, .ref 0), (1, .int s), (2, .int w), (3, .int f), (4, .int m)] [] h (xCO τ h 90 [(0, 1), (0, 2), (1, 0), (36, 9)] (fun r => r = some (.int (Int32.ofNat n))) (fun τ1 h1 => xCX τ1 h1 (n + 1) (upd st n s) (upd dn n 0) (upd rf n nr) (nr + 1) y L wk)) := by
  obtain ⟨hn, e1, e2, e3, e4, hw, hh, hi⟩ := hc
  have hcn := xofn (k := n) (by omega)
  generalize hcd : Int32.ofNat n = c at *
  have c0 : 0 ≤ c.toInt := by omega
  have c15 : c.toInt ≤ 15 := by omega
  have s0 := hX.1
  have hlen := hH.1
  have sg : ∀ a : Nat, xSG a = true → a < h.length := fun a ha => by
    have := (List.getElem?_eq_some_iff.mp (s0 a ha)).1
    omega
  obtain ⟨fs, h0, hl, hsp⟩ := xcf_o hH (s0 0 rfl) (show xKT 0 = some (.inl (10, _)) from rfl)
  have h0 : h[0]? = some (.inr (10, fs)) := h0
  have f1 : fs[1]? = some (.int c) := xfd_obj h0 e1
  have f0 : fs[0]? = some (.ref 1) := by
    have hl2 : 0 < fs.length := by rw [hl]; decide
    have g := List.getElem?_eq_getElem hl2
    obtain ⟨a, ma, sa⟩ := hsp 0 _ _ rfl g
    have ma := List.mem_singleton.mp ma
    subst ma
    rw [g, show fs[0] = .ref 1 from sa]
  have f10 : fs[10]? = some (.ref 36) := by
    have hl2 : 10 < fs.length := by rw [hl]; decide
    have g := List.getElem?_eq_getElem hl2
    obtain ⟨a, ma, sa⟩ := hsp 10 _ _ rfl g
    have ma := List.mem_singleton.mp ma
    subst ma
    rw [g, show fs[10] = .ref 36 from sa]
  have f2 : fs[2]? = some (.int nr) := xfd_obj h0 e2
  obtain ⟨kB, h1, b2, -⟩ := xcf_a hH (s0 1 rfl) (show xKT 1 = some (.inr (4, 16, _)) from rfl)
  obtain ⟨g, rfl⟩ := b2
  have h1 : h[1]? = some (.inl (4, 16, .inr (.inr g))) := h1
  obtain ⟨ps, h36, hl36, -⟩ := xcf_o hH (s0 36 rfl) (show xKT 36 = some (.inl (6, _)) from rfl)
  have h36 : h[36]? = some (.inr (6, ps)) := h36
  have b2 : Nat.blt 2 fs.length = true := by rw [hl]; rfl
  refine zy_n 1 (mr := zm_m12) rfl rfl ?_
  refine zy_h (mr := zm_m12) rfl rfl (zh_get h0 f0) ?_
  refine zy_n 1 (mr := zm_m12) rfl rfl ?_
  refine zy_h (mr := zm_m12) rfl rfl (zh_get h0 f1) ?_
  refine zy_h (mr := zm_m12) rfl rfl (zh_new (n := h.length) rfl) ?_
  refine zy_n 7 (mr := zm_m12) rfl rfl ?_
  refine zy_h (mr := zm_m12) rfl rfl (zh_get (zs_app h0) f2) ?_
  refine zy_n 3 (mr := zm_m12) rfl rfl ?_
  refine zy_h (mr := zm_m12) rfl rfl (zh_put (zs_app h0) b2 rfl) ?_
  have hnew : ((h ++ [Sum.inr (2, zm_df 2)]).set 0 (Sum.inr (10, fs.set 2 (.int (nr + 1)))))[h.length]? = some (.inr (2, zm_df 2)) := by
    rw [List.getElem?_set_ne (by have := sg 0 rfl; omega), List.getElem?_append_right (Nat.le_refl _), Nat.sub_self]
    rfl
  refine zy_c (mr := zm_m12) (mc := zm_m15) rfl rfl rfl rfl rfl ?_
  refine (zh_hin (s := s) (w := w) (f := f) (m := m) (r := nr) hnew).mono (fun q h' hq => ?_)
  obtain ⟨rfl, rfl⟩ := hq
  have hK := xHI_house (s := s) (w := w) (f := f) (r := nr) hH m0
  have hXK := xX_house (s := s) (w := w) (f := f) (m := m) (r := nr) hH hX
  have hFK : xF (xms [(0, 1), (0, 2), (1, 0), (36, 9)]) τ h (τ ++ [207, 208, 209]) (h ++ [xhho h.length s w f m nr, xhc1, xhc2]) := xF_apl
  have hWK := xW_house (s := s) (w := w) (f := f) (m := m) (r := nr) (sg 36 rfl)
  have hN : (τ ++ [207, 208, 209])[h.length]? = some 207 := by
    rw [hlen, List.getElem?_append_right (Nat.le_refl _), Nat.sub_self]
    rfl
  have kN : (h ++ [xhho h.length s w f m nr, xhc1, xhc2])[h.length]? = some (xhho h.length s w f m nr) := by
    rw [List.getElem?_append_right (Nat.le_refl _), Nat.sub_self]
    rfl
  have k0 : (h ++ [xhho h.length s w f m nr, xhc1, xhc2])[0]? = some (.inr (10, fs)) := zs_app h0
  have k1 : (h ++ [xhho h.length s w f m nr, xhc1, xhc2])[1]? = some (.inl (4, 16, .inr (.inr g))) := zs_app h1
  have k36 : (h ++ [xhho h.length s w f m nr, xhc1, xhc2])[36]? = some (.inr (6, ps)) := zs_app h36
  have t0 : (τ ++ [207, 208, 209])[0]? = some 0 := xgl (s0 0 rfl)
  have t36 : (τ ++ [207, 208, 209])[36]? = some 36 := xgl (s0 36 rfl)
  have hn0 : 0 ≠ h.length := by have := sg 0 rfl; omega
  refine xY_eq (h' := (h ++ [xhho h.length s w f m nr, xhc1, xhc2]).set 0 (.inr (10, fs.set 2 (.int (nr + 1))))) ?_ ?_
  · have e1 : ((h ++ [Sum.inr (2, zm_df 2)]).set 0 (Sum.inr (10, fs.set 2 (.int (nr + 1))))).length = h.length + 1 := by simp
    have e2 : ((h ++ [Sum.inr (2, zm_df 2)]).set 0 (Sum.inr (10, fs.set 2 (.int (nr + 1)))) ++ [xhc1]).length = h.length + 2 := by simp
    rw [e1, e2]
    exact xh_eq (sg 0 rfl)
  have hA1 : ∀ (b g : Nat) (v : Value), xfd h b g = some v → xfd (h ++ [xhho h.length s w f m nr, xhc1, xhc2]) b g = some v := fun b g v e => by
    unfold xfd at e ⊢
    split at e
    · rename_i o ho
      rw [zs_app ho]
      exact e
    · cases e
  have hA2 : ∀ (b g : Nat) (v : Value), xar h b g = some v → xar (h ++ [xhho h.length s w f m nr, xhc1, xhc2]) b g = some v := fun b g v e => by
    unfold xar at e ⊢
    split at e
    · rename_i o ho
      rw [zs_app ho]
      exact e
    · cases e
  have hB0 : xfd (h ++ [xhho h.length s w f m nr, xhc1, xhc2]) h.length 0 = some (.int s) := by
    unfold xfd
    rw [kN]
    rfl
  have hB4 : xfd (h ++ [xhho h.length s w f m nr, xhc1, xhc2]) h.length 4 = some (.int nr) := by
    unfold xfd
    rw [kN]
    rfl
  have hB9 : xfd (h ++ [xhho h.length s w f m nr, xhc1, xhc2]) h.length 9 = some (.int 0) := by
    unfold xfd
    rw [kN]
    rfl
  have hT : ∀ (a kd : Nat), τ[a]? = some kd → (τ ++ [207, 208, 209])[a]? = some kd := fun a kd e => xgl e
  generalize h ++ [xhho h.length s w f m nr, xhc1, xhc2] = K at *
  generalize τ ++ [207, 208, 209] = T at *
  have hH1 := xHI_setf (f := 2) (v := .int (nr + 1)) hK t0 (show xKT 0 = some (.inl (10, _)) from rfl) k0 (fun sp hs => by
    cases hs
    exact ⟨_, List.mem_cons_self, nr + 1, rfl, (xb_rng _).1, (xb_rng _).2⟩)
  have hX1 := xXW_ok.1 T K 0 0 10 2 fs (.int (nr + 1)) hXK t0 rfl k0 (by rw [hl]; decide)
  have hF1 := xF_setf (MS := xms [(0, 1), (0, 2), (1, 0), (36, 9)]) (f := 2) (v := .int (nr + 1)) t0 rfl k0
  have j0 := zs_eq (x := .inr (10, fs.set 2 (.int (nr + 1)))) k0
  have j1 := zs_ne (x := .inr (10, fs.set 2 (.int (nr + 1)))) k1 (show (0 : Nat) ≠ 1 by decide)
  have jN := zs_ne (x := .inr (10, fs.set 2 (.int (nr + 1)))) kN hn0
  have j36 := zs_ne (x := .inr (10, fs.set 2 (.int (nr + 1)))) k36 (show (0 : Nat) ≠ 36 by decide)
  have hg1 := xag_o (f := 2) (v := .int (nr + 1)) k0
  have hv2 : xfd (K.set 0 (.inr (10, fs.set 2 (.int (nr + 1))))) 0 2 = some (.int (nr + 1)) := by
    unfold xfd
    rw [j0]
    exact List.getElem?_set_self (by rw [hl]; decide)
  generalize K.set 0 (.inr (10, fs.set 2 (.int (nr + 1)))) = K1 at *
  have g0 : (fs.set 2 (.int (nr + 1)))[0]? = some (.ref 1) := by rw [List.getElem?_set_ne (by decide)]; exact f0
  have g1 : (fs.set 2 (.int (nr + 1)))[1]? = some (.int c) := by rw [List.getElem?_set_ne (by decide)]; exact f1
  have g10 : (fs.set 2 (.int (nr + 1)))[10]? = some (.ref 36) := by rw [List.getElem?_set_ne (by decide)]; exact f10
  have gl : Nat.blt 1 (fs.set 2 (.int (nr + 1))).length = true := by rw [List.length_set, hl]; rfl
  generalize fs.set 2 (.int (nr + 1)) = gs at *
  obtain ⟨hin, hjn, hjlt⟩ := xin_ok (j := c) (n := 16) c0 (by omega)
  obtain ⟨hH2, hX2, hF2, hW2⟩ := xst_h (MS := xms [(0, 1), (0, 2), (1, 0), (36, 9)]) hH1 hX1.1 rfl j1 hN c0 c15
  refine zy_h (mr := zm_m12) rfl rfl (zh_aast j1 jN rfl hin) ?_
  have i0 := zs_ne (x := .inl (4, 16, .inr (.inr (va_up g c.toNatClampNeg (some h.length))))) j0 (show (1 : Nat) ≠ 0 by decide)
  have i1 := zs_eq (x := .inl (4, 16, .inr (.inr (va_up g c.toNatClampNeg (some h.length))))) j1
  have i36 := zs_ne (x := .inl (4, 16, .inr (.inr (va_up g c.toNatClampNeg (some h.length))))) j36 (show (1 : Nat) ≠ 36 by decide)
  have hg2 : xag [(1, 1, c.toNatClampNeg)] K1 (K1.set 1 (.inl (4, 16, .inr (.inr (va_up g c.toNatClampNeg (some h.length)))))) := xag_a j1 (fun m _ hne => by
    show va_rf (if m = _ then _ else _) = va_rf (g m)
    rw [if_neg hne])
  have hv1 : xar (K1.set 1 (.inl (4, 16, .inr (.inr (va_up g c.toNatClampNeg (some h.length)))))) 1 c.toNatClampNeg = some (.ref h.length) := by
    unfold xar
    rw [i1]
    show (if c.toNatClampNeg < 16 then some (va_rf (if c.toNatClampNeg = c.toNatClampNeg then some h.length else g c.toNatClampNeg)) else none) = _
    rw [if_pos hjlt, if_pos rfl]
    rfl
  generalize K1.set 1 (.inl (4, 16, .inr (.inr (va_up g c.toNatClampNeg (some h.length))))) = K2 at *
  refine zy_n 1 (mr := zm_m12) rfl rfl ?_
  refine zy_h (mr := zm_m12) rfl rfl (zh_get i0 g10) ?_
  refine zy_n 1 (mr := zm_m12) rfl rfl ?_
  refine zy_h (mr := zm_m12) rfl rfl (zh_put i36 (by rw [hl36]; rfl) rfl) ?_
  have hH3 := xHI_setf (f := 9) (v := .int 0) hH2 t36 (show xKT 36 = some (.inl (6, _)) from rfl) i36 (fun sp hs => by
    cases hs
    exact ⟨_, List.mem_cons_self, 0, rfl, by decide, by decide⟩)
  have hX3 := xXW_ok.1 T K2 36 36 6 9 ps (.int 0) hX2 t36 rfl i36 (by rw [hl36]; decide)
  have hF3 := xF_setf (MS := xms [(0, 1), (0, 2), (1, 0), (36, 9)]) (f := 9) (v := .int 0) t36 rfl i36
  have l0 := zs_ne (x := .inr (6, ps.set 9 (.int 0))) i0 (show (36 : Nat) ≠ 0 by decide)
  have l1 := zs_ne (x := .inr (6, ps.set 9 (.int 0))) i1 (show (36 : Nat) ≠ 1 by decide)
  have hg3 := xag_o (f := 9) (v := .int 0) i36
  generalize K2.set 36 (.inr (6, ps.set 9 (.int 0))) = K3 at *
  refine zy_n 2 (mr := zm_m12) rfl rfl ?_
  refine zy_h (mr := zm_m12) rfl rfl (zh_get l0 g1) ?_
  refine zy_n 3 (mr := zm_m12) rfl rfl ?_
  refine zy_h (mr := zm_m12) rfl rfl (zh_put l0 gl rfl) ?_
  obtain ⟨hH4, hX4, hF4, hW4⟩ := xct_h (MS := xms [(0, 1), (0, 2), (1, 0), (36, 9)]) hH3 hX3.1 rfl l0 g0 g1 l1 (by
    show (if _ = _ then some h.length else _) ≠ none
    rw [if_pos rfl]
    simp) c0 c15
  have hg4 := xag_o (f := 1) (v := .int (c + 1)) l0
  have hv0 : xfd (K3.set 0 (.inr (10, gs.set 1 (.int (c + 1))))) 0 1 = some (.int (c + 1)) := by
    unfold xfd
    rw [zs_eq l0]
    exact List.getElem?_set_self (Nat.blt_eq.mp gl)
  have ecn : c.toNatClampNeg = n := hcn.2
  rw [ecn] at hg2 hv1
  have hG := xag_trans (xag_trans (xag_trans hg1 hg2) hg3) hg4
  have k36 : ∀ i, i < n → ad i ≠ 36 := fun i hi => xne207 hH (hh i hi).2.1 rfl
  have kln : ∀ i, i < n → ad i ≠ h.length := fun i hi => by
    have := (List.getElem?_eq_some_iff.mp (hh i hi).2.1).1
    omega
  have hn36 : h.length ≠ 36 := by have := sg 36 rfl; omega
  obtain ⟨ad2, p1, p2⟩ : ∃ ad2 : Nat → Nat, ad2 n = h.length ∧ ∀ j, j ≠ n → ad2 j = ad j := ⟨fun j => if j = n then h.length else ad j, if_pos rfl, fun j hj => if_neg hj⟩
  refine zy_r (mr := zm_m12) rfl rfl rfl ?_
  show xCO τ h 90 [(0, 1), (0, 2), (1, 0), (36, 9)] (fun r => r = some (.int c)) (fun τ1 h1 => xCX τ1 h1 (n + 1) (upd st n s) (upd dn n 0) (upd rf n nr) (nr + 1) y L wk) (some (.int c)) (K3.set 0 (.inr (10, gs.set 1 (.int (c + 1)))))
  refine ⟨rfl, T, hH4, hX4, ?_, xF_trans hFK (xF_trans hF1 (xF_trans hF2 (xF_trans hF3 hF4))), ad2, by omega, ?_, hg4.1 _ _ _ (by simp) (hg3.1 _ _ _ (by simp) (hg2.1 _ _ _ (by simp) hv2)), hG.1 _ _ _ (by simp) (hA1 _ _ _ e3), hG.1 _ _ _ (by simp) (hA1 _ _ _ e4), fun j hj => hG.2 _ _ _ (by simp) (hA2 _ _ _ (hw j hj)), fun i hi2 => ?_, fun i j hi1 hj1 he => ?_⟩
  · have e1 := hX1.2
    have e3 := hX3.2
    omega
  · rw [hv0, ← hcd, xofs (by omega)]
  · by_cases e : i = n
    · subst e
      rw [show upd st i s i = s from if_pos rfl, show upd rf i nr i = nr from if_pos rfl, show upd dn i 0 i = 0 from if_pos rfl, p1]
      exact ⟨hg4.2 _ _ _ (by simp) (hg3.2 _ _ _ (by simp) hv1), hN, hG.1 _ _ _ (by simp) hB0, hG.1 _ _ _ (by simp) hB4, hG.1 _ _ _ (by simp [hn36]) hB9⟩
    · obtain ⟨q1, q2, q3, q4, q5⟩ := hh i (by omega)
      rw [show upd st n s i = st i from if_neg e, show upd rf n nr i = rf i from if_neg e, show upd dn n 0 i = dn i from if_neg e, p2 i e]
      exact ⟨hG.2 _ _ _ (by simp [e]) (hA2 _ _ _ q1), hT _ _ q2, hG.1 _ _ _ (by simp) (hA1 _ _ _ q3), hG.1 _ _ _ (by simp) (hA1 _ _ _ q4), hG.1 _ _ _ (by simp [k36 i (by omega)]) (hA1 _ _ _ q5)⟩
  · by_cases ei : i = n
    · by_cases ej : j = n
      · rw [ei, ej]
      · rw [ei, p1, p2 j ej] at he
        exact absurd he.symm (kln j (by omega))
    · by_cases ej : j = n
      · rw [ej, p1, p2 i ei] at he
        exact absurd he (kln i (by omega))
      · rw [p2 i ei, p2 j ej] at he
        exact hi i j (by omega) (by omega) he
theorem xh_x_bad {d : Nat} {a w f m : Int32} (hH : xHI xKT xSG τ h) (hX : xX τ h) (hc : xCXa ad τ h n st dn rf nr y L wk) (hb : ¬ ((0 ≤ a.toInt ∧ a.toInt ≤ 3) ∧ (0 ≤ w.toInt ∧ w.toInt ≤ 10000) ∧ (1 ≤ f.toInt ∧ f.toInt ≤ 9) ∧ 1 ≤ m.toInt ∧ m.toInt ≤ 60)) : zm_Y og (d + 2) 12 0 [(0, .ref 0), (1, .int a), (2, .int w), (3, .int f), (4, .int m)] [] h (xCO τ h 90 [(0, 1), (0, 2), (1, 0), (36, 9)] (fun r => r = some (.int (-2))) (fun τ1 h1 => xCX τ1 h1 n st dn rf nr y L wk)) := by
  obtain ⟨hn, f1, f2, f3, f4, hw, hh, hi⟩ := id hc
  by_cases c0 : 0 ≤ a.toInt ∧ a.toInt ≤ 3
  rotate_left
  · refine zy_n 3 (mr := zm_m12) rfl (show _ = some (3, [(0, .ref 0), (1, .int a), (2, .int w), (3, .int f), (4, .int m)], [.int 3, .int 0, .int a]) from rfl) ?_
    refine zy_c (mr := zm_m12) (mc := zm_m10) rfl rfl rfl rfl rfl ?_
    refine zh_withinE.mono (fun q h' hq => ?_)
    obtain ⟨hez, rfl⟩ := hq
    rw [hez]
    rw [if_neg (show ¬ ((0 : Int32).toInt ≤ a.toInt ∧ a.toInt ≤ (3 : Int32).toInt) from by rw [show (0 : Int32).toInt = 0 from rfl, show (3 : Int32).toInt = 3 from rfl]; exact c0)]
    refine zy_b (mr := zm_m12) rfl rfl (show _ = some (34, []) from rfl) ?_
    refine zy_n 1 (mr := zm_m12) rfl (show _ = some (36, [(0, .ref 0), (1, .int a), (2, .int w), (3, .int f), (4, .int m)], [.int (-2)]) from rfl) ?_
    refine zy_r (mr := zm_m12) rfl rfl (show _ = some (some (.int (-2))) from rfl) ⟨rfl, τ, hH, hX, Nat.le_add_right _ _, xF_refl _ _ _, ⟨ad, hc⟩⟩
  by_cases c1 : 0 ≤ w.toInt ∧ w.toInt ≤ 10000
  rotate_left
  · refine zy_n 3 (mr := zm_m12) rfl (show _ = some (3, [(0, .ref 0), (1, .int a), (2, .int w), (3, .int f), (4, .int m)], [.int 3, .int 0, .int a]) from rfl) ?_
    refine zy_c (mr := zm_m12) (mc := zm_m10) rfl rfl rfl rfl rfl ?_
    refine zh_withinE.mono (fun q h' hq => ?_)
    obtain ⟨hez, rfl⟩ := hq
    rw [hez]
    rw [if_pos (show (0 : Int32).toInt ≤ a.toInt ∧ a.toInt ≤ (3 : Int32).toInt from by rw [show (0 : Int32).toInt = 0 from rfl, show (3 : Int32).toInt = 3 from rfl]; exact c0)]
    refine zy_b (mr := zm_m12) rfl rfl (show _ = some (9, []) from rfl) ?_
    refine zy_n 1 (mr := zm_m12) rfl (show _ = some (10, [(0, .ref 0), (1, .int a), (2, .int w), (3, .int f), (4, .int m)], [.int w]) from rfl) ?_
    refine zy_c (mr := zm_m12) (mc := zm_m13) rfl rfl rfl rfl rfl ?_
    refine zh_isE.mono (fun q h' hq => ?_)
    obtain ⟨hez, rfl⟩ := hq
    rw [hez]
    rw [if_neg (show ¬ ((0 : Int32).toInt ≤ w.toInt ∧ w.toInt ≤ (10000 : Int32).toInt) from by rw [show (0 : Int32).toInt = 0 from rfl, show (10000 : Int32).toInt = 10000 from rfl]; exact c1)]
    refine zy_b (mr := zm_m12) rfl rfl (show _ = some (34, []) from rfl) ?_
    refine zy_n 1 (mr := zm_m12) rfl (show _ = some (36, [(0, .ref 0), (1, .int a), (2, .int w), (3, .int f), (4, .int m)], [.int (-2)]) from rfl) ?_
    refine zy_r (mr := zm_m12) rfl rfl (show _ = some (some (.int (-2))) from rfl) ⟨rfl, τ, hH, hX, Nat.le_add_right _ _, xF_refl _ _ _, ⟨ad, hc⟩⟩
  by_cases c2 : 1 ≤ f.toInt ∧ f.toInt ≤ 9
  rotate_left
  · refine zy_n 3 (mr := zm_m12) rfl (show _ = some (3, [(0, .ref 0), (1, .int a), (2, .int w), (3, .int f), (4, .int m)], [.int 3, .int 0, .int a]) from rfl) ?_
    refine zy_c (mr := zm_m12) (mc := zm_m10) rfl rfl rfl rfl rfl ?_
    refine zh_withinE.mono (fun q h' hq => ?_)
    obtain ⟨hez, rfl⟩ := hq
    rw [hez]
    rw [if_pos (show (0 : Int32).toInt ≤ a.toInt ∧ a.toInt ≤ (3 : Int32).toInt from by rw [show (0 : Int32).toInt = 0 from rfl, show (3 : Int32).toInt = 3 from rfl]; exact c0)]
    refine zy_b (mr := zm_m12) rfl rfl (show _ = some (9, []) from rfl) ?_
    refine zy_n 1 (mr := zm_m12) rfl (show _ = some (10, [(0, .ref 0), (1, .int a), (2, .int w), (3, .int f), (4, .int m)], [.int w]) from rfl) ?_
    refine zy_c (mr := zm_m12) (mc := zm_m13) rfl rfl rfl rfl rfl ?_
    refine zh_isE.mono (fun q h' hq => ?_)
    obtain ⟨hez, rfl⟩ := hq
    rw [hez]
    rw [if_pos (show (0 : Int32).toInt ≤ w.toInt ∧ w.toInt ≤ (10000 : Int32).toInt from by rw [show (0 : Int32).toInt = 0 from rfl, show (10000 : Int32).toInt = 10000 from rfl]; exact c1)]
    refine zy_b (mr := zm_m12) rfl rfl (show _ = some (16, []) from rfl) ?_
    refine zy_n 1 (mr := zm_m12) rfl (show _ = some (17, [(0, .ref 0), (1, .int a), (2, .int w), (3, .int f), (4, .int m)], [.int f]) from rfl) ?_
    refine zy_c (mr := zm_m12) (mc := zm_m14) rfl rfl rfl rfl rfl ?_
    refine zh_ifE.mono (fun q h' hq => ?_)
    obtain ⟨hez, rfl⟩ := hq
    rw [hez]
    rw [if_neg (show ¬ ((1 : Int32).toInt ≤ f.toInt ∧ f.toInt ≤ (9 : Int32).toInt) from by rw [show (1 : Int32).toInt = 1 from rfl, show (9 : Int32).toInt = 9 from rfl]; exact c2)]
    refine zy_b (mr := zm_m12) rfl rfl (show _ = some (34, []) from rfl) ?_
    refine zy_n 1 (mr := zm_m12) rfl (show _ = some (36, [(0, .ref 0), (1, .int a), (2, .int w), (3, .int f), (4, .int m)], [.int (-2)]) from rfl) ?_
    refine zy_r (mr := zm_m12) rfl rfl (show _ = some (some (.int (-2))) from rfl) ⟨rfl, τ, hH, hX, Nat.le_add_right _ _, xF_refl _ _ _, ⟨ad, hc⟩⟩
  by_cases c3 : 1 ≤ m.toInt ∧ m.toInt ≤ 60
  rotate_left
  · refine zy_n 3 (mr := zm_m12) rfl (show _ = some (3, [(0, .ref 0), (1, .int a), (2, .int w), (3, .int f), (4, .int m)], [.int 3, .int 0, .int a]) from rfl) ?_
    refine zy_c (mr := zm_m12) (mc := zm_m10) rfl rfl rfl rfl rfl ?_
    refine zh_withinE.mono (fun q h' hq => ?_)
    obtain ⟨hez, rfl⟩ := hq
    rw [hez]
    rw [if_pos (show (0 : Int32).toInt ≤ a.toInt ∧ a.toInt ≤ (3 : Int32).toInt from by rw [show (0 : Int32).toInt = 0 from rfl, show (3 : Int32).toInt = 3 from rfl]; exact c0)]
    refine zy_b (mr := zm_m12) rfl rfl (show _ = some (9, []) from rfl) ?_
    refine zy_n 1 (mr := zm_m12) rfl (show _ = some (10, [(0, .ref 0), (1, .int a), (2, .int w), (3, .int f), (4, .int m)], [.int w]) from rfl) ?_
    refine zy_c (mr := zm_m12) (mc := zm_m13) rfl rfl rfl rfl rfl ?_
    refine zh_isE.mono (fun q h' hq => ?_)
    obtain ⟨hez, rfl⟩ := hq
    rw [hez]
    rw [if_pos (show (0 : Int32).toInt ≤ w.toInt ∧ w.toInt ≤ (10000 : Int32).toInt from by rw [show (0 : Int32).toInt = 0 from rfl, show (10000 : Int32).toInt = 10000 from rfl]; exact c1)]
    refine zy_b (mr := zm_m12) rfl rfl (show _ = some (16, []) from rfl) ?_
    refine zy_n 1 (mr := zm_m12) rfl (show _ = some (17, [(0, .ref 0), (1, .int a), (2, .int w), (3, .int f), (4, .int m)], [.int f]) from rfl) ?_
    refine zy_c (mr := zm_m12) (mc := zm_m14) rfl rfl rfl rfl rfl ?_
    refine zh_ifE.mono (fun q h' hq => ?_)
    obtain ⟨hez, rfl⟩ := hq
    rw [hez]
    rw [if_pos (show (1 : Int32).toInt ≤ f.toInt ∧ f.toInt ≤ (9 : Int32).toInt from by rw [show (1 : Int32).toInt = 1 from rfl, show (9 : Int32).toInt = 9 from rfl]; exact c2)]
    refine zy_b (mr := zm_m12) rfl rfl (show _ = some (23, []) from rfl) ?_
    refine zy_n 3 (mr := zm_m12) rfl (show _ = some (28, [(0, .ref 0), (1, .int a), (2, .int w), (3, .int f), (4, .int m)], [.int 60, .int 1, .int m]) from rfl) ?_
    refine zy_c (mr := zm_m12) (mc := zm_m10) rfl rfl rfl rfl rfl ?_
    refine zh_withinE.mono (fun q h' hq => ?_)
    obtain ⟨hez, rfl⟩ := hq
    rw [hez]
    rw [if_neg (show ¬ ((1 : Int32).toInt ≤ m.toInt ∧ m.toInt ≤ (60 : Int32).toInt) from by rw [show (1 : Int32).toInt = 1 from rfl, show (60 : Int32).toInt = 60 from rfl]; exact c3)]
    refine zy_b (mr := zm_m12) rfl rfl (show _ = some (34, []) from rfl) ?_
    refine zy_n 1 (mr := zm_m12) rfl (show _ = some (36, [(0, .ref 0), (1, .int a), (2, .int w), (3, .int f), (4, .int m)], [.int (-2)]) from rfl) ?_
    refine zy_r (mr := zm_m12) rfl rfl (show _ = some (some (.int (-2))) from rfl) ⟨rfl, τ, hH, hX, Nat.le_add_right _ _, xF_refl _ _ _, ⟨ad, hc⟩⟩
  exact absurd ⟨c0, c1, c2, c3⟩ hb
theorem xh_x_full {d : Nat} {a w f m : Int32} (hH : xHI xKT xSG τ h) (hX : xX τ h) (hc : xCXa ad τ h n st dn rf nr y L wk) (ok : (0 ≤ a.toInt ∧ a.toInt ≤ 3) ∧ (0 ≤ w.toInt ∧ w.toInt ≤ 10000) ∧ (1 ≤ f.toInt ∧ f.toInt ≤ 9) ∧ 1 ≤ m.toInt ∧ m.toInt ≤ 60) (hn16 : n = 16) : zm_Y og (d + 2) 12 0 [(0, .ref 0), (1, .int a), (2, .int w), (3, .int f), (4, .int m)] [] h (xCO τ h 90 [(0, 1), (0, 2), (1, 0), (36, 9)] (fun r => r = some (.int (-3))) (fun τ1 h1 => xCX τ1 h1 n st dn rf nr y L wk)) := by
  obtain ⟨hn, f1, f2, f3, f4, hw, hh, hi⟩ := id hc
  refine zy_n 3 (mr := zm_m12) rfl (show _ = some (3, [(0, .ref 0), (1, .int a), (2, .int w), (3, .int f), (4, .int m)], [.int 3, .int 0, .int a]) from rfl) ?_
  refine zy_c (mr := zm_m12) (mc := zm_m10) rfl rfl rfl rfl rfl ?_
  refine zh_withinE.mono (fun q h' hq => ?_)
  obtain ⟨hez, rfl⟩ := hq
  rw [hez]
  rw [if_pos (show (0 : Int32).toInt ≤ a.toInt ∧ a.toInt ≤ (3 : Int32).toInt from by rw [show (0 : Int32).toInt = 0 from rfl, show (3 : Int32).toInt = 3 from rfl]; exact ok.1)]
  refine zy_b (mr := zm_m12) rfl rfl (show _ = some (9, []) from rfl) ?_
  refine zy_n 1 (mr := zm_m12) rfl (show _ = some (10, [(0, .ref 0), (1, .int a), (2, .int w), (3, .int f), (4, .int m)], [.int w]) from rfl) ?_
  refine zy_c (mr := zm_m12) (mc := zm_m13) rfl rfl rfl rfl rfl ?_
  refine zh_isE.mono (fun q h' hq => ?_)
  obtain ⟨hez, rfl⟩ := hq
  rw [hez]
  rw [if_pos (show (0 : Int32).toInt ≤ w.toInt ∧ w.toInt ≤ (10000 : Int32).toInt from by rw [show (0 : Int32).toInt = 0 from rfl, show (10000 : Int32).toInt = 10000 from rfl]; exact ok.2.1)]
  refine zy_b (mr := zm_m12) rfl rfl (show _ = some (16, []) from rfl) ?_
  refine zy_n 1 (mr := zm_m12) rfl (show _ = some (17, [(0, .ref 0), (1, .int a), (2, .int w), (3, .int f), (4, .int m)], [.int f]) from rfl) ?_
  refine zy_c (mr := zm_m12) (mc := zm_m14) rfl rfl rfl rfl rfl ?_
  refine zh_ifE.mono (fun q h' hq => ?_)
  obtain ⟨hez, rfl⟩ := hq
  rw [hez]
  rw [if_pos (show (1 : Int32).toInt ≤ f.toInt ∧ f.toInt ≤ (9 : Int32).toInt from by rw [show (1 : Int32).toInt = 1 from rfl, show (9 : Int32).toInt = 9 from rfl]; exact ok.2.2.1)]
  refine zy_b (mr := zm_m12) rfl rfl (show _ = some (23, []) from rfl) ?_
  refine zy_n 3 (mr := zm_m12) rfl (show _ = some (28, [(0, .ref 0), (1, .int a), (2, .int w), (3, .int f), (4, .int m)], [.int 60, .int 1, .int m]) from rfl) ?_
  refine zy_c (mr := zm_m12) (mc := zm_m10) rfl rfl rfl rfl rfl ?_
  refine zh_withinE.mono (fun q h' hq => ?_)
  obtain ⟨hez, rfl⟩ := hq
  rw [hez]
  rw [if_pos (show (1 : Int32).toInt ≤ m.toInt ∧ m.toInt ≤ (60 : Int32).toInt from by rw [show (1 : Int32).toInt = 1 from rfl, show (60 : Int32).toInt = 60 from rfl]; exact ok.2.2.2)]
  refine zy_b (mr := zm_m12) rfl rfl (show _ = some (37, []) from rfl) ?_
  refine zy_n 1 (mr := zm_m12) rfl (show _ = some (38, [(0, .ref 0), (1, .int a), (2, .int w), (3, .int f), (4, .int m)], [.ref 0]) from rfl) ?_
  refine zk_get (mr := zm_m12) rfl rfl hH (hH.2.2 0 rfl) rfl f1 ?_
  refine zy_n 1 (mr := zm_m12) rfl (show _ = some (43, [(0, .ref 0), (1, .int a), (2, .int w), (3, .int f), (4, .int m)], [.int 16, .int (Int32.ofNat n)]) from rfl) ?_
  refine zy_b (mr := zm_m12) rfl rfl (show _ = some (zm_ic .lt (Int32.ofNat n) 16 49 46, []) from rfl) ?_
  refine zc_lt (fun e => absurd e (by rw [hn16]; decide)) (fun _ => ?_)
  refine zy_n 1 (mr := zm_m12) rfl (show _ = some (48, [(0, .ref 0), (1, .int a), (2, .int w), (3, .int f), (4, .int m)], [.int (-3)]) from rfl) ?_
  refine zy_r (mr := zm_m12) rfl rfl (show _ = some (some (.int (-3))) from rfl) ⟨rfl, τ, hH, hX, Nat.le_add_right _ _, xF_refl _ _ _, ⟨ad, hc⟩⟩
theorem xh_x_ok {d : Nat} {a w f m : Int32} (hH : xHI xKT xSG τ h) (hX : xX τ h) (hc : xCXa ad τ h n st dn rf nr y L wk) (ok : (0 ≤ a.toInt ∧ a.toInt ≤ 3) ∧ (0 ≤ w.toInt ∧ w.toInt ≤ 10000) ∧ (1 ≤ f.toInt ∧ f.toInt ≤ 9) ∧ 1 ≤ m.toInt ∧ m.toInt ≤ 60) (hn16 : n < 16) : zm_Y og (d + 2) 12 0 [(0, .ref 0), (1, .int a), (2, .int w), (3, .int f), (4, .int m)] [] h (xCO τ h 90 [(0, 1), (0, 2), (1, 0), (36, 9)] (fun r => r = some (.int (Int32.ofNat n))) (fun τ1 h1 => xCX τ1 h1 (n + 1) (upd st n a) (upd dn n 0) (upd rf n nr) (nr + 1) y L wk)) := by
  obtain ⟨hn, f1, f2, f3, f4, hw, hh, hi⟩ := id hc
  refine zy_n 3 (mr := zm_m12) rfl (show _ = some (3, [(0, .ref 0), (1, .int a), (2, .int w), (3, .int f), (4, .int m)], [.int 3, .int 0, .int a]) from rfl) ?_
  refine zy_c (mr := zm_m12) (mc := zm_m10) rfl rfl rfl rfl rfl ?_
  refine zh_withinE.mono (fun q h' hq => ?_)
  obtain ⟨hez, rfl⟩ := hq
  rw [hez]
  rw [if_pos (show (0 : Int32).toInt ≤ a.toInt ∧ a.toInt ≤ (3 : Int32).toInt from by rw [show (0 : Int32).toInt = 0 from rfl, show (3 : Int32).toInt = 3 from rfl]; exact ok.1)]
  refine zy_b (mr := zm_m12) rfl rfl (show _ = some (9, []) from rfl) ?_
  refine zy_n 1 (mr := zm_m12) rfl (show _ = some (10, [(0, .ref 0), (1, .int a), (2, .int w), (3, .int f), (4, .int m)], [.int w]) from rfl) ?_
  refine zy_c (mr := zm_m12) (mc := zm_m13) rfl rfl rfl rfl rfl ?_
  refine zh_isE.mono (fun q h' hq => ?_)
  obtain ⟨hez, rfl⟩ := hq
  rw [hez]
  rw [if_pos (show (0 : Int32).toInt ≤ w.toInt ∧ w.toInt ≤ (10000 : Int32).toInt from by rw [show (0 : Int32).toInt = 0 from rfl, show (10000 : Int32).toInt = 10000 from rfl]; exact ok.2.1)]
  refine zy_b (mr := zm_m12) rfl rfl (show _ = some (16, []) from rfl) ?_
  refine zy_n 1 (mr := zm_m12) rfl (show _ = some (17, [(0, .ref 0), (1, .int a), (2, .int w), (3, .int f), (4, .int m)], [.int f]) from rfl) ?_
  refine zy_c (mr := zm_m12) (mc := zm_m14) rfl rfl rfl rfl rfl ?_
  refine zh_ifE.mono (fun q h' hq => ?_)
  obtain ⟨hez, rfl⟩ := hq
  rw [hez]
  rw [if_pos (show (1 : Int32).toInt ≤ f.toInt ∧ f.toInt ≤ (9 : Int32).toInt from by rw [show (1 : Int32).toInt = 1 from rfl, show (9 : Int32).toInt = 9 from rfl]; exact ok.2.2.1)]
  refine zy_b (mr := zm_m12) rfl rfl (show _ = some (23, []) from rfl) ?_
  refine zy_n 3 (mr := zm_m12) rfl (show _ = some (28, [(0, .ref 0), (1, .int a), (2, .int w), (3, .int f), (4, .int m)], [.int 60, .int 1, .int m]) from rfl) ?_
  refine zy_c (mr := zm_m12) (mc := zm_m10) rfl rfl rfl rfl rfl ?_
  refine zh_withinE.mono (fun q h' hq => ?_)
  obtain ⟨hez, rfl⟩ := hq
  rw [hez]
  rw [if_pos (show (1 : Int32).toInt ≤ m.toInt ∧ m.toInt ≤ (60 : Int32).toInt from by rw [show (1 : Int32).toInt = 1 from rfl, show (60 : Int32).toInt = 60 from rfl]; exact ok.2.2.2)]
  refine zy_b (mr := zm_m12) rfl rfl (show _ = some (37, []) from rfl) ?_
  refine zy_n 1 (mr := zm_m12) rfl (show _ = some (38, [(0, .ref 0), (1, .int a), (2, .int w), (3, .int f), (4, .int m)], [.ref 0]) from rfl) ?_
  refine zk_get (mr := zm_m12) rfl rfl hH (hH.2.2 0 rfl) rfl f1 ?_
  refine zy_n 1 (mr := zm_m12) rfl (show _ = some (43, [(0, .ref 0), (1, .int a), (2, .int w), (3, .int f), (4, .int m)], [.int 16, .int (Int32.ofNat n)]) from rfl) ?_
  refine zy_b (mr := zm_m12) rfl rfl (show _ = some (zm_ic .lt (Int32.ofNat n) 16 49 46, []) from rfl) ?_
  have eN := (xofn (k := n) (by omega)).1
  refine zc_lt (fun _ => ?_) (fun e => absurd (Int32.lt_iff_toInt_lt.mpr (by rw [eN]; show (n : Int) < 16; omega)) e)
  exact zh_h49C hH hX hc hn16 ok.1 ⟨by omega, by omega⟩
theorem xh_m_bad {d : Nat} {a w f m : Int32} (hH : xHI xKT xSG τ h) (hX : xX τ h) (hc : xCM h n st dn rf nr y L wk) (hb : ¬ ((0 ≤ a.toInt ∧ a.toInt ≤ 3) ∧ (0 ≤ w.toInt ∧ w.toInt ≤ 10000) ∧ (1 ≤ f.toInt ∧ f.toInt ≤ 9) ∧ 1 ≤ m.toInt ∧ m.toInt ≤ 60)) : zm_Y og (d + 2) 190 0 [(0, .ref 55), (1, .int a), (2, .int w), (3, .int f), (4, .int m)] [] h (xCO τ h 0 [(55, 0), (55, 6), (55, 10), (55, 82), (62, 0), (63, 0), (64, 0), (65, 0), (68, 0)] (fun r => r = some (.int (-2))) (fun τ1 h1 => xCM h1 n st dn rf nr y L wk)) := by
  obtain ⟨hn, f1, f2, f3, f4, hw, hh, hz⟩ := id hc
  by_cases c0 : 0 ≤ a.toInt ∧ a.toInt ≤ 3
  rotate_left
  · refine zy_n 2 (mr := zm_m190) rfl (show _ = some (2, [(0, .ref 55), (1, .int a), (2, .int w), (3, .int f), (4, .int m)], [.int 0, .ref 55]) from rfl) ?_
    refine zk_put (mr := zm_m190) rfl rfl hH hX (hH.2.2 55 rfl) rfl rfl rfl rfl ⟨_, List.mem_cons_self, ⟨_, rfl, by decide, by decide⟩⟩ ?_
    intro h1 hH1 hX1 hW1 hs1 hg1 hF1
    have hc := xCM_F hH (hF1 [(55, 0)] rfl) rfl hc
    obtain ⟨hn, f1, f2, f3, f4, hw, hh, hz⟩ := id hc
    refine zy_n 4 (mr := zm_m190) rfl (show _ = some (11, [(0, .ref 55), (1, .int a), (2, .int w), (3, .int f), (4, .int m)], [.long 3, .long 0, .long a.toInt64]) from rfl) ?_
    refine zy_c (mr := zm_m190) (mc := zm_m183) rfl rfl rfl rfl rfl ?_
    refine zh_minE.mono (fun q h' hq => ?_)
    obtain ⟨hez, rfl⟩ := hq
    rw [hez]
    rw [if_neg (show ¬ ((0 : Int64).toInt ≤ a.toInt64.toInt ∧ a.toInt64.toInt ≤ (3 : Int64).toInt) from by rw [Int32.toInt_toInt64, show (0 : Int64).toInt = 0 from rfl, show (3 : Int64).toInt = 3 from rfl]; exact c0)]
    refine zy_b (mr := zm_m190) rfl rfl (show _ = some (54, []) from rfl) ?_
    refine zy_n 1 (mr := zm_m190) rfl (show _ = some (56, [(0, .ref 55), (1, .int a), (2, .int w), (3, .int f), (4, .int m)], [.int (-2)]) from rfl) ?_
    refine zy_r (mr := zm_m190) rfl rfl (show _ = some (some (.int (-2))) from rfl) ⟨rfl, τ, hH1, hX1, by omega, (hF1 _ rfl), hc⟩
  by_cases c1 : 0 ≤ w.toInt ∧ w.toInt ≤ 10000
  rotate_left
  · refine zy_n 2 (mr := zm_m190) rfl (show _ = some (2, [(0, .ref 55), (1, .int a), (2, .int w), (3, .int f), (4, .int m)], [.int 0, .ref 55]) from rfl) ?_
    refine zk_put (mr := zm_m190) rfl rfl hH hX (hH.2.2 55 rfl) rfl rfl rfl rfl ⟨_, List.mem_cons_self, ⟨_, rfl, by decide, by decide⟩⟩ ?_
    intro h1 hH1 hX1 hW1 hs1 hg1 hF1
    have hc := xCM_F hH (hF1 [(55, 0)] rfl) rfl hc
    obtain ⟨hn, f1, f2, f3, f4, hw, hh, hz⟩ := id hc
    refine zy_n 4 (mr := zm_m190) rfl (show _ = some (11, [(0, .ref 55), (1, .int a), (2, .int w), (3, .int f), (4, .int m)], [.long 3, .long 0, .long a.toInt64]) from rfl) ?_
    refine zy_c (mr := zm_m190) (mc := zm_m183) rfl rfl rfl rfl rfl ?_
    refine zh_minE.mono (fun q h' hq => ?_)
    obtain ⟨hez, rfl⟩ := hq
    rw [hez]
    rw [if_pos (show (0 : Int64).toInt ≤ a.toInt64.toInt ∧ a.toInt64.toInt ≤ (3 : Int64).toInt from by rw [Int32.toInt_toInt64, show (0 : Int64).toInt = 0 from rfl, show (3 : Int64).toInt = 3 from rfl]; exact c0)]
    refine zy_b (mr := zm_m190) rfl rfl (show _ = some (17, []) from rfl) ?_
    refine zy_n 4 (mr := zm_m190) rfl (show _ = some (23, [(0, .ref 55), (1, .int a), (2, .int w), (3, .int f), (4, .int m)], [.long 10000, .long 0, .long w.toInt64]) from rfl) ?_
    refine zy_c (mr := zm_m190) (mc := zm_m183) rfl rfl rfl rfl rfl ?_
    refine zh_minE.mono (fun q h' hq => ?_)
    obtain ⟨hez, rfl⟩ := hq
    rw [hez]
    rw [if_neg (show ¬ ((0 : Int64).toInt ≤ w.toInt64.toInt ∧ w.toInt64.toInt ≤ (10000 : Int64).toInt) from by rw [Int32.toInt_toInt64, show (0 : Int64).toInt = 0 from rfl, show (10000 : Int64).toInt = 10000 from rfl]; exact c1)]
    refine zy_b (mr := zm_m190) rfl rfl (show _ = some (54, []) from rfl) ?_
    refine zy_n 1 (mr := zm_m190) rfl (show _ = some (56, [(0, .ref 55), (1, .int a), (2, .int w), (3, .int f), (4, .int m)], [.int (-2)]) from rfl) ?_
    refine zy_r (mr := zm_m190) rfl rfl (show _ = some (some (.int (-2))) from rfl) ⟨rfl, τ, hH1, hX1, by omega, (hF1 _ rfl), hc⟩
  by_cases c2 : 1 ≤ f.toInt ∧ f.toInt ≤ 9
  rotate_left
  · refine zy_n 2 (mr := zm_m190) rfl (show _ = some (2, [(0, .ref 55), (1, .int a), (2, .int w), (3, .int f), (4, .int m)], [.int 0, .ref 55]) from rfl) ?_
    refine zk_put (mr := zm_m190) rfl rfl hH hX (hH.2.2 55 rfl) rfl rfl rfl rfl ⟨_, List.mem_cons_self, ⟨_, rfl, by decide, by decide⟩⟩ ?_
    intro h1 hH1 hX1 hW1 hs1 hg1 hF1
    have hc := xCM_F hH (hF1 [(55, 0)] rfl) rfl hc
    obtain ⟨hn, f1, f2, f3, f4, hw, hh, hz⟩ := id hc
    refine zy_n 4 (mr := zm_m190) rfl (show _ = some (11, [(0, .ref 55), (1, .int a), (2, .int w), (3, .int f), (4, .int m)], [.long 3, .long 0, .long a.toInt64]) from rfl) ?_
    refine zy_c (mr := zm_m190) (mc := zm_m183) rfl rfl rfl rfl rfl ?_
    refine zh_minE.mono (fun q h' hq => ?_)
    obtain ⟨hez, rfl⟩ := hq
    rw [hez]
    rw [if_pos (show (0 : Int64).toInt ≤ a.toInt64.toInt ∧ a.toInt64.toInt ≤ (3 : Int64).toInt from by rw [Int32.toInt_toInt64, show (0 : Int64).toInt = 0 from rfl, show (3 : Int64).toInt = 3 from rfl]; exact c0)]
    refine zy_b (mr := zm_m190) rfl rfl (show _ = some (17, []) from rfl) ?_
    refine zy_n 4 (mr := zm_m190) rfl (show _ = some (23, [(0, .ref 55), (1, .int a), (2, .int w), (3, .int f), (4, .int m)], [.long 10000, .long 0, .long w.toInt64]) from rfl) ?_
    refine zy_c (mr := zm_m190) (mc := zm_m183) rfl rfl rfl rfl rfl ?_
    refine zh_minE.mono (fun q h' hq => ?_)
    obtain ⟨hez, rfl⟩ := hq
    rw [hez]
    rw [if_pos (show (0 : Int64).toInt ≤ w.toInt64.toInt ∧ w.toInt64.toInt ≤ (10000 : Int64).toInt from by rw [Int32.toInt_toInt64, show (0 : Int64).toInt = 0 from rfl, show (10000 : Int64).toInt = 10000 from rfl]; exact c1)]
    refine zy_b (mr := zm_m190) rfl rfl (show _ = some (29, []) from rfl) ?_
    refine zy_n 4 (mr := zm_m190) rfl (show _ = some (35, [(0, .ref 55), (1, .int a), (2, .int w), (3, .int f), (4, .int m)], [.long 9, .long 1, .long f.toInt64]) from rfl) ?_
    refine zy_c (mr := zm_m190) (mc := zm_m183) rfl rfl rfl rfl rfl ?_
    refine zh_minE.mono (fun q h' hq => ?_)
    obtain ⟨hez, rfl⟩ := hq
    rw [hez]
    rw [if_neg (show ¬ ((1 : Int64).toInt ≤ f.toInt64.toInt ∧ f.toInt64.toInt ≤ (9 : Int64).toInt) from by rw [Int32.toInt_toInt64, show (1 : Int64).toInt = 1 from rfl, show (9 : Int64).toInt = 9 from rfl]; exact c2)]
    refine zy_b (mr := zm_m190) rfl rfl (show _ = some (54, []) from rfl) ?_
    refine zy_n 1 (mr := zm_m190) rfl (show _ = some (56, [(0, .ref 55), (1, .int a), (2, .int w), (3, .int f), (4, .int m)], [.int (-2)]) from rfl) ?_
    refine zy_r (mr := zm_m190) rfl rfl (show _ = some (some (.int (-2))) from rfl) ⟨rfl, τ, hH1, hX1, by omega, (hF1 _ rfl), hc⟩
  by_cases c3 : 1 ≤ m.toInt ∧ m.toInt ≤ 60
  rotate_left
  · refine zy_n 2 (mr := zm_m190) rfl (show _ = some (2, [(0, .ref 55), (1, .int a), (2, .int w), (3, .int f), (4, .int m)], [.int 0, .ref 55]) from rfl) ?_
    refine zk_put (mr := zm_m190) rfl rfl hH hX (hH.2.2 55 rfl) rfl rfl rfl rfl ⟨_, List.mem_cons_self, ⟨_, rfl, by decide, by decide⟩⟩ ?_
    intro h1 hH1 hX1 hW1 hs1 hg1 hF1
    have hc := xCM_F hH (hF1 [(55, 0)] rfl) rfl hc
    obtain ⟨hn, f1, f2, f3, f4, hw, hh, hz⟩ := id hc
    refine zy_n 4 (mr := zm_m190) rfl (show _ = some (11, [(0, .ref 55), (1, .int a), (2, .int w), (3, .int f), (4, .int m)], [.long 3, .long 0, .long a.toInt64]) from rfl) ?_
    refine zy_c (mr := zm_m190) (mc := zm_m183) rfl rfl rfl rfl rfl ?_
    refine zh_minE.mono (fun q h' hq => ?_)
    obtain ⟨hez, rfl⟩ := hq
    rw [hez]
    rw [if_pos (show (0 : Int64).toInt ≤ a.toInt64.toInt ∧ a.toInt64.toInt ≤ (3 : Int64).toInt from by rw [Int32.toInt_toInt64, show (0 : Int64).toInt = 0 from rfl, show (3 : Int64).toInt = 3 from rfl]; exact c0)]
    refine zy_b (mr := zm_m190) rfl rfl (show _ = some (17, []) from rfl) ?_
    refine zy_n 4 (mr := zm_m190) rfl (show _ = some (23, [(0, .ref 55), (1, .int a), (2, .int w), (3, .int f), (4, .int m)], [.long 10000, .long 0, .long w.toInt64]) from rfl) ?_
    refine zy_c (mr := zm_m190) (mc := zm_m183) rfl rfl rfl rfl rfl ?_
    refine zh_minE.mono (fun q h' hq => ?_)
    obtain ⟨hez, rfl⟩ := hq
    rw [hez]
    rw [if_pos (show (0 : Int64).toInt ≤ w.toInt64.toInt ∧ w.toInt64.toInt ≤ (10000 : Int64).toInt from by rw [Int32.toInt_toInt64, show (0 : Int64).toInt = 0 from rfl, show (10000 : Int64).toInt = 10000 from rfl]; exact c1)]
    refine zy_b (mr := zm_m190) rfl rfl (show _ = some (29, []) from rfl) ?_
    refine zy_n 4 (mr := zm_m190) rfl (show _ = some (35, [(0, .ref 55), (1, .int a), (2, .int w), (3, .int f), (4, .int m)], [.long 9, .long 1, .long f.toInt64]) from rfl) ?_
    refine zy_c (mr := zm_m190) (mc := zm_m183) rfl rfl rfl rfl rfl ?_
    refine zh_minE.mono (fun q h' hq => ?_)
    obtain ⟨hez, rfl⟩ := hq
    rw [hez]
    rw [if_pos (show (1 : Int64).toInt ≤ f.toInt64.toInt ∧ f.toInt64.toInt ≤ (9 : Int64).toInt from by rw [Int32.toInt_toInt64, show (1 : Int64).toInt = 1 from rfl, show (9 : Int64).toInt = 9 from rfl]; exact c2)]
    refine zy_b (mr := zm_m190) rfl rfl (show _ = some (41, []) from rfl) ?_
    refine zy_n 4 (mr := zm_m190) rfl (show _ = some (48, [(0, .ref 55), (1, .int a), (2, .int w), (3, .int f), (4, .int m)], [.long 60, .long 1, .long m.toInt64]) from rfl) ?_
    refine zy_c (mr := zm_m190) (mc := zm_m183) rfl rfl rfl rfl rfl ?_
    refine zh_minE.mono (fun q h' hq => ?_)
    obtain ⟨hez, rfl⟩ := hq
    rw [hez]
    rw [if_neg (show ¬ ((1 : Int64).toInt ≤ m.toInt64.toInt ∧ m.toInt64.toInt ≤ (60 : Int64).toInt) from by rw [Int32.toInt_toInt64, show (1 : Int64).toInt = 1 from rfl, show (60 : Int64).toInt = 60 from rfl]; exact c3)]
    refine zy_b (mr := zm_m190) rfl rfl (show _ = some (54, []) from rfl) ?_
    refine zy_n 1 (mr := zm_m190) rfl (show _ = some (56, [(0, .ref 55), (1, .int a), (2, .int w), (3, .int f), (4, .int m)], [.int (-2)]) from rfl) ?_
    refine zy_r (mr := zm_m190) rfl rfl (show _ = some (some (.int (-2))) from rfl) ⟨rfl, τ, hH1, hX1, by omega, (hF1 _ rfl), hc⟩
  exact absurd ⟨c0, c1, c2, c3⟩ hb
theorem xh_m_full {d : Nat} {a w f m : Int32} (hH : xHI xKT xSG τ h) (hX : xX τ h) (hc : xCM h n st dn rf nr y L wk) (ok : (0 ≤ a.toInt ∧ a.toInt ≤ 3) ∧ (0 ≤ w.toInt ∧ w.toInt ≤ 10000) ∧ (1 ≤ f.toInt ∧ f.toInt ≤ 9) ∧ 1 ≤ m.toInt ∧ m.toInt ≤ 60) (hn16 : n = 16) : zm_Y og (d + 2) 190 0 [(0, .ref 55), (1, .int a), (2, .int w), (3, .int f), (4, .int m)] [] h (xCO τ h 0 [(55, 0), (55, 6), (55, 10), (55, 82), (62, 0), (63, 0), (64, 0), (65, 0), (68, 0)] (fun r => r = some (.int (-3))) (fun τ1 h1 => xCM h1 n st dn rf nr y L wk)) := by
  obtain ⟨hn, f1, f2, f3, f4, hw, hh, hz⟩ := id hc
  refine zy_n 2 (mr := zm_m190) rfl (show _ = some (2, [(0, .ref 55), (1, .int a), (2, .int w), (3, .int f), (4, .int m)], [.int 0, .ref 55]) from rfl) ?_
  refine zk_put (mr := zm_m190) rfl rfl hH hX (hH.2.2 55 rfl) rfl rfl rfl rfl ⟨_, List.mem_cons_self, ⟨_, rfl, by decide, by decide⟩⟩ ?_
  intro h1 hH1 hX1 hW1 hs1 hg1 hF1
  have hc := xCM_F hH (hF1 [(55, 0)] rfl) rfl hc
  obtain ⟨hn, f1, f2, f3, f4, hw, hh, hz⟩ := id hc
  refine zy_n 4 (mr := zm_m190) rfl (show _ = some (11, [(0, .ref 55), (1, .int a), (2, .int w), (3, .int f), (4, .int m)], [.long 3, .long 0, .long a.toInt64]) from rfl) ?_
  refine zy_c (mr := zm_m190) (mc := zm_m183) rfl rfl rfl rfl rfl ?_
  refine zh_minE.mono (fun q h' hq => ?_)
  obtain ⟨hez, rfl⟩ := hq
  rw [hez]
  rw [if_pos (show (0 : Int64).toInt ≤ a.toInt64.toInt ∧ a.toInt64.toInt ≤ (3 : Int64).toInt from by rw [Int32.toInt_toInt64, show (0 : Int64).toInt = 0 from rfl, show (3 : Int64).toInt = 3 from rfl]; exact ok.1)]
  refine zy_b (mr := zm_m190) rfl rfl (show _ = some (17, []) from rfl) ?_
  refine zy_n 4 (mr := zm_m190) rfl (show _ = some (23, [(0, .ref 55), (1, .int a), (2, .int w), (3, .int f), (4, .int m)], [.long 10000, .long 0, .long w.toInt64]) from rfl) ?_
  refine zy_c (mr := zm_m190) (mc := zm_m183) rfl rfl rfl rfl rfl ?_
  refine zh_minE.mono (fun q h' hq => ?_)
  obtain ⟨hez, rfl⟩ := hq
  rw [hez]
  rw [if_pos (show (0 : Int64).toInt ≤ w.toInt64.toInt ∧ w.toInt64.toInt ≤ (10000 : Int64).toInt from by rw [Int32.toInt_toInt64, show (0 : Int64).toInt = 0 from rfl, show (10000 : Int64).toInt = 10000 from rfl]; exact ok.2.1)]
  refine zy_b (mr := zm_m190) rfl rfl (show _ = some (29, []) from rfl) ?_
  refine zy_n 4 (mr := zm_m190) rfl (show _ = some (35, [(0, .ref 55), (1, .int a), (2, .int w), (3, .int f), (4, .int m)], [.long 9, .long 1, .long f.toInt64]) from rfl) ?_
  refine zy_c (mr := zm_m190) (mc := zm_m183) rfl rfl rfl rfl rfl ?_
  refine zh_minE.mono (fun q h' hq => ?_)
  obtain ⟨hez, rfl⟩ := hq
  rw [hez]
  rw [if_pos (show (1 : Int64).toInt ≤ f.toInt64.toInt ∧ f.toInt64.toInt ≤ (9 : Int64).toInt from by rw [Int32.toInt_toInt64, show (1 : Int64).toInt = 1 from rfl, show (9 : Int64).toInt = 9 from rfl]; exact ok.2.2.1)]
  refine zy_b (mr := zm_m190) rfl rfl (show _ = some (41, []) from rfl) ?_
  refine zy_n 4 (mr := zm_m190) rfl (show _ = some (48, [(0, .ref 55), (1, .int a), (2, .int w), (3, .int f), (4, .int m)], [.long 60, .long 1, .long m.toInt64]) from rfl) ?_
  refine zy_c (mr := zm_m190) (mc := zm_m183) rfl rfl rfl rfl rfl ?_
  refine zh_minE.mono (fun q h' hq => ?_)
  obtain ⟨hez, rfl⟩ := hq
  rw [hez]
  rw [if_pos (show (1 : Int64).toInt ≤ m.toInt64.toInt ∧ m.toInt64.toInt ≤ (60 : Int64).toInt from by rw [Int32.toInt_toInt64, show (1 : Int64).toInt = 1 from rfl, show (60 : Int64).toInt = 60 from rfl]; exact ok.2.2.2)]
  refine zy_b (mr := zm_m190) rfl rfl (show _ = some (57, []) from rfl) ?_
  refine zy_n 1 (mr := zm_m190) rfl (show _ = some (58, [(0, .ref 55), (1, .int a), (2, .int w), (3, .int f), (4, .int m)], [.ref 55]) from rfl) ?_
  refine zk_get (mr := zm_m190) rfl rfl hH1 (hH1.2.2 55 rfl) rfl f1 ?_
  refine zy_n 1 (mr := zm_m190) rfl (show _ = some (63, [(0, .ref 55), (1, .int a), (2, .int w), (3, .int f), (4, .int m)], [.int 16, .int (Int32.ofNat n)]) from rfl) ?_
  refine zy_b (mr := zm_m190) rfl rfl (show _ = some (zm_ic .ne (Int32.ofNat n) 16 69 66, []) from rfl) ?_
  refine zc_ne (fun e => absurd (by rw [hn16]; rfl) e) (fun _ => ?_)
  refine zy_n 1 (mr := zm_m190) rfl (show _ = some (68, [(0, .ref 55), (1, .int a), (2, .int w), (3, .int f), (4, .int m)], [.int (-3)]) from rfl) ?_
  refine zy_r (mr := zm_m190) rfl rfl (show _ = some (some (.int (-3))) from rfl) ⟨rfl, τ, hH1, hX1, by omega, (hF1 _ rfl), hc⟩
theorem xh_m_ok {d : Nat} {a w f m : Int32} (hH : xHI xKT xSG τ h) (hX : xX τ h) (hc : xCM h n st dn rf nr y L wk) (ok : (0 ≤ a.toInt ∧ a.toInt ≤ 3) ∧ (0 ≤ w.toInt ∧ w.toInt ≤ 10000) ∧ (1 ≤ f.toInt ∧ f.toInt ≤ 9) ∧ 1 ≤ m.toInt ∧ m.toInt ≤ 60) (hn16 : n < 16) : zm_Y og (d + 2) 190 0 [(0, .ref 55), (1, .int a), (2, .int w), (3, .int f), (4, .int m)] [] h (xCO τ h 0 [(55, 0), (55, 6), (55, 10), (55, 82), (62, 0), (63, 0), (64, 0), (65, 0), (68, 0)] (fun r => r = some (.int (Int32.ofNat n))) (fun τ1 h1 => xCM h1 (n + 1) (upd st n a) (upd dn n 0) (upd rf n nr) (nr + 1) y L wk)) := by
  obtain ⟨hn, f1, f2, f3, f4, hw, hh, hz⟩ := id hc
  refine zy_n 2 (mr := zm_m190) rfl (show _ = some (2, [(0, .ref 55), (1, .int a), (2, .int w), (3, .int f), (4, .int m)], [.int 0, .ref 55]) from rfl) ?_
  refine zk_put (mr := zm_m190) rfl rfl hH hX (hH.2.2 55 rfl) rfl rfl rfl rfl ⟨_, List.mem_cons_self, ⟨_, rfl, by decide, by decide⟩⟩ ?_
  intro h1 hH1 hX1 hW1 hs1 hg1 hF1
  have hc := xCM_F hH (hF1 [(55, 0)] rfl) rfl hc
  obtain ⟨hn, f1, f2, f3, f4, hw, hh, hz⟩ := id hc
  refine zy_n 4 (mr := zm_m190) rfl (show _ = some (11, [(0, .ref 55), (1, .int a), (2, .int w), (3, .int f), (4, .int m)], [.long 3, .long 0, .long a.toInt64]) from rfl) ?_
  refine zy_c (mr := zm_m190) (mc := zm_m183) rfl rfl rfl rfl rfl ?_
  refine zh_minE.mono (fun q h' hq => ?_)
  obtain ⟨hez, rfl⟩ := hq
  rw [hez]
  rw [if_pos (show (0 : Int64).toInt ≤ a.toInt64.toInt ∧ a.toInt64.toInt ≤ (3 : Int64).toInt from by rw [Int32.toInt_toInt64, show (0 : Int64).toInt = 0 from rfl, show (3 : Int64).toInt = 3 from rfl]; exact ok.1)]
  refine zy_b (mr := zm_m190) rfl rfl (show _ = some (17, []) from rfl) ?_
  refine zy_n 4 (mr := zm_m190) rfl (show _ = some (23, [(0, .ref 55), (1, .int a), (2, .int w), (3, .int f), (4, .int m)], [.long 10000, .long 0, .long w.toInt64]) from rfl) ?_
  refine zy_c (mr := zm_m190) (mc := zm_m183) rfl rfl rfl rfl rfl ?_
  refine zh_minE.mono (fun q h' hq => ?_)
  obtain ⟨hez, rfl⟩ := hq
  rw [hez]
  rw [if_pos (show (0 : Int64).toInt ≤ w.toInt64.toInt ∧ w.toInt64.toInt ≤ (10000 : Int64).toInt from by rw [Int32.toInt_toInt64, show (0 : Int64).toInt = 0 from rfl, show (10000 : Int64).toInt = 10000 from rfl]; exact ok.2.1)]
  refine zy_b (mr := zm_m190) rfl rfl (show _ = some (29, []) from rfl) ?_
  refine zy_n 4 (mr := zm_m190) rfl (show _ = some (35, [(0, .ref 55), (1, .int a), (2, .int w), (3, .int f), (4, .int m)], [.long 9, .long 1, .long f.toInt64]) from rfl) ?_
  refine zy_c (mr := zm_m190) (mc := zm_m183) rfl rfl rfl rfl rfl ?_
  refine zh_minE.mono (fun q h' hq => ?_)
  obtain ⟨hez, rfl⟩ := hq
  rw [hez]
  rw [if_pos (show (1 : Int64).toInt ≤ f.toInt64.toInt ∧ f.toInt64.toInt ≤ (9 : Int64).toInt from by rw [Int32.toInt_toInt64, show (1 : Int64).toInt = 1 from rfl, show (9 : Int64).toInt = 9 from rfl]; exact ok.2.2.1)]
  refine zy_b (mr := zm_m190) rfl rfl (show _ = some (41, []) from rfl) ?_
  refine zy_n 4 (mr := zm_m190) rfl (show _ = some (48, [(0, .ref 55), (1, .int a), (2, .int w), (3, .int f), (4, .int m)], [.long 60, .long 1, .long m.toInt64]) from rfl) ?_
  refine zy_c (mr := zm_m190) (mc := zm_m183) rfl rfl rfl rfl rfl ?_
  refine zh_minE.mono (fun q h' hq => ?_)
  obtain ⟨hez, rfl⟩ := hq
  rw [hez]
  rw [if_pos (show (1 : Int64).toInt ≤ m.toInt64.toInt ∧ m.toInt64.toInt ≤ (60 : Int64).toInt from by rw [Int32.toInt_toInt64, show (1 : Int64).toInt = 1 from rfl, show (60 : Int64).toInt = 60 from rfl]; exact ok.2.2.2)]
  refine zy_b (mr := zm_m190) rfl rfl (show _ = some (57, []) from rfl) ?_
  refine zy_n 1 (mr := zm_m190) rfl (show _ = some (58, [(0, .ref 55), (1, .int a), (2, .int w), (3, .int f), (4, .int m)], [.ref 55]) from rfl) ?_
  refine zk_get (mr := zm_m190) rfl rfl hH1 (hH1.2.2 55 rfl) rfl f1 ?_
  refine zy_n 1 (mr := zm_m190) rfl (show _ = some (63, [(0, .ref 55), (1, .int a), (2, .int w), (3, .int f), (4, .int m)], [.int 16, .int (Int32.ofNat n)]) from rfl) ?_
  refine zy_b (mr := zm_m190) rfl rfl (show _ = some (zm_ic .ne (Int32.ofNat n) 16 69 66, []) from rfl) ?_
  refine zc_ne (fun _ => ?_) (fun e => absurd e (fun z => by have e := congrArg Int32.toInt z; rw [(xofn (k := n) (by omega)).1, show (16 : Int32).toInt = 16 from rfl] at e; omega))
  have hjn := (xofn (k := n) (by omega)).1
  refine zy_n 1 (mr := zm_m190) rfl (show _ = some (70, [(0, .ref 55), (1, .int a), (2, .int w), (3, .int f), (4, .int m)], [.ref 55]) from rfl) ?_
  refine zk_get (mr := zm_m190) rfl rfl hH1 (hH1.2.2 55 rfl) rfl (xfo_ref (k := 55) (f := 17) (a := 62) hH1 rfl rfl rfl) ?_
  refine zy_n 1 (mr := zm_m190) rfl (show _ = some (74, [(0, .ref 55), (1, .int a), (2, .int w), (3, .int f), (4, .int m)], [.ref 55, .ref 62]) from rfl) ?_
  refine zk_get (mr := zm_m190) rfl rfl hH1 (hH1.2.2 55 rfl) rfl f1 ?_
  refine zy_n 1 (mr := zm_m190) rfl (show _ = some (78, [(0, .ref 55), (1, .int a), (2, .int w), (3, .int f), (4, .int m)], [.int a, .int (Int32.ofNat n), .ref 62]) from rfl) ?_
  refine zk_ist (mr := zm_m190) rfl rfl hH1 hX1 (hH1.2.2 62 rfl) rfl rfl hjn (by omega) List.mem_cons_self ⟨_, rfl, (xb_rng _).1, (xb_rng _).2⟩ ⟨by show (0 : Int) ≤ _; omega, by show _ ≤ (15 : Int); omega, Or.inl rfl⟩ ?_
  intro h2 hH2 hX2 hW2 hs2 hg2 hF2
  have hc := xCM_st hc hg2 hs2
  have w1 := hs2
  obtain ⟨hn, f1, f2, f3, f4, hw, hh, hz⟩ := id hc
  refine zy_n 1 (mr := zm_m190) rfl (show _ = some (80, [(0, .ref 55), (1, .int a), (2, .int w), (3, .int f), (4, .int m)], [.ref 55]) from rfl) ?_
  refine zk_get (mr := zm_m190) rfl rfl hH2 (hH2.2.2 55 rfl) rfl (xfo_ref (k := 55) (f := 18) (a := 63) hH2 rfl rfl rfl) ?_
  refine zy_n 1 (mr := zm_m190) rfl (show _ = some (84, [(0, .ref 55), (1, .int a), (2, .int w), (3, .int f), (4, .int m)], [.ref 55, .ref 63]) from rfl) ?_
  refine zk_get (mr := zm_m190) rfl rfl hH2 (hH2.2.2 55 rfl) rfl f1 ?_
  refine zy_n 1 (mr := zm_m190) rfl (show _ = some (88, [(0, .ref 55), (1, .int a), (2, .int w), (3, .int f), (4, .int m)], [.int w, .int (Int32.ofNat n), .ref 63]) from rfl) ?_
  refine zk_ist (mr := zm_m190) rfl rfl hH2 hX2 (hH2.2.2 63 rfl) rfl rfl hjn (by omega) List.mem_cons_self ⟨_, rfl, (xb_rng _).1, (xb_rng _).2⟩ ⟨by show (0 : Int) ≤ _; omega, by show _ ≤ (15 : Int); omega, Or.inl rfl⟩ ?_
  intro h3 hH3 hX3 hW3 hs3 hg3 hF3
  have hc := xCM_F hH2 (hF3 [(63, 0)] rfl) rfl hc
  have w1 := hg3.2 _ _ _ (by simp) w1
  obtain ⟨hn, f1, f2, f3, f4, hw, hh, hz⟩ := id hc
  refine zy_n 1 (mr := zm_m190) rfl (show _ = some (90, [(0, .ref 55), (1, .int a), (2, .int w), (3, .int f), (4, .int m)], [.ref 55]) from rfl) ?_
  refine zk_get (mr := zm_m190) rfl rfl hH3 (hH3.2.2 55 rfl) rfl (xfo_ref (k := 55) (f := 19) (a := 64) hH3 rfl rfl rfl) ?_
  refine zy_n 1 (mr := zm_m190) rfl (show _ = some (94, [(0, .ref 55), (1, .int a), (2, .int w), (3, .int f), (4, .int m)], [.ref 55, .ref 64]) from rfl) ?_
  refine zk_get (mr := zm_m190) rfl rfl hH3 (hH3.2.2 55 rfl) rfl f1 ?_
  refine zy_n 1 (mr := zm_m190) rfl (show _ = some (98, [(0, .ref 55), (1, .int a), (2, .int w), (3, .int f), (4, .int m)], [.int f, .int (Int32.ofNat n), .ref 64]) from rfl) ?_
  refine zk_ist (mr := zm_m190) rfl rfl hH3 hX3 (hH3.2.2 64 rfl) rfl rfl hjn (by omega) List.mem_cons_self ⟨_, rfl, (xb_rng _).1, (xb_rng _).2⟩ ⟨by show (0 : Int) ≤ _; omega, by show _ ≤ (15 : Int); omega, Or.inl rfl⟩ ?_
  intro h4 hH4 hX4 hW4 hs4 hg4 hF4
  have hc := xCM_F hH3 (hF4 [(64, 0)] rfl) rfl hc
  have w1 := hg4.2 _ _ _ (by simp) w1
  obtain ⟨hn, f1, f2, f3, f4, hw, hh, hz⟩ := id hc
  refine zy_n 1 (mr := zm_m190) rfl (show _ = some (100, [(0, .ref 55), (1, .int a), (2, .int w), (3, .int f), (4, .int m)], [.ref 55]) from rfl) ?_
  refine zk_get (mr := zm_m190) rfl rfl hH4 (hH4.2.2 55 rfl) rfl (xfo_ref (k := 55) (f := 20) (a := 65) hH4 rfl rfl rfl) ?_
  refine zy_n 1 (mr := zm_m190) rfl (show _ = some (104, [(0, .ref 55), (1, .int a), (2, .int w), (3, .int f), (4, .int m)], [.ref 55, .ref 65]) from rfl) ?_
  refine zk_get (mr := zm_m190) rfl rfl hH4 (hH4.2.2 55 rfl) rfl f1 ?_
  refine zy_n 1 (mr := zm_m190) rfl (show _ = some (109, [(0, .ref 55), (1, .int a), (2, .int w), (3, .int f), (4, .int m)], [.int m, .int (Int32.ofNat n), .ref 65]) from rfl) ?_
  refine zk_ist (mr := zm_m190) rfl rfl hH4 hX4 (hH4.2.2 65 rfl) rfl rfl hjn (by omega) List.mem_cons_self ⟨_, rfl, (xb_rng _).1, (xb_rng _).2⟩ ⟨by show (0 : Int) ≤ _; omega, by show _ ≤ (15 : Int); omega, Or.inl rfl⟩ ?_
  intro h5 hH5 hX5 hW5 hs5 hg5 hF5
  have hc := xCM_F hH4 (hF5 [(65, 0)] rfl) rfl hc
  have w1 := hg5.2 _ _ _ (by simp) w1
  obtain ⟨hn, f1, f2, f3, f4, hw, hh, hz⟩ := id hc
  refine zy_n 1 (mr := zm_m190) rfl (show _ = some (111, [(0, .ref 55), (1, .int a), (2, .int w), (3, .int f), (4, .int m)], [.ref 55]) from rfl) ?_
  refine zk_get (mr := zm_m190) rfl rfl hH5 (hH5.2.2 55 rfl) rfl (xfo_ref (k := 55) (f := 23) (a := 68) hH5 rfl rfl rfl) ?_
  refine zy_n 1 (mr := zm_m190) rfl (show _ = some (115, [(0, .ref 55), (1, .int a), (2, .int w), (3, .int f), (4, .int m)], [.ref 55, .ref 68]) from rfl) ?_
  refine zk_get (mr := zm_m190) rfl rfl hH5 (hH5.2.2 55 rfl) rfl f1 ?_
  refine zy_n 1 (mr := zm_m190) rfl (show _ = some (119, [(0, .ref 55), (1, .int a), (2, .int w), (3, .int f), (4, .int m)], [.ref 55, .int (Int32.ofNat n), .ref 68]) from rfl) ?_
  refine zk_get (mr := zm_m190) rfl rfl hH5 (hH5.2.2 55 rfl) rfl f2 ?_
  refine zk_ist (mr := zm_m190) rfl rfl hH5 hX5 (hH5.2.2 68 rfl) rfl rfl hjn (by omega) List.mem_cons_self ⟨_, rfl, (xb_rng _).1, (xb_rng _).2⟩ ⟨by show (0 : Int) ≤ _; omega, by show _ ≤ (15 : Int); omega, Or.inl rfl⟩ ?_
  intro h6 hH6 hX6 hW6 hs6 hg6 hF6
  have hc := xCM_rf hc hg6 hs6
  obtain ⟨hn, f1, f2, f3, f4, hw, hh, hz⟩ := id hc
  have w1 := hg6.2 _ _ _ (by simp) w1
  have w2 := hs6
  refine zy_n 2 (mr := zm_m190) rfl (show _ = some (125, [(0, .ref 55), (1, .int a), (2, .int w), (3, .int f), (4, .int m)], [.ref 55, .ref 55]) from rfl) ?_
  refine zk_get (mr := zm_m190) rfl rfl hH6 (hH6.2.2 55 rfl) rfl f2 ?_
  refine zy_n 2 (mr := zm_m190) rfl (show _ = some (130, [(0, .ref 55), (1, .int a), (2, .int w), (3, .int f), (4, .int m)], [.int (nr + 1), .ref 55]) from rfl) ?_
  refine zk_put (mr := zm_m190) rfl rfl hH6 hX6 (hH6.2.2 55 rfl) rfl rfl rfl rfl ⟨_, List.mem_cons_self, ⟨_, rfl, (xb_rng _).1, (xb_rng _).2⟩⟩ ?_
  intro h7 hH7 hX7 hW7 hs7 hg7 hF7
  have hc := xCM_nr hc hg7 hs7
  obtain ⟨hn, f1, f2, f3, f4, hw, hh, hz⟩ := id hc
  have w1 := hg7.2 _ _ _ (by simp) w1
  have w2 := hg7.2 _ _ _ (by simp) w2
  refine zy_n 2 (mr := zm_m190) rfl (show _ = some (135, [(0, .ref 55), (1, .int a), (2, .int w), (3, .int f), (4, .int m)], [.ref 55, .ref 55]) from rfl) ?_
  refine zk_get (mr := zm_m190) rfl rfl hH7 (hH7.2.2 55 rfl) rfl f1 ?_
  refine zy_n 2 (mr := zm_m190) rfl (show _ = some (140, [(0, .ref 55), (1, .int a), (2, .int w), (3, .int f), (4, .int m)], [.int ((Int32.ofNat n) + 1), .ref 55]) from rfl) ?_
  refine zk_put (mr := zm_m190) rfl rfl hH7 hX7 (hH7.2.2 55 rfl) rfl rfl rfl rfl ⟨_, List.mem_cons_self, ⟨_, rfl, by rw [xofs (by omega), (xofn (k := n + 1) (by omega)).1]; show (0 : Int) ≤ _; omega, by rw [xofs (by omega), (xofn (k := n + 1) (by omega)).1]; show _ ≤ (16 : Int); omega⟩⟩ ?_
  intro h8 hH8 hX8 hW8 hs8 hg8 hF8
  have hc := xCM_n hc hn16 (by rw [show upd st n a n = a from if_pos rfl]; exact w1) (by rw [show upd rf n nr n = nr from if_pos rfl]; exact w2) hg8 hs8
  obtain ⟨hn, f1, f2, f3, f4, hw, hh, hz⟩ := id hc
  refine zy_n 2 (mr := zm_m190) rfl (show _ = some (145, [(0, .ref 55), (1, .int a), (2, .int w), (3, .int f), (4, .int m)], [.int 0, .ref 55]) from rfl) ?_
  refine zk_put (mr := zm_m190) rfl rfl hH8 hX8 (hH8.2.2 55 rfl) rfl rfl rfl rfl ⟨_, List.mem_cons_self, ⟨_, rfl, by decide, by decide⟩⟩ ?_
  intro h9 hH9 hX9 hW9 hs9 hg9 hF9
  have hc := xCM_F hH8 (hF9 [(55, 82)] rfl) rfl hc
  obtain ⟨hn, f1, f2, f3, f4, hw, hh, hz⟩ := id hc
  refine zy_n 1 (mr := zm_m190) rfl (show _ = some (149, [(0, .ref 55), (1, .int a), (2, .int w), (3, .int f), (4, .int m)], [.ref 55]) from rfl) ?_
  refine zk_get (mr := zm_m190) rfl rfl hH9 (hH9.2.2 55 rfl) rfl (show xfd h9 55 6 = some (.int (Int32.ofNat n + 1)) from by rw [xofs (by omega)]; exact f1) ?_
  refine zy_n 2 (mr := zm_m190) rfl (show _ = some (154, [(0, .ref 55), (1, .int a), (2, .int w), (3, .int f), (4, .int m)], [.int ((Int32.ofNat n + 1) - 1)]) from rfl) ?_
  rw [xoap hn16]
  refine zy_r (mr := zm_m190) rfl rfl (show _ = some (some (.int (Int32.ofNat n))) from rfl) ⟨rfl, τ, hH9, hX9, by omega, (xF_trans (hF1 _ rfl) (xF_trans (hF2 _ rfl) (xF_trans (hF3 _ rfl) (xF_trans (hF4 _ rfl) (xF_trans (hF5 _ rfl) (xF_trans (hF6 _ rfl) (xF_trans (hF7 _ rfl) (xF_trans (hF8 _ rfl) (hF9 _ rfl))))))))), hc⟩
end XC1
