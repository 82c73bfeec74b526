/-! By hand: house, the walk behind the tests -/
section XHW
variable {τ : List Nat} {h : zm_H} {og : Nat → Option zm_C}
theorem xh_eq {X D H' c1 c2 : zm_C} (h0 : 0 < h.length) : ((((h ++ [D]).set 0 X ++ [c1]) ++ [c2]).set h.length H') = (h ++ [H', c1, c2]).set 0 X := by
  cases h with
  | nil => exact absurd h0 (by decide)
  | cons a t =>
    show X :: (((t ++ [D]) ++ [c1]) ++ [c2]).set t.length H' = X :: (t ++ [H', c1, c2])
    rw [List.append_assoc, List.append_assoc, List.set_append_right _ _ (Nat.le_refl _), Nat.sub_self]
    rfl
def xhQ (τ : List Nat) (h : zm_H) (r : Option Value) (h' : zm_H) : Prop := (∃ b : Int32, r = some (.int b)) ∧ ∃ τ', xHI xKT xSG τ' h' ∧ xX τ' h' ∧ xF (xms [(0, 1), (0, 2), (1, 0), (36, 9)]) τ h τ' h' ∧ xW h' ≤ xW h + 90
theorem zh_h49 {d : Nat} {s w f m c : Int32} {fs : List Value} (hH : xHI xKT xSG τ h) (hX : xX τ h) (h0 : h[0]? = some (.inr (10, fs))) (f1 : fs[1]? = some (.int c)) (c0 : 0 ≤ c.toInt) (c15 : c.toInt ≤ 15) (m0 : 0 ≤ m.toInt ∧ m.toInt ≤ 60) : zm_Y og (d + 1) 12 49 [(0, .ref 0), (1, .int s), (2, .int w), (3, .int f), (4, .int m)] [] h (xhQ τ h) := by
  have s0 := hX.1
  have hlen := hH.1
  have sg : ∀ a : Nat, xSG a = true → a < h.length := fun a ha => by
    have := (List.getElem?_eq_some_iff.mp (s0 a ha)).1
    omega
  obtain ⟨fs', q1, hl, hsp⟩ := xcf_o hH (s0 0 rfl) (show xKT 0 = some (.inl (10, _)) from rfl)
  rw [h0] at q1
  cases q1
  have f0 : fs[0]? = some (.ref 1) := by
    have hl2 : 0 < fs.length := by rw [hl]; decide
    have g := List.getElem?_eq_getElem hl2
    obtain ⟨a, ma, sa⟩ := hsp 0 _ _ rfl g
    have ma := List.mem_singleton.mp ma
    subst ma
    rw [g, show fs[0] = .ref 1 from sa]
  have f10 : fs[10]? = some (.ref 36) := by
    have hl2 : 10 < fs.length := by rw [hl]; decide
    have g := List.getElem?_eq_getElem hl2
    obtain ⟨a, ma, sa⟩ := hsp 10 _ _ rfl g
    have ma := List.mem_singleton.mp ma
    subst ma
    rw [g, show fs[10] = .ref 36 from sa]
  obtain ⟨r, f2⟩ : ∃ r : Int32, fs[2]? = some (.int r) := by
    have hl2 : 2 < fs.length := by rw [hl]; decide
    have g := List.getElem?_eq_getElem hl2
    obtain ⟨a, ma, sa⟩ := hsp 2 _ _ rfl g
    have ma := List.mem_singleton.mp ma
    subst ma
    obtain ⟨r, e, -, -⟩ := sa
    exact ⟨r, by rw [g, e]⟩
  obtain ⟨kB, h1, b2, -⟩ := xcf_a hH (s0 1 rfl) (show xKT 1 = some (.inr (4, 16, _)) from rfl)
  obtain ⟨g, rfl⟩ := b2
  have h1 : h[1]? = some (.inl (4, 16, .inr (.inr g))) := h1
  obtain ⟨ps, h36, hl36, -⟩ := xcf_o hH (s0 36 rfl) (show xKT 36 = some (.inl (6, _)) from rfl)
  have h36 : h[36]? = some (.inr (6, ps)) := h36
  have b2 : Nat.blt 2 fs.length = true := by rw [hl]; rfl
  refine zy_n 1 (mr := zm_m12) rfl rfl ?_
  refine zy_h (mr := zm_m12) rfl rfl (zh_get h0 f0) ?_
  refine zy_n 1 (mr := zm_m12) rfl rfl ?_
  refine zy_h (mr := zm_m12) rfl rfl (zh_get h0 f1) ?_
  refine zy_h (mr := zm_m12) rfl rfl (zh_new (n := h.length) rfl) ?_
  refine zy_n 7 (mr := zm_m12) rfl rfl ?_
  refine zy_h (mr := zm_m12) rfl rfl (zh_get (zs_app h0) f2) ?_
  refine zy_n 3 (mr := zm_m12) rfl rfl ?_
  refine zy_h (mr := zm_m12) rfl rfl (zh_put (zs_app h0) b2 rfl) ?_
  have hnew : ((h ++ [Sum.inr (2, zm_df 2)]).set 0 (Sum.inr (10, fs.set 2 (.int (r + 1)))))[h.length]? = some (.inr (2, zm_df 2)) := by
    rw [List.getElem?_set_ne (by have := sg 0 rfl; omega), List.getElem?_append_right (Nat.le_refl _), Nat.sub_self]
    rfl
  refine zy_c (mr := zm_m12) (mc := zm_m15) rfl rfl rfl rfl rfl ?_
  refine (zh_hin (s := s) (w := w) (f := f) (m := m) (r := r) hnew).mono (fun q h' hq => ?_)
  obtain ⟨rfl, rfl⟩ := hq
  have hK := xHI_house (s := s) (w := w) (f := f) (r := r) hH m0
  have hXK := xX_house (s := s) (w := w) (f := f) (m := m) (r := r) hH hX
  have hFK : xF (xms [(0, 1), (0, 2), (1, 0), (36, 9)]) τ h (τ ++ [207, 208, 209]) (h ++ [xhho h.length s w f m r, xhc1, xhc2]) := xF_apl
  have hWK := xW_house (s := s) (w := w) (f := f) (m := m) (r := r) (sg 36 rfl)
  have hN : (τ ++ [207, 208, 209])[h.length]? = some 207 := by
    rw [hlen, List.getElem?_append_right (Nat.le_refl _), Nat.sub_self]
    rfl
  have kN : (h ++ [xhho h.length s w f m r, xhc1, xhc2])[h.length]? = some (xhho h.length s w f m r) := by
    rw [List.getElem?_append_right (Nat.le_refl _), Nat.sub_self]
    rfl
  have k0 : (h ++ [xhho h.length s w f m r, xhc1, xhc2])[0]? = some (.inr (10, fs)) := zs_app h0
  have k1 : (h ++ [xhho h.length s w f m r, xhc1, xhc2])[1]? = some (.inl (4, 16, .inr (.inr g))) := zs_app h1
  have k36 : (h ++ [xhho h.length s w f m r, xhc1, xhc2])[36]? = some (.inr (6, ps)) := zs_app h36
  have t0 : (τ ++ [207, 208, 209])[0]? = some 0 := xgl (s0 0 rfl)
  have t36 : (τ ++ [207, 208, 209])[36]? = some 36 := xgl (s0 36 rfl)
  have hn0 : 0 ≠ h.length := by have := sg 0 rfl; omega
  refine xY_eq (h' := (h ++ [xhho h.length s w f m r, xhc1, xhc2]).set 0 (.inr (10, fs.set 2 (.int (r + 1))))) ?_ ?_
  · have e1 : ((h ++ [Sum.inr (2, zm_df 2)]).set 0 (Sum.inr (10, fs.set 2 (.int (r + 1))))).length = h.length + 1 := by simp
    have e2 : ((h ++ [Sum.inr (2, zm_df 2)]).set 0 (Sum.inr (10, fs.set 2 (.int (r + 1)))) ++ [xhc1]).length = h.length + 2 := by simp
    rw [e1, e2]
    exact xh_eq (sg 0 rfl)
  generalize h ++ [xhho h.length s w f m r, xhc1, xhc2] = K at *
  generalize τ ++ [207, 208, 209] = T at *
  have hH1 := xHI_setf (f := 2) (v := .int (r + 1)) hK t0 (show xKT 0 = some (.inl (10, _)) from rfl) k0 (fun sp hs => by
    cases hs
    exact ⟨_, List.mem_cons_self, r + 1, rfl, (xb_rng _).1, (xb_rng _).2⟩)
  have hX1 := xXW_ok.1 T K 0 0 10 2 fs (.int (r + 1)) hXK t0 rfl k0 (by rw [hl]; decide)
  have hF1 := xF_setf (MS := xms [(0, 1), (0, 2), (1, 0), (36, 9)]) (f := 2) (v := .int (r + 1)) t0 rfl k0
  have j0 := zs_eq (x := .inr (10, fs.set 2 (.int (r + 1)))) k0
  have j1 := zs_ne (x := .inr (10, fs.set 2 (.int (r + 1)))) k1 (show (0 : Nat) ≠ 1 by decide)
  have jN := zs_ne (x := .inr (10, fs.set 2 (.int (r + 1)))) kN hn0
  have j36 := zs_ne (x := .inr (10, fs.set 2 (.int (r + 1)))) k36 (show (0 : Nat) ≠ 36 by decide)
  generalize K.set 0 (.inr (10, fs.set 2 (.int (r + 1)))) = K1 at *
  have g0 : (fs.set 2 (.int (r + 1)))[0]? = some (.ref 1) := by rw [List.getElem?_set_ne (by decide)]; exact f0
  have g1 : (fs.set 2 (.int (r + 1)))[1]? = some (.int c) := by rw [List.getElem?_set_ne (by decide)]; exact f1
  have g10 : (fs.set 2 (.int (r + 1)))[10]? = some (.ref 36) := by rw [List.getElem?_set_ne (by decide)]; exact f10
  have gl : Nat.blt 1 (fs.set 2 (.int (r + 1))).length = true := by rw [List.length_set, hl]; rfl
  generalize fs.set 2 (.int (r + 1)) = gs at *
  obtain ⟨hin, hjn, hjlt⟩ := xin_ok (j := c) (n := 16) c0 (by omega)
  obtain ⟨hH2, hX2, hF2, hW2⟩ := xst_h (MS := xms [(0, 1), (0, 2), (1, 0), (36, 9)]) hH1 hX1.1 rfl j1 hN c0 c15
  refine zy_h (mr := zm_m12) rfl rfl (zh_aast j1 jN rfl hin) ?_
  have i0 := zs_ne (x := .inl (4, 16, .inr (.inr (va_up g c.toNatClampNeg (some h.length))))) j0 (show (1 : Nat) ≠ 0 by decide)
  have i1 := zs_eq (x := .inl (4, 16, .inr (.inr (va_up g c.toNatClampNeg (some h.length))))) j1
  have i36 := zs_ne (x := .inl (4, 16, .inr (.inr (va_up g c.toNatClampNeg (some h.length))))) j36 (show (1 : Nat) ≠ 36 by decide)
  generalize K1.set 1 (.inl (4, 16, .inr (.inr (va_up g c.toNatClampNeg (some h.length))))) = K2 at *
  refine zy_n 1 (mr := zm_m12) rfl rfl ?_
  refine zy_h (mr := zm_m12) rfl rfl (zh_get i0 g10) ?_
  refine zy_n 1 (mr := zm_m12) rfl rfl ?_
  refine zy_h (mr := zm_m12) rfl rfl (zh_put i36 (by rw [hl36]; rfl) rfl) ?_
  have hH3 := xHI_setf (f := 9) (v := .int 0) hH2 t36 (show xKT 36 = some (.inl (6, _)) from rfl) i36 (fun sp hs => by
    cases hs
    exact ⟨_, List.mem_cons_self, 0, rfl, by decide, by decide⟩)
  have hX3 := xXW_ok.1 T K2 36 36 6 9 ps (.int 0) hX2 t36 rfl i36 (by rw [hl36]; decide)
  have hF3 := xF_setf (MS := xms [(0, 1), (0, 2), (1, 0), (36, 9)]) (f := 9) (v := .int 0) t36 rfl i36
  have l0 := zs_ne (x := .inr (6, ps.set 9 (.int 0))) i0 (show (36 : Nat) ≠ 0 by decide)
  have l1 := zs_ne (x := .inr (6, ps.set 9 (.int 0))) i1 (show (36 : Nat) ≠ 1 by decide)
  generalize K2.set 36 (.inr (6, ps.set 9 (.int 0))) = K3 at *
  refine zy_n 2 (mr := zm_m12) rfl rfl ?_
  refine zy_h (mr := zm_m12) rfl rfl (zh_get l0 g1) ?_
  refine zy_n 3 (mr := zm_m12) rfl rfl ?_
  refine zy_h (mr := zm_m12) rfl rfl (zh_put l0 gl rfl) ?_
  obtain ⟨hH4, hX4, hF4, hW4⟩ := xct_h (MS := xms [(0, 1), (0, 2), (1, 0), (36, 9)]) hH3 hX3.1 rfl l0 g0 g1 l1 (by
    show (if _ = _ then some h.length else _) ≠ none
    rw [if_pos rfl]
    simp) c0 c15
  refine zy_r (mr := zm_m12) rfl rfl rfl ⟨⟨c, rfl⟩, T, hH4, hX4, xF_trans hFK (xF_trans hF1 (xF_trans hF2 (xF_trans hF3 hF4))), ?_⟩
  have e1 := hX1.2
  have e3 := hX3.2
  show xW (K3.set 0 (.inr (10, gs.set 1 (.int (c + 1))))) ≤ _
  omega
end XHW
