/-! By hand: addOpening, the walk -/
section XAV
variable {τ : List Nat} {h : zm_H} {og : Nat → Option zm_C}
def xaoQ (τ : List Nat) (h : zm_H) (r : Option Value) (h' : zm_H) : Prop := r = none ∧ ∃ τ', xHI xKT xSG τ' h' ∧ xX τ' h' ∧ xF (xms [(207, 7), (209, 0)]) τ h τ' h' ∧ xW h' ≤ xW h + 30
theorem xset_last {x y : zm_C} : (h ++ [x]).set h.length y = h ++ [y] := by
  rw [List.set_append_right _ _ (Nat.le_refl _), Nat.sub_self]
  rfl
theorem xao_eq {A B : Nat} {fs ws : List Value} {o : Int32} {f : Nat → Option Nat} {c : zm_C} (hA : A < h.length) : (((h.set A (.inr (2, fs.set 7 (.int (o + 1)))) ++ [c]).set h.length (.inr (5, ws))).set B (Sum.inl (6, 10, .inr (.inr (va_up f o.toNatClampNeg (some h.length)))))) = xaoh h A B fs ws o f := by
  have e : h.length = (h.set A (.inr (2, fs.set 7 (.int (o + 1))))).length := by rw [List.length_set]
  unfold xaoh
  congr 1
  rw [show (h.set A (.inr (2, fs.set 7 (.int (o + 1)))) ++ [c]).set h.length (.inr (5, ws)) = h.set A (.inr (2, fs.set 7 (.int (o + 1)))) ++ [.inr (5, ws)] from by
    conv => lhs; rw [e]
    exact xset_last]
  rw [List.set_append_left _ _ hA]
theorem zh_ao84 {A B d : Nat} {fs : List Value} {o r p l s k fl td b : Int32} {f : Nat → Option Nat} (hH : xHI xKT xSG τ h) (hX : xX τ h) (hA : τ[A]? = some 207) (hB : τ[B]? = some 209) (hhA : h[A]? = some (.inr (2, fs))) (f8 : fs[8]? = some (.ref B)) (f7 : fs[7]? = some (.int o)) (hhB : h[B]? = some (.inl (6, 10, .inr (.inr f)))) (o0 : 0 ≤ o.toInt) (o9 : o.toInt ≤ 9) (k0 : 0 ≤ k.toInt ∧ k.toInt ≤ 3) (l0 : 0 ≤ fl.toInt ∧ fl.toInt ≤ 5) : zm_Y og (d + 1) 23 84 [(6, .int p), (5, .int l), (4, .int s), (0, .ref A), (1, .int k), (2, .int fl), (3, .int td)] [.int l, .int b, .int p, .int fl, .int k, .int r, .ref h.length, .ref h.length, .int o, .ref B] (h.set A (Sum.inr (2, fs.set 7 (.int (o + 1)))) ++ [Sum.inr (5, zm_df 5)]) (xaoQ τ h) := by
  have hAl : A < h.length := (List.getElem?_eq_some_iff.mp hhA).1
  have hBl : B < h.length := (List.getElem?_eq_some_iff.mp hhB).1
  have hAB : A ≠ B := fun e => by rw [e, hB] at hA; cases hA
  have hnew : (h.set A (Sum.inr (2, fs.set 7 (.int (o + 1)))) ++ [Sum.inr (5, zm_df 5)])[h.length]? = some (.inr (5, zm_df 5)) := by
    rw [List.getElem?_append_right (by rw [List.length_set]; exact Nat.le_refl _), List.length_set, Nat.sub_self]
    rfl
  refine zy_c (mr := zm_m23) (mc := zm_m24) rfl rfl rfl rfl rfl ?_
  refine (zh_oin (r := r) (k := k) (f := fl) (p := p) (b := b) (l := l) hnew).mono (fun q h' hq => ?_)
  obtain ⟨rfl, rfl⟩ := hq
  have hB3 : (((h.set A (Sum.inr (2, fs.set 7 (.int (o + 1)))) ++ [Sum.inr (5, zm_df 5)] : zm_H)).set h.length (Sum.inr (5, [.int r, .int k, .int fl, .int p, .int (xob b), .int (xob l), .int 0, .int (-1)])))[B]? = some (.inl (6, 10, .inr (.inr f))) := zs_ne (zs_app (zs_ne hhB hAB)) (by omega)
  have hN3 := zs_eq (x := .inr (5, [.int r, .int k, .int fl, .int p, .int (xob b), .int (xob l), .int 0, .int (-1)])) hnew
  obtain ⟨hin, hjn, hjlt⟩ := xin_ok (j := o) (n := 10) o0 (by omega)
  refine zy_h (mr := zm_m23) rfl rfl (zh_aast hB3 hN3 rfl hin) ?_
  refine zy_r (mr := zm_m23) rfl rfl rfl ?_
  refine ⟨rfl, τ ++ [210], ?_⟩
  show xHI xKT xSG (τ ++ [210]) (((h.set A (Sum.inr (2, fs.set 7 (.int (o + 1)))) ++ [Sum.inr (5, zm_df 5)]).set h.length (Sum.inr (5, [.int r, .int k, .int fl, .int p, .int (xob b), .int (xob l), .int 0, .int (-1)]))).set B (Sum.inl (6, 10, .inr (.inr (va_up f o.toNatClampNeg (some h.length)))))) ∧ xX (τ ++ [210]) (((h.set A (Sum.inr (2, fs.set 7 (.int (o + 1)))) ++ [Sum.inr (5, zm_df 5)]).set h.length (Sum.inr (5, [.int r, .int k, .int fl, .int p, .int (xob b), .int (xob l), .int 0, .int (-1)]))).set B (Sum.inl (6, 10, .inr (.inr (va_up f o.toNatClampNeg (some h.length)))))) ∧ xF (xms [(207, 7), (209, 0)]) τ h (τ ++ [210]) (((h.set A (Sum.inr (2, fs.set 7 (.int (o + 1)))) ++ [Sum.inr (5, zm_df 5)]).set h.length (Sum.inr (5, [.int r, .int k, .int fl, .int p, .int (xob b), .int (xob l), .int 0, .int (-1)]))).set B (Sum.inl (6, 10, .inr (.inr (va_up f o.toNatClampNeg (some h.length)))))) ∧ xW (((h.set A (Sum.inr (2, fs.set 7 (.int (o + 1)))) ++ [Sum.inr (5, zm_df 5)]).set h.length (Sum.inr (5, [.int r, .int k, .int fl, .int p, .int (xob b), .int (xob l), .int 0, .int (-1)]))).set B (Sum.inl (6, 10, .inr (.inr (va_up f o.toNatClampNeg (some h.length)))))) ≤ xW h + 30
  rw [xao_eq hAl]
  exact xao_end hH hX hA hB hhA f8 f7 hhB o0 o9 rfl k0 l0 (xob_01 b) (xob_01 l)
theorem zh_ao37 {A d : Nat} {p l s k fl td : Int32} (hH : xHI xKT xSG τ h) (hX : xX τ h) (hA : τ[A]? = some 207) (k0 : 0 ≤ k.toInt ∧ k.toInt ≤ 3) (l0 : 0 ≤ fl.toInt ∧ fl.toInt ≤ 5) : zm_Y og (d + 1) 23 37 [(6, .int p), (5, .int l), (4, .int s), (0, .ref A), (1, .int k), (2, .int fl), (3, .int td)] [] h (xaoQ τ h) := by
  obtain ⟨fs, hhA, hl, hsp⟩ := xcf_o hH hA (show xKT 207 = some (.inl (2, _)) from rfl)
  have hhA : h[A]? = some (.inr (2, fs)) := hhA
  have hfl : fs.length = 11 := hl
  have g7 : fs[7]? = some fs[7] := List.getElem?_eq_getElem (by omega)
  have g8 : fs[8]? = some fs[8] := List.getElem?_eq_getElem (by omega)
  have g5 : fs[5]? = some fs[5] := List.getElem?_eq_getElem (by omega)
  obtain ⟨a7, m7, s7⟩ := hsp 7 _ _ rfl g7
  have m7 := List.mem_singleton.mp m7
  subst m7
  obtain ⟨o, e7, o0, o10⟩ := s7
  have o0 : 0 ≤ o.toInt := o0
  rw [e7] at g7
  obtain ⟨a8, m8, s8⟩ := hsp 8 _ _ rfl g8
  have m8 := List.mem_singleton.mp m8
  subst m8
  obtain ⟨B, e8, hB⟩ := s8
  rw [e8] at g8
  obtain ⟨a5, m5, s5⟩ := hsp 5 _ _ rfl g5
  have m5 := List.mem_singleton.mp m5
  subst m5
  obtain ⟨r, e5, -, -⟩ := s5
  rw [e5] at g5
  obtain ⟨kB, hhB, b2, -⟩ := xcf_a hH hB (show xKT 209 = some (.inr (6, 10, _)) from rfl)
  obtain ⟨f, rfl⟩ := b2
  have hhB : h[B]? = some (.inl (6, 10, .inr (.inr f))) := hhB
  refine zy_n 1 (mr := zm_m23) rfl rfl ?_
  refine zy_h (mr := zm_m23) rfl rfl (zh_get hhA g7) ?_
  refine zy_n 1 (mr := zm_m23) rfl rfl ?_
  refine zy_b (mr := zm_m23) rfl rfl rfl ?_
  refine zc_ge (fun hc => ?_) (fun hc => ?_)
  · refine zy_r (mr := zm_m23) rfl rfl rfl ⟨rfl, τ, hH, hX, xF_refl _ _ _, Nat.le_add_right _ _⟩
  · have o9 : o.toInt ≤ 9 := by
      have e10 : (10 : Int32).toInt = 10 := rfl
      have : ¬ (10 : Int32).toInt ≤ o.toInt := fun q => hc (Int32.le_iff_toInt_le.mpr q)
      omega
    refine zy_n 1 (mr := zm_m23) rfl rfl ?_
    refine zy_h (mr := zm_m23) rfl rfl (zh_get hhA g8) ?_
    refine zy_n 2 (mr := zm_m23) rfl rfl ?_
    refine zy_h (mr := zm_m23) rfl rfl (zh_get hhA g7) ?_
    refine zy_n 3 (mr := zm_m23) rfl rfl ?_
    refine zy_h (mr := zm_m23) rfl rfl (zh_put hhA (by rw [hfl]; rfl) rfl) ?_
    refine zy_h (mr := zm_m23) rfl rfl (zh_new (n := h.length) (by rw [List.length_set])) ?_
    refine zy_n 2 (mr := zm_m23) rfl rfl ?_
    have hA2 : (h.set A (Sum.inr (2, fs.set 7 (.int (o + 1)))) ++ [Sum.inr (5, zm_df 5)])[A]? = some (.inr (2, fs.set 7 (.int (o + 1)))) := zs_app (zs_eq hhA)
    refine zy_h (mr := zm_m23) rfl rfl (zh_get (v := .int r) hA2 (by rw [List.getElem?_set_ne (by decide)]; exact g5)) ?_
    refine zy_n 4 (mr := zm_m23) rfl rfl ?_
    refine zy_b (mr := zm_m23) rfl rfl rfl ?_
    refine zi_ge (fun h0 => ?_) (fun h0 => ?_)
    · refine zy_n 2 (mr := zm_m23) rfl rfl ?_
      exact zh_ao84 hH hX hA hB hhA g8 g7 hhB o0 o9 k0 l0
    · refine zy_n 3 (mr := zm_m23) rfl rfl ?_
      exact zh_ao84 hH hX hA hB hhA g8 g7 hhB o0 o9 k0 l0
end XAV
