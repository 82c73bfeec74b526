/-! ROOMS and OPENINGS (made by a program) -/
section XR5
set_option maxRecDepth 100000
variable {og : Nat → Option zm_C} {τ τ' : List Nat} {h h' : zm_H} {ms : List (Nat × Nat)} {ad rp : Nat → Nat} {n : Nat} {dn rc oc : Nat → Int32} {st rf : Nat → Int32} {nr y L : Int32} {wk : Nat → Int32} {wd sz : Nat → Int32} {nm : Nat → Nat → Int64}
def xaoS (A B : Nat) (o : Int32) (h h' : zm_H) : Prop := xfd h' A 7 = some (.int (o + 1)) ∧ (∀ (b g : Nat) (v : Value), (b ≠ A ∨ g ≠ 7) → xfd h b g = some v → xfd h' b g = some v) ∧ ∀ (b j : Nat) (v : Value), b ≠ B → xar h b j = some v → xar h' b j = some v
theorem xaoS_h {A B : Nat} {fs ws : List Value} {o : Int32} {f : Nat → Option Nat} (hhA : h[A]? = some (.inr (2, fs))) (hl : fs.length = 11) (hhB : h[B]? = some (.inl (6, 10, .inr (.inr f)))) : xaoS A B o h (xaoh h A B fs ws o f) := by
  have hAB : A ≠ B := fun e => by rw [e, hhB] at hhA; cases hhA
  have hA1 : (h ++ [.inr (5, ws)])[A]? = some (.inr (2, fs)) := zs_app hhA
  have hB1 : (h ++ [.inr (5, ws)])[B]? = some (.inl (6, 10, .inr (.inr f))) := zs_app hhB
  have hB2 := zs_ne (x := .inr (2, fs.set 7 (.int (o + 1)))) hB1 hAB
  have hget : ∀ q, (xaoh h A B fs ws o f)[q]? = if B = q then some (.inl (6, 10, .inr (.inr (va_up f o.toNatClampNeg (some h.length))))) else if A = q then some (.inr (2, fs.set 7 (.int (o + 1)))) else (h ++ [.inr (5, ws)])[q]? := by
    intro q
    unfold xaoh
    rw [xgs hB2, xgs hA1]
  have hold : ∀ q c, h[q]? = some c → q ≠ A → q ≠ B → (xaoh h A B fs ws o f)[q]? = some c := by
    intro q c hq n1 n2
    rw [hget, if_neg (fun e => n2 e.symm), if_neg (fun e => n1 e.symm)]
    exact zs_app hq
  refine ⟨?_, fun q g v hne hv => ?_, fun q j v hne hv => ?_⟩
  · unfold xfd
    rw [hget, if_neg (fun e => hAB e.symm), if_pos rfl]
    exact List.getElem?_set_self (by omega)
  · unfold xfd at hv ⊢
    split at hv
    · rename_i oo ho
      have hqB : q ≠ B := fun e => by rw [e, hhB] at ho; cases ho
      by_cases e2 : q = A
      · subst e2
        rw [hhA] at ho
        cases ho
        rw [hget, if_neg (fun e => hqB e.symm), if_pos rfl]
        have hg : g ≠ 7 := hne.resolve_left (fun e => e rfl)
        show (fs.set 7 _)[g]? = _
        rw [List.getElem?_set_ne (fun e => hg e.symm)]
        exact hv
      · rw [hold q _ ho e2 hqB]
        exact hv
    · cases hv
  · unfold xar at hv ⊢
    split at hv
    · rename_i c hc
      have hqA : q ≠ A := fun e => by rw [e, hhA] at hc; cases hc
      rw [hold q _ hc hqA hne]
      exact hv
    · cases hv
theorem zh_ao84D {A B d : Nat} {fs : List Value} {o r p l s k fl td b : Int32} {f : Nat → Option Nat} (hH : xHI xKT xSG τ h) (hX : xX τ h) (hA : τ[A]? = some 207) (hB : τ[B]? = some 209) (hhA : h[A]? = some (.inr (2, fs))) (f8 : fs[8]? = some (.ref B)) (f7 : fs[7]? = some (.int o)) (hhB : h[B]? = some (.inl (6, 10, .inr (.inr f)))) (o0 : 0 ≤ o.toInt) (o9 : o.toInt ≤ 9) (k0 : 0 ≤ k.toInt ∧ k.toInt ≤ 3) (l0 : 0 ≤ fl.toInt ∧ fl.toInt ≤ 5) (hfl : fs.length = 11) : zm_Y og (d + 1) 23 84 [(6, .int p), (5, .int l), (4, .int s), (0, .ref A), (1, .int k), (2, .int fl), (3, .int td)] [.int l, .int b, .int p, .int fl, .int k, .int r, .ref h.length, .ref h.length, .int o, .ref B] (h.set A (Sum.inr (2, fs.set 7 (.int (o + 1)))) ++ [Sum.inr (5, zm_df 5)]) (fun r h' => xaoQ τ h r h' ∧ xaoS A B o h h') := by
  have hAl : A < h.length := (List.getElem?_eq_some_iff.mp hhA).1
  have hBl : B < h.length := (List.getElem?_eq_some_iff.mp hhB).1
  have hAB : A ≠ B := fun e => by rw [e, hB] at hA; cases hA
  have hnew : (h.set A (Sum.inr (2, fs.set 7 (.int (o + 1)))) ++ [Sum.inr (5, zm_df 5)])[h.length]? = some (.inr (5, zm_df 5)) := by
    rw [List.getElem?_append_right (by rw [List.length_set]; exact Nat.le_refl _), List.length_set, Nat.sub_self]
    rfl
  refine zy_c (mr := zm_m23) (mc := zm_m24) rfl rfl rfl rfl rfl ?_
  refine (zh_oin (r := r) (k := k) (f := fl) (p := p) (b := b) (l := l) hnew).mono (fun q h' hq => ?_)
  obtain ⟨rfl, rfl⟩ := hq
  have hB3 : (((h.set A (Sum.inr (2, fs.set 7 (.int (o + 1)))) ++ [Sum.inr (5, zm_df 5)] : zm_H)).set h.length (Sum.inr (5, [.int r, .int k, .int fl, .int p, .int (xob b), .int (xob l), .int 0, .int (-1)])))[B]? = some (.inl (6, 10, .inr (.inr f))) := zs_ne (zs_app (zs_ne hhB hAB)) (by omega)
  have hN3 := zs_eq (x := .inr (5, [.int r, .int k, .int fl, .int p, .int (xob b), .int (xob l), .int 0, .int (-1)])) hnew
  obtain ⟨hin, hjn, hjlt⟩ := xin_ok (j := o) (n := 10) o0 (by omega)
  refine zy_h (mr := zm_m23) rfl rfl (zh_aast hB3 hN3 rfl hin) ?_
  refine zy_r (mr := zm_m23) rfl rfl rfl ?_
  refine ⟨⟨rfl, τ ++ [210], ?_⟩, ?_⟩
  · show xHI xKT xSG (τ ++ [210]) (((h.set A (Sum.inr (2, fs.set 7 (.int (o + 1)))) ++ [Sum.inr (5, zm_df 5)]).set h.length (Sum.inr (5, [.int r, .int k, .int fl, .int p, .int (xob b), .int (xob l), .int 0, .int (-1)]))).set B (Sum.inl (6, 10, .inr (.inr (va_up f o.toNatClampNeg (some h.length)))))) ∧ xX (τ ++ [210]) (((h.set A (Sum.inr (2, fs.set 7 (.int (o + 1)))) ++ [Sum.inr (5, zm_df 5)]).set h.length (Sum.inr (5, [.int r, .int k, .int fl, .int p, .int (xob b), .int (xob l), .int 0, .int (-1)]))).set B (Sum.inl (6, 10, .inr (.inr (va_up f o.toNatClampNeg (some h.length)))))) ∧ xF (xms [(207, 7), (209, 0)]) τ h (τ ++ [210]) (((h.set A (Sum.inr (2, fs.set 7 (.int (o + 1)))) ++ [Sum.inr (5, zm_df 5)]).set h.length (Sum.inr (5, [.int r, .int k, .int fl, .int p, .int (xob b), .int (xob l), .int 0, .int (-1)]))).set B (Sum.inl (6, 10, .inr (.inr (va_up f o.toNatClampNeg (some h.length)))))) ∧ xW (((h.set A (Sum.inr (2, fs.set 7 (.int (o + 1)))) ++ [Sum.inr (5, zm_df 5)]).set h.length (Sum.inr (5, [.int r, .int k, .int fl, .int p, .int (xob b), .int (xob l), .int 0, .int (-1)]))).set B (Sum.inl (6, 10, .inr (.inr (va_up f o.toNatClampNeg (some h.length)))))) ≤ xW h + 30
    rw [xao_eq hAl]
    exact xao_end hH hX hA hB hhA f8 f7 hhB o0 o9 rfl k0 l0 (xob_01 b) (xob_01 l)
  · show xaoS A B o h (((h.set A (Sum.inr (2, fs.set 7 (.int (o + 1)))) ++ [Sum.inr (5, zm_df 5)]).set h.length (Sum.inr (5, [.int r, .int k, .int fl, .int p, .int (xob b), .int (xob l), .int 0, .int (-1)]))).set B (Sum.inl (6, 10, .inr (.inr (va_up f o.toNatClampNeg (some h.length))))))
    rw [xao_eq hAl]
    exact xaoS_h hhA hfl hhB
theorem zh_ao37D {A d : Nat} {p l s k fl td o : Int32} (f7 : xfd h A 7 = some (.int o)) (o9 : o.toInt ≤ 9) (hH : xHI xKT xSG τ h) (hX : xX τ h) (hA : τ[A]? = some 207) (k0 : 0 ≤ k.toInt ∧ k.toInt ≤ 3) (l0 : 0 ≤ fl.toInt ∧ fl.toInt ≤ 5) : zm_Y og (d + 1) 23 37 [(6, .int p), (5, .int l), (4, .int s), (0, .ref A), (1, .int k), (2, .int fl), (3, .int td)] [] h (fun r h' => xaoQ τ h r h' ∧ ∃ B, τ[B]? = some 209 ∧ xaoS A B o h h') := by
  obtain ⟨fs, hhA, hl, hsp⟩ := xcf_o hH hA (show xKT 207 = some (.inl (2, _)) from rfl)
  have hhA : h[A]? = some (.inr (2, fs)) := hhA
  have hfl : fs.length = 11 := hl
  have g7 : fs[7]? = some fs[7] := List.getElem?_eq_getElem (by omega)
  have g8 : fs[8]? = some fs[8] := List.getElem?_eq_getElem (by omega)
  have g5 : fs[5]? = some fs[5] := List.getElem?_eq_getElem (by omega)
  obtain ⟨a7, m7, s7⟩ := hsp 7 _ _ rfl g7
  have m7 := List.mem_singleton.mp m7
  subst m7
  obtain ⟨o2, e7, o0, o10⟩ := s7
  rw [e7] at g7
  have f7 := xfd_obj hhA f7
  rw [g7] at f7
  have eo : o2 = o := by injection f7 with f7; injection f7
  subst eo
  have o0 : 0 ≤ o2.toInt := o0
  obtain ⟨a8, m8, s8⟩ := hsp 8 _ _ rfl g8
  have m8 := List.mem_singleton.mp m8
  subst m8
  obtain ⟨B, e8, hB⟩ := s8
  rw [e8] at g8
  obtain ⟨a5, m5, s5⟩ := hsp 5 _ _ rfl g5
  have m5 := List.mem_singleton.mp m5
  subst m5
  obtain ⟨r, e5, -, -⟩ := s5
  rw [e5] at g5
  obtain ⟨kB, hhB, b2, -⟩ := xcf_a hH hB (show xKT 209 = some (.inr (6, 10, _)) from rfl)
  obtain ⟨f, rfl⟩ := b2
  have hhB : h[B]? = some (.inl (6, 10, .inr (.inr f))) := hhB
  refine zy_n 1 (mr := zm_m23) rfl rfl ?_
  refine zy_h (mr := zm_m23) rfl rfl (zh_get hhA g7) ?_
  refine zy_n 1 (mr := zm_m23) rfl rfl ?_
  refine zy_b (mr := zm_m23) rfl rfl rfl ?_
  refine zc_ge (fun hc => ?_) (fun hc => ?_)
  · exact absurd (Int32.le_iff_toInt_le.mp hc) (by rw [show (10 : Int32).toInt = 10 from rfl]; omega)
  · skip
    refine zy_n 1 (mr := zm_m23) rfl rfl ?_
    refine zy_h (mr := zm_m23) rfl rfl (zh_get hhA g8) ?_
    refine zy_n 2 (mr := zm_m23) rfl rfl ?_
    refine zy_h (mr := zm_m23) rfl rfl (zh_get hhA g7) ?_
    refine zy_n 3 (mr := zm_m23) rfl rfl ?_
    refine zy_h (mr := zm_m23) rfl rfl (zh_put hhA (by rw [hfl]; rfl) rfl) ?_
    refine zy_h (mr := zm_m23) rfl rfl (zh_new (n := h.length) (by rw [List.length_set])) ?_
    refine zy_n 2 (mr := zm_m23) rfl rfl ?_
    have hA2 : (h.set A (Sum.inr (2, fs.set 7 (.int (o2 + 1)))) ++ [Sum.inr (5, zm_df 5)])[A]? = some (.inr (2, fs.set 7 (.int (o2 + 1)))) := zs_app (zs_eq hhA)
    refine zy_h (mr := zm_m23) rfl rfl (zh_get (v := .int r) hA2 (by rw [List.getElem?_set_ne (by decide)]; exact g5)) ?_
    refine zy_n 4 (mr := zm_m23) rfl rfl ?_
    refine zy_b (mr := zm_m23) rfl rfl rfl ?_
    refine zi_ge (fun h0 => ?_) (fun h0 => ?_)
    · refine zy_n 2 (mr := zm_m23) rfl rfl ?_
      exact (zh_ao84D hH hX hA hB hhA g8 g7 hhB o0 o9 k0 l0 hfl).mono (fun r h2 hq => ⟨hq.1, B, hB, hq.2⟩)
    · refine zy_n 3 (mr := zm_m23) rfl rfl ?_
      exact (zh_ao84D hH hX hA hB hhA g8 g7 hhB o0 o9 k0 l0 hfl).mono (fun r h2 hq => ⟨hq.1, B, hB, hq.2⟩)
theorem zh_aoD {A d : Nat} {k fl td o : Int32} (f7 : xfd h A 7 = some (.int o)) (o9 : o.toInt ≤ 9) (hH : xHI xKT xSG τ h) (hX : xX τ h) (hA : τ[A]? = some 207) (k0 : 0 ≤ k.toInt ∧ k.toInt ≤ 3) (l0 : 0 ≤ fl.toInt ∧ fl.toInt ≤ 5) : zm_Y og (d + 1) 23 0 [(0, .ref A), (1, .int k), (2, .int fl), (3, .int td)] [] h (fun r h' => xaoQ τ h r h' ∧ ∃ B, τ[B]? = some 209 ∧ xaoS A B o h h') := by
  refine zy_n 1 (mr := zm_m23) rfl rfl ?_
  refine zy_h (q := ([.int (if 0 ≤ td then td else 0 - td)], h)) (mr := zm_m23) rfl rfl rfl ?_
  generalize (if 0 ≤ td then td else 0 - td) = s
  refine zy_n 3 (mr := zm_m23) rfl rfl ?_
  refine zy_b (mr := zm_m23) rfl rfl rfl ?_
  refine zc_le (fun hc => ?_) (fun hc => ?_)
  · refine zy_n 3 (mr := zm_m23) rfl rfl ?_
    refine zy_b (mr := zm_m23) rfl rfl rfl ?_
    show zm_Y og (d + 1) 23 33 [(5, .int 0), (4, .int s), (0, .ref A), (1, .int k), (2, .int fl), (3, .int td)] [] h (fun r h' => xaoQ τ h r h' ∧ ∃ B, τ[B]? = some 209 ∧ xaoS A B o h h')
    refine zy_n 2 (mr := zm_m23) rfl rfl ?_
    exact zh_ao37D f7 o9 hH hX hA k0 l0
  · refine zy_n 4 (mr := zm_m23) rfl rfl ?_
    refine zy_b (mr := zm_m23) rfl rfl rfl ?_
    show zm_Y og (d + 1) 23 25 [(5, .int 1), (4, .int s), (0, .ref A), (1, .int k), (2, .int fl), (3, .int td)] [] h (fun r h' => xaoQ τ h r h' ∧ ∃ B, τ[B]? = some 209 ∧ xaoS A B o h h')
    refine zy_n 5 (mr := zm_m23) rfl rfl ?_
    exact zh_ao37D f7 o9 hH hX hA k0 l0
theorem xHX_ao {i : Nat} {v : Int32} (hH : xHI xKT xSG τ h) (hi : i < n) (hc : xHX ad τ h n dn rc (upd oc i v)) (hf : xF (xms [(207, 7), (209, 0)]) τ h τ' h') (hs : ∃ B, τ[B]? = some 209 ∧ xaoS (ad i) B v h h') : xHX ad τ' h' n dn rc (upd oc i (v + 1)) := by
  obtain ⟨hn, f1, hh, hj⟩ := hc
  obtain ⟨B, hB, s7, sf, sa⟩ := hs
  obtain ⟨s, hs⟩ := hf.1
  refine ⟨hn, hf.2.1 0 0 1 _ (hH.2.2 0 rfl) rfl f1, fun j hj2 => ?_, hj⟩
  obtain ⟨g1, g2, g3, g4, g5⟩ := hh j hj2
  refine ⟨xar_F hf (hH.2.2 1 rfl) rfl g1, by rw [hs]; exact xgl g2, hf.2.1 _ _ _ _ g2 rfl g3, hf.2.1 _ _ _ _ g2 rfl g4, ?_⟩
  by_cases e : j = i
  · subst e
    rw [show upd oc j (v + 1) j = v + 1 from if_pos rfl]
    exact s7
  · rw [show upd oc i (v + 1) j = oc j from if_neg e]
    rw [show upd oc i v j = oc j from if_neg e] at g5
    exact sf _ _ _ (Or.inl (fun z => e (hj _ _ hj2 hi z))) g5
end XR5
