/-! By hand: held, the contract -/
section XHC
variable {og : Nat → Option zm_C}
theorem zh_he {τ : List Nat} {h : zm_H} {d : Nat} {k p f b l w : Int32} (hV : xV xVV xX xW og xc_55) (hH : xHI xKT xSG τ h) (hX : xX τ h) (w0 : 0 ≤ w.toInt ∧ w.toInt ≤ 1) : zm_Y og (d + 2) 107 0 (xhl k p f b l w) [] h (xheQ τ h) := by
  have s0 := hX.1
  have hno : ∀ {g : zm_H}, g = h → zm_Y og (d + 2) 107 28 (xhl k p f b l w) [] g (xheQ τ h) := fun e => by
    subst e
    refine zy_n 1 (mr := zm_m107) rfl rfl ?_
    exact zy_r (mr := zm_m107) rfl rfl rfl (xheQ_id hH hX)
  refine zy_n 3 (mr := zm_m107) rfl rfl ?_
  refine zy_c (mr := zm_m107) (mc := zm_m10) rfl rfl rfl rfl rfl ?_
  refine zh_within.mono (fun r h' hq => ?_)
  obtain ⟨rfl, x, rfl, hx⟩ := hq
  refine zy_b (mr := zm_m107) rfl rfl rfl ?_
  refine zi_eq (fun _ => hno rfl) (fun hne => ?_)
  obtain ⟨-, ka, kb⟩ := hx.resolve_left hne
  refine zy_n 3 (mr := zm_m107) rfl rfl ?_
  refine zy_c (mr := zm_m107) (mc := zm_m10) rfl rfl rfl rfl rfl ?_
  refine zh_within.mono (fun r h' hq => ?_)
  obtain ⟨rfl, x2, rfl, hx2⟩ := hq
  refine zy_b (mr := zm_m107) rfl rfl rfl ?_
  refine zi_eq (fun _ => hno rfl) (fun hne2 => ?_)
  refine zy_n 3 (mr := zm_m107) rfl rfl ?_
  refine zy_c (mr := zm_m107) (mc := zm_m10) rfl rfl rfl rfl rfl ?_
  refine zh_within.mono (fun r h' hq => ?_)
  obtain ⟨rfl, x3, rfl, hx3⟩ := hq
  refine zy_b (mr := zm_m107) rfl rfl rfl ?_
  refine zi_ne (fun hne3 => ?_) (fun _ => hno rfl)
  obtain ⟨-, fa, fb⟩ := hx3.resolve_left hne3
  obtain ⟨fs, hh0, hl0, hsp0⟩ := xcf_o hH (s0 0 rfl) (show xKT 0 = some (.inl (10, _)) from rfl)
  have g8 : fs[8]? = some (.ref 25) := xone hl0 hsp0 rfl
  obtain ⟨cs, hh25, hl25, hsp25⟩ := xcf_o hH (s0 25 rfl) (show xKT 25 = some (.inl (1, _)) from rfl)
  have hl25 : cs.length = 3 := hl25
  obtain ⟨y0, y1, y2, rfl⟩ : ∃ a b c, cs = [a, b, c] := by
    match cs, hl25 with
    | [a, b, c], _ => exact ⟨a, b, c, rfl⟩
  obtain ⟨a0, m0, t0⟩ := hsp25 0 _ _ rfl rfl
  have m0 := List.mem_singleton.mp m0
  subst m0
  obtain ⟨n, rfl, -, -⟩ := t0
  obtain ⟨a1, m1, t1⟩ := hsp25 1 _ _ rfl rfl
  have m1 := List.mem_singleton.mp m1
  subst m1
  obtain ⟨c, rfl, c0, -⟩ := t1
  have c0 : (0 : Int) ≤ c.toInt := c0
  have hh25 : _ = some (Sum.inr (1, [.int n, .int c, y2])) := hh25
  refine zy_n 1 (mr := zm_m107) rfl rfl ?_
  refine zy_h (mr := zm_m107) rfl rfl (zh_get hh0 g8) ?_
  refine zy_c (mr := zm_m107) (mc := zm_m108) (q := (108, [.ref 25], [])) rfl rfl ?_ rfl rfl ?_
  · have e : zm_call (.invokevirtual 259) (108, 0, 1, .null, []) [.ref 25] h' = zm_call (.invokevirtual 259) (108, 0, 1, .null, []) [.ref 25] h' := rfl
    show (match h'[25]? with
      | some (.inr (c, _)) => bif Nat.beq c 1 && Nat.ble (zm_cat ([] : List Value)) 16 then some ((108 : Nat), [Value.ref 25], ([] : List Value)) else none
      | _ => none) = _
    rw [hh25]
    rfl
  refine (zh_full hh25).mono (fun r h2 hq => ?_)
  obtain ⟨rfl, x4, rfl, hx4⟩ := hq
  refine zy_b (mr := zm_m107) rfl rfl rfl ?_
  refine zi_eq (fun he => ?_) (fun _ => ?_)
  · have hc : ¬ (60 : Int32) ≤ c := by
      rcases hx4 with e | ⟨-, e⟩
      · rw [e] at he; cases he
      · exact e
    have e60 : (60 : Int32).toInt = 60 := rfl
    have hc : c.toInt ≤ 59 := by
      have : ¬ (60 : Int32).toInt ≤ c.toInt := fun q => hc (Int32.le_iff_toInt_le.mpr q)
      omega
    have e0 : (0 : Int32).toInt = 0 := rfl
    have e3 : (3 : Int32).toInt = 3 := rfl
    have e5 : (5 : Int32).toInt = 5 := rfl
    have ka := Int32.le_iff_toInt_le.mp ka
    have kb := Int32.le_iff_toInt_le.mp kb
    have fa := Int32.le_iff_toInt_le.mp fa
    have fb := Int32.le_iff_toInt_le.mp fb
    exact zh_he44 hV hH hX ⟨by omega, by omega⟩ ⟨by omega, by omega⟩ w0 hh25 c0 hc
  · refine zy_n 1 (mr := zm_m107) rfl rfl ?_
    exact zy_r (mr := zm_m107) rfl rfl rfl (xheQ_id hH hX)
theorem xv_held (hV : xV xVV xX xW og xc_55) : xV xVV xX xW og xc_56 := by
  intro ρ σ τ h lc hH hX hD hl
  have hl : ∀ q ∈ [((0 : Nat), ((3, xk 0, 0) : xv)), (1, (0, (.ofNat 0, [(0, .ofNat 1)]), 0)), (2, (0, (.ofNat 0, [(1, .ofNat 1)]), 0)), (3, (0, (.ofNat 0, [(2, .ofNat 1)]), 0)), (4, (0, (.ofNat 0, [(3, .ofNat 1)]), 0)), (5, (0, (.ofNat 0, [(4, .ofNat 1)]), 0)), (6, (0, (.ofNat 0, [(5, .ofNat 1)]), 0))], ∃ v, zm_get lc q.1 = some v ∧ xc ρ σ q.2 v := hl
  simp only [List.forall_mem_cons] at hl
  obtain ⟨⟨v0, g0, rfl⟩, ⟨v1, g1, k, rfl, -⟩, ⟨v2, g2, p, rfl, -⟩, ⟨v3, g3, f, rfl, -⟩, ⟨v4, g4, b, rfl, -⟩, ⟨v5, g5, l, rfl, -⟩, ⟨v6, g6, w, rfl, e6⟩, -⟩ := hl
  obtain ⟨x5, y5, z5, u5⟩ := hD.1.1.1 (5, .ofNat 0, .ofNat 1) (by simp [xc_56])
  have q5 : xe ρ (xsym 5) = some x5 := xe_sym y5
  have r5 : w.toInt = x5 := by
    have q9 : xe ρ (xsym 5) = some w.toInt := e6
    rw [q5] at q9
    exact (Option.some.inj q9).symm
  have z5 : (0 : Int) ≤ x5 := z5
  have u5 : x5 ≤ (1 : Int) := u5
  refine zy_sub (xhl k p f b l w) (by simp) (fun q hq => ?_) ?_
  · simp only [xhl, List.mem_cons, List.not_mem_nil, or_false] at hq
    rcases hq with rfl | rfl | rfl | rfl | rfl | rfl | rfl
    · exact g0
    · exact g1
    · exact g2
    · exact g3
    · exact g4
    · exact g5
    · exact g6
  · show zm_Y og (10 + 2) 107 0 _ _ _ _
    refine (zh_he hV hH hX ⟨by omega, by omega⟩).mono (fun r h' hq => ?_)
    obtain ⟨i, τ', rfl, k1, k2, k3, k4⟩ := hq
    exact xheld_end hD.1.2.symm hD.2.1.1 k1 k2 k3 k4
end XHC
