/-! By hand: addOpening, the contract -/
section XAC
variable {og : Nat → Option zm_C}
theorem zh_ao {τ : List Nat} {h : zm_H} {A d : Nat} {k fl td : Int32} (hH : xHI xKT xSG τ h) (hX : xX τ h) (hA : τ[A]? = some 207) (k0 : 0 ≤ k.toInt ∧ k.toInt ≤ 3) (l0 : 0 ≤ fl.toInt ∧ fl.toInt ≤ 5) : zm_Y og (d + 1) 23 0 [(0, .ref A), (1, .int k), (2, .int fl), (3, .int td)] [] h (xaoQ τ h) := by
  refine zy_n 1 (mr := zm_m23) rfl rfl ?_
  refine zy_h (q := ([.int (if 0 ≤ td then td else 0 - td)], h)) (mr := zm_m23) rfl rfl rfl ?_
  generalize (if 0 ≤ td then td else 0 - td) = s
  refine zy_n 3 (mr := zm_m23) rfl rfl ?_
  refine zy_b (mr := zm_m23) rfl rfl rfl ?_
  refine zc_le (fun hc => ?_) (fun hc => ?_)
  · refine zy_n 3 (mr := zm_m23) rfl rfl ?_
    refine zy_b (mr := zm_m23) rfl rfl rfl ?_
    show zm_Y og (d + 1) 23 33 [(5, .int 0), (4, .int s), (0, .ref A), (1, .int k), (2, .int fl), (3, .int td)] [] h (xaoQ τ h)
    refine zy_n 2 (mr := zm_m23) rfl rfl ?_
    exact zh_ao37 hH hX hA k0 l0
  · refine zy_n 4 (mr := zm_m23) rfl rfl ?_
    refine zy_b (mr := zm_m23) rfl rfl rfl ?_
    show zm_Y og (d + 1) 23 25 [(5, .int 1), (4, .int s), (0, .ref A), (1, .int k), (2, .int fl), (3, .int td)] [] h (xaoQ τ h)
    refine zy_n 5 (mr := zm_m23) rfl rfl ?_
    exact zh_ao37 hH hX hA k0 l0
theorem xv_addo : xV xVV xX xW og xc_58 := by
  intro ρ σ τ h lc hH hX hD hl
  have l0 := hl _ List.mem_cons_self
  have l1 := hl _ (List.mem_cons_of_mem _ List.mem_cons_self)
  have l2 := hl _ (List.mem_cons_of_mem _ (List.mem_cons_of_mem _ List.mem_cons_self))
  have l3 := hl _ (List.mem_cons_of_mem _ (List.mem_cons_of_mem _ (List.mem_cons_of_mem _ List.mem_cons_self)))
  obtain ⟨v0, g0, A, hσ, rfl⟩ := l0
  obtain ⟨v1, g1, k, rfl, e1⟩ := l1
  obtain ⟨v2, g2, fl, rfl, e2⟩ := l2
  obtain ⟨v3, g3, td, rfl, e3⟩ := l3
  obtain ⟨A', hσ', hA⟩ := hD.2.1.2 0 207 rfl
  have hσ : σ[0]? = some A := hσ
  rw [hσ] at hσ'
  cases hσ'
  obtain ⟨x0, y0, z0, u0⟩ := hD.1.1.1 _ List.mem_cons_self
  obtain ⟨x1, y1, z1, u1⟩ := hD.1.1.1 _ (List.mem_cons_of_mem _ List.mem_cons_self)
  have q0 : xe ρ (xsym 0) = some x0 := xe_sym y0
  have q1 : xe ρ (xsym 1) = some x1 := xe_sym y1
  have r0 : k.toInt = x0 := by
    have q9 : xe ρ (xsym 0) = some k.toInt := e1
    rw [q0] at q9
    exact (Option.some.inj q9).symm
  have r1 : fl.toInt = x1 := by
    have q9 : xe ρ (xsym 1) = some fl.toInt := e2
    rw [q1] at q9
    exact (Option.some.inj q9).symm
  have z0 : (0 : Int) ≤ x0 := z0
  have u0 : x0 ≤ (3 : Int) := u0
  have z1 : (0 : Int) ≤ x1 := z1
  have u1 : x1 ≤ (5 : Int) := u1
  refine zy_sub [(0, .ref A), (1, .int k), (2, .int fl), (3, .int td)] (by simp) (fun q hq => ?_) ?_
  · simp only [List.mem_cons, List.not_mem_nil, or_false] at hq
    rcases hq with rfl | rfl | rfl | rfl
    · exact g0
    · exact g1
    · exact g2
    · exact g3
  · show zm_Y og (11 + 1) 23 0 _ _ _ _
    refine (zh_ao hH hX hA ⟨by omega, by omega⟩ ⟨by omega, by omega⟩).mono (fun r h' hq => ?_)
    obtain ⟨rfl, τ', k1, k2, k3, k4⟩ := hq
    have hno : ∀ {α : Type} {P : α → Prop}, ∀ q ∈ ([] : List α), P q := fun q hq => by cases hq
    obtain ⟨sx, hsx⟩ := k3.1
    refine ⟨τ', k1, k2, k3, k4, _, List.mem_cons_self, [], [], ?_, trivial⟩
    rw [List.append_nil, List.append_nil]
    refine ⟨⟨⟨hno, hno⟩, hD.1.2⟩, ⟨hD.2.1.1, fun j kd hj => ?_⟩, hno, hno⟩
    obtain ⟨b, c1, c2⟩ := hD.2.1.2 j kd hj
    exact ⟨b, c1, by rw [hsx]; exact xgl c2⟩
end XAC
