/-! By hand: enactSpare, the contract -/
section XEZ
variable {τ : List Nat} {h : zm_H} {og : Nat → Option zm_C}
theorem zh_es {d : Nat} {x : Int32} (hH : xHI xKT xSG τ h) (hX : xX τ h) (x0 : 0 ≤ x.toInt ∧ x.toInt ≤ 99) : zm_Y og (d + 1) 72 0 [(0, .ref 7), (1, .int x)] [] h (xeQ τ h) := by
  have s0 := hX.1
  obtain ⟨fs, h7, hl, hsp⟩ := xcf_o hH (s0 7 rfl) (show xKT 7 = some (.inl (3, _)) from rfl)
  have h7 : h[7]? = some (.inr (3, fs)) := h7
  obtain ⟨S, f2, hS⟩ : ∃ S : Nat, fs[2]? = some (.ref S) ∧ τ[S]? = some 200 := by
    have hl2 : 2 < fs.length := by rw [hl]; decide
    have g := List.getElem?_eq_getElem hl2
    obtain ⟨a, ma, sa⟩ := hsp 2 _ _ rfl g
    have ma := List.mem_singleton.mp ma
    subst ma
    obtain ⟨c, e, c0⟩ := sa
    exact ⟨c, by rw [g, e], c0⟩
  obtain ⟨ts, hhS, tl, -⟩ := xcf_o hH hS (show xKT 200 = some (.inl (9, _)) from rfl)
  have hhS : h[S]? = some (.inr (9, ts)) := hhS
  refine zy_n 1 (mr := zm_m72) rfl rfl ?_
  refine zy_h (mr := zm_m72) rfl rfl (zh_get h7 f2) ?_
  refine zy_n 3 (mr := zm_m72) rfl rfl ?_
  refine zy_h (mr := zm_m72) rfl rfl (zh_put hhS (by rw [tl]; rfl) rfl) ?_
  have hH1 := xHI_setf (f := 8) (v := .int x) hH hS (show xKT 200 = some (.inl (9, _)) from rfl) hhS (fun sp hs => by
    cases hs
    exact ⟨_, List.mem_cons_self, x, rfl, x0.1, x0.2⟩)
  have hX1 := xXW_ok.1 _ _ S 200 9 8 ts (.int x) hX hS rfl hhS (by rw [tl]; decide)
  have hF1 := xF_setf (MS := xms [(7, 0), (7, 1), (7, 2), (8, 0), (200, 8)]) (f := 8) (v := .int x) hS rfl hhS
  refine zy_n 2 (mr := zm_m72) rfl rfl ?_
  exact zh_e12 τ h hH1 hX1.1 hF1 (Nat.le_of_eq hX1.2) hS 12 0 (by decide) (by decide)
theorem xes_end {τ' : List Nat} {h' : zm_H} {ρ : List Int} {σ : List Nat} {i : Int32} (hρ : ρ.length = 1) (hσ : σ.length = 0) (hi : 0 ≤ i.toInt ∧ i.toInt ≤ 12) (hH : xHI xKT xSG τ' h') (hX : xX τ' h') (hF : xF (xms xc_59.2.2.2.1) τ h τ' h') (hW : xW h' ≤ xW h + 500) : xQc xVV xX xW xc_59 ρ σ τ h (some (.int i)) h' := by
  have hg : (ρ ++ [i.toInt])[1]? = some i.toInt := by
    rw [List.getElem?_append_right (by omega), hρ]
    rfl
  have hno : ∀ {α : Type} {P : α → Prop}, ∀ q ∈ ([] : List α), P q := fun q hq => by cases hq
  refine ⟨τ', hH, hX, hF, hW, _, List.mem_cons_self, [i.toInt], [], ⟨⟨⟨fun q hq => ?_, hno⟩, ?_⟩, ⟨?_, fun k kd hk => ?_⟩, hno, hno⟩, i, rfl, xe_sym (s := 1) hg⟩
  · have hq := List.mem_singleton.mp hq
    subst hq
    exact ⟨i.toInt, hg, hi.1, hi.2⟩
  · show 2 = _
    rw [List.length_append, hρ]
    rfl
  · rw [List.append_nil]
    exact hσ
  · have hk : ([] : List Nat)[k]? = some kd := hk
    simp at hk
theorem xv_59 : xV xVV xX xW og xc_59 := by
  intro ρ σ τ h lc hH hX hD hl
  have hl : ∀ q ∈ [((0 : Nat), ((3, xk 0, 7) : xv)), (1, (0, (.ofNat 0, [(0, .ofNat 1)]), 0))], _ := hl
  simp only [List.forall_mem_cons] at hl
  obtain ⟨⟨v0, g0, rfl⟩, ⟨v1, g1, x, rfl, e1⟩, -⟩ := hl
  obtain ⟨x5, y5, z5, u5⟩ := hD.1.1.1 (0, .ofNat 0, .ofNat 99) (by simp [xc_59])
  have q5 : xe ρ (xsym 0) = some x5 := xe_sym y5
  have r5 : x.toInt = x5 := by
    have q9 : xe ρ (xsym 0) = some x.toInt := e1
    rw [q5] at q9
    exact (Option.some.inj q9).symm
  have z5 : (0 : Int) ≤ x5 := z5
  have u5 : x5 ≤ (99 : Int) := u5
  refine zy_sub [(0, .ref 7), (1, .int x)] (by simp) (fun q hq => ?_) ?_
  · simp only [List.mem_cons, List.not_mem_nil, or_false] at hq
    rcases hq with rfl | rfl
    · exact g0
    · exact g1
  · show zm_Y og (11 + 1) 72 0 _ _ _ _
    refine (zh_es hH hX ⟨by omega, by omega⟩).mono (fun r h' hq => ?_)
    obtain ⟨⟨i, rfl, i0, i1⟩, τ', k1, k2, k3, k4⟩ := hq
    exact xes_end hD.1.2.symm hD.2.1.1 ⟨i0, i1⟩ k1 k2 k3 k4
end XEZ
