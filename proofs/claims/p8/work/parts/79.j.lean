/-! By hand: house, the contract -/
section XHJ
variable {τ : List Nat} {h : zm_H} {og : Nat → Option zm_C}
theorem zh_isw {d : Nat} {a : Int32} : zm_Y og (d + 1) 13 0 [(0, .int a)] [] h (fun r h' => h' = h ∧ ∃ b : Int32, r = some (.int b)) := by
  refine zy_n 3 (mr := zm_m13) rfl rfl ?_
  refine zy_c (mr := zm_m13) (mc := zm_m10) rfl rfl rfl rfl rfl ?_
  refine zh_within.mono (fun q h' hq => ?_)
  obtain ⟨rfl, b, rfl, hb⟩ := hq
  rcases hb with rfl | ⟨rfl, -, -⟩
  · exact zy_r (mr := zm_m13) rfl rfl rfl ⟨rfl, 0, rfl⟩
  · exact zy_r (mr := zm_m13) rfl rfl rfl ⟨rfl, 1, rfl⟩
theorem zh_isf {d : Nat} {a : Int32} : zm_Y og (d + 1) 14 0 [(0, .int a)] [] h (fun r h' => h' = h ∧ ∃ b : Int32, r = some (.int b)) := by
  refine zy_n 3 (mr := zm_m14) rfl rfl ?_
  refine zy_c (mr := zm_m14) (mc := zm_m10) rfl rfl rfl rfl rfl ?_
  refine zh_within.mono (fun q h' hq => ?_)
  obtain ⟨rfl, b, rfl, hb⟩ := hq
  rcases hb with rfl | ⟨rfl, -, -⟩
  · exact zy_r (mr := zm_m14) rfl rfl rfl ⟨rfl, 0, rfl⟩
  · exact zy_r (mr := zm_m14) rfl rfl rfl ⟨rfl, 1, rfl⟩
theorem zh_house {d : Nat} {s w f m : Int32} (hH : xHI xKT xSG τ h) (hX : xX τ h) : zm_Y og (d + 2) 12 0 [(0, .ref 0), (1, .int s), (2, .int w), (3, .int f), (4, .int m)] [] h (xhQ τ h) := by
  have fail : zm_Y og (d + 2) 12 34 [(0, .ref 0), (1, .int s), (2, .int w), (3, .int f), (4, .int m)] [] h (xhQ τ h) := by
    refine zy_n 1 (mr := zm_m12) rfl rfl ?_
    exact zy_r (mr := zm_m12) rfl rfl rfl ⟨⟨-2, rfl⟩, τ, hH, hX, xF_refl _ _ _, Nat.le_add_right _ _⟩
  refine zy_n 3 (mr := zm_m12) rfl rfl ?_
  refine zy_c (mr := zm_m12) (mc := zm_m10) rfl rfl rfl rfl rfl ?_
  refine zh_within.mono (fun q h' hq => ?_)
  obtain ⟨rfl, b, rfl, -⟩ := hq
  refine zy_b (mr := zm_m12) rfl rfl rfl ?_
  refine zi_eq (fun _ => fail) (fun _ => ?_)
  refine zy_n 1 (mr := zm_m12) rfl rfl ?_
  refine zy_c (mr := zm_m12) (mc := zm_m13) rfl rfl rfl rfl rfl ?_
  refine zh_isw.mono (fun q h' hq => ?_)
  obtain ⟨rfl, b, rfl⟩ := hq
  refine zy_b (mr := zm_m12) rfl rfl rfl ?_
  refine zi_eq (fun _ => fail) (fun _ => ?_)
  refine zy_n 1 (mr := zm_m12) rfl rfl ?_
  refine zy_c (mr := zm_m12) (mc := zm_m14) rfl rfl rfl rfl rfl ?_
  refine zh_isf.mono (fun q h' hq => ?_)
  obtain ⟨rfl, b, rfl⟩ := hq
  refine zy_b (mr := zm_m12) rfl rfl rfl ?_
  refine zi_eq (fun _ => fail) (fun _ => ?_)
  refine zy_n 3 (mr := zm_m12) rfl rfl ?_
  refine zy_c (mr := zm_m12) (mc := zm_m10) rfl rfl rfl rfl rfl ?_
  refine zh_within.mono (fun q h' hq => ?_)
  obtain ⟨rfl, b, rfl, hb⟩ := hq
  refine zy_b (mr := zm_m12) rfl rfl rfl ?_
  refine zi_ne (fun hn => ?_) (fun _ => fail)
  obtain ⟨-, m1, m2⟩ := hb.resolve_left hn
  have m1 := Int32.le_iff_toInt_le.mp m1
  have m2 := Int32.le_iff_toInt_le.mp m2
  have e1 : (1 : Int32).toInt = 1 := rfl
  have e60 : (60 : Int32).toInt = 60 := rfl
  obtain ⟨fs, h0, hl, hsp⟩ := xcf_o hH (hX.1 0 rfl) (show xKT 0 = some (.inl (10, _)) from rfl)
  obtain ⟨c, f1, c0⟩ : ∃ c : Int32, fs[1]? = some (.int c) ∧ (0 : Int) ≤ c.toInt := by
    have hl2 : 1 < fs.length := by rw [hl]; decide
    have g := List.getElem?_eq_getElem hl2
    obtain ⟨a, ma, sa⟩ := hsp 1 _ _ rfl g
    have ma := List.mem_singleton.mp ma
    subst ma
    obtain ⟨c, e, c0, -⟩ := sa
    exact ⟨c, by rw [g, e], c0⟩
  refine zy_n 1 (mr := zm_m12) rfl rfl ?_
  refine zy_h (mr := zm_m12) rfl rfl (zh_get h0 f1) ?_
  refine zy_n 1 (mr := zm_m12) rfl rfl ?_
  refine zy_b (mr := zm_m12) rfl rfl rfl ?_
  refine zc_lt (fun hc => ?_) (fun _ => ?_)
  · have hc := Int32.lt_iff_toInt_lt.mp hc
    have e16 : (16 : Int32).toInt = 16 := rfl
    exact zh_h49 (d := d + 1) hH hX h0 f1 c0 (by omega) ⟨by omega, by omega⟩
  · refine zy_n 1 (mr := zm_m12) rfl rfl ?_
    exact zy_r (mr := zm_m12) rfl rfl rfl ⟨⟨-3, rfl⟩, τ, hH, hX, xF_refl _ _ _, Nat.le_add_right _ _⟩
theorem xhouse_end {τ' : List Nat} {h' : zm_H} {ρ : List Int} {σ : List Nat} {i : Int32} (hρ : ρ.length = 4) (hσ : σ.length = 0) (hH : xHI xKT xSG τ' h') (hX : xX τ' h') (hF : xF (xms xc_57.2.2.2.1) τ h τ' h') (hW : xW h' ≤ xW h + 90) : xQc xVV xX xW xc_57 ρ σ τ h (some (.int i)) h' := by
  have hg : (ρ ++ [i.toInt])[4]? = some i.toInt := by
    rw [List.getElem?_append_right (by omega), hρ]
    rfl
  have hno : ∀ {α : Type} {P : α → Prop}, ∀ q ∈ ([] : List α), P q := fun q hq => by cases hq
  refine ⟨τ', hH, hX, hF, hW, _, List.mem_cons_self, [i.toInt], [], ⟨⟨⟨fun q hq => ?_, hno⟩, ?_⟩, ⟨?_, fun k kd hk => ?_⟩, hno, hno⟩, i, rfl, xe_sym (s := 4) hg⟩
  · have hq := List.mem_singleton.mp hq
    subst hq
    exact ⟨i.toInt, hg, (xb_rng i).1, (xb_rng i).2⟩
  · show 5 = _
    rw [List.length_append, hρ]
    rfl
  · rw [List.append_nil]
    exact hσ
  · have hk : ([] : List Nat)[k]? = some kd := hk
    simp at hk
theorem xv_57 : xV xVV xX xW og xc_57 := by
  intro ρ σ τ h lc hH hX hD hl
  have hl : ∀ q ∈ [((0 : Nat), ((3, xk 0, 0) : xv)), (1, (0, (.ofNat 0, [(0, .ofNat 1)]), 0)), (2, (0, (.ofNat 0, [(1, .ofNat 1)]), 0)), (3, (0, (.ofNat 0, [(2, .ofNat 1)]), 0)), (4, (0, (.ofNat 0, [(3, .ofNat 1)]), 0))], _ := hl
  simp only [List.forall_mem_cons] at hl
  obtain ⟨⟨v0, g0, rfl⟩, ⟨v1, g1, s, rfl, -⟩, ⟨v2, g2, w, rfl, -⟩, ⟨v3, g3, f, rfl, -⟩, ⟨v4, g4, m, rfl, -⟩, -⟩ := hl
  refine zy_sub [(0, .ref 0), (1, .int s), (2, .int w), (3, .int f), (4, .int m)] (by simp) (fun q hq => ?_) ?_
  · simp only [List.mem_cons, List.not_mem_nil, or_false] at hq
    rcases hq with rfl | rfl | rfl | rfl | rfl
    · exact g0
    · exact g1
    · exact g2
    · exact g3
    · exact g4
  · show zm_Y og (10 + 2) 12 0 _ _ _ _
    refine (zh_house hH hX).mono (fun r h' hq => ?_)
    obtain ⟨⟨i, rfl⟩, τ', k1, k2, k3, k4⟩ := hq
    exact xhouse_end hD.1.2.symm hD.2.1.1 k1 k2 k3 k4
end XHJ
