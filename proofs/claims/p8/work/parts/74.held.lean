/-! By hand: held -/
section XHE
variable {τ : List Nat} {h : zm_H} {og : Nat → Option zm_C}
theorem zh_within {d : Nat} {a lo hi : Int32} : zm_Y og d 10 0 [(0, .int a), (1, .int lo), (2, .int hi)] [] h (fun r h' => h' = h ∧ ∃ b : Int32, r = some (.int b) ∧ (b = 0 ∨ b = 1 ∧ lo ≤ a ∧ a ≤ hi)) := by
  refine zy_n 2 (mr := zm_m10) rfl rfl ?_
  refine zy_b (mr := zm_m10) rfl rfl rfl ?_
  refine zc_lt (fun h1 => ?_) (fun h1 => ?_)
  · refine zy_n 1 (mr := zm_m10) rfl rfl ?_
    exact zy_r (mr := zm_m10) rfl rfl rfl ⟨rfl, 0, rfl, Or.inl rfl⟩
  · refine zy_n 2 (mr := zm_m10) rfl rfl ?_
    refine zy_b (mr := zm_m10) rfl rfl rfl ?_
    refine zc_gt (fun h2 => ?_) (fun h2 => ?_)
    · refine zy_n 1 (mr := zm_m10) rfl rfl ?_
      exact zy_r (mr := zm_m10) rfl rfl rfl ⟨rfl, 0, rfl, Or.inl rfl⟩
    · refine zy_n 2 (mr := zm_m10) rfl rfl ?_
      refine zy_r (mr := zm_m10) rfl rfl rfl ⟨rfl, 1, rfl, Or.inr ⟨rfl, ?_, ?_⟩⟩
      · exact Int32.not_lt.mp h1
      · exact Int32.not_lt.mp h2
theorem zh_full {d : Nat} {c n : Int32} {v : Value} (hh : h[25]? = some (.inr (1, [.int n, .int c, v]))) : zm_Y og d 108 0 [(0, .ref 25)] [] h (fun r h' => h' = h ∧ ∃ b : Int32, r = some (.int b) ∧ (b = 1 ∨ b = 0 ∧ ¬ 60 ≤ c)) := by
  refine zy_n 1 (mr := zm_m108) rfl rfl ?_
  refine zy_h (mr := zm_m108) rfl rfl (zh_get (v := .int c) hh rfl) ?_
  refine zy_n 1 (mr := zm_m108) rfl rfl ?_
  refine zy_b (mr := zm_m108) rfl rfl rfl ?_
  refine zc_lt (fun h1 => ?_) (fun h1 => ?_)
  · refine zy_n 1 (mr := zm_m108) rfl rfl ?_
    exact zy_r (mr := zm_m108) rfl rfl rfl ⟨rfl, 0, rfl, Or.inr ⟨rfl, fun h2 => absurd h1 (Int32.not_lt.mpr h2)⟩⟩
  · refine zy_n 2 (mr := zm_m108) rfl rfl ?_
    exact zy_r (mr := zm_m108) rfl rfl rfl ⟨rfl, 1, rfl, Or.inl rfl⟩
theorem xheld_end {τ' : List Nat} {h' : zm_H} {ρ : List Int} {σ : List Nat} {i : Int32} (hρ : ρ.length = 6) (hσ : σ.length = 0) (hH : xHI xKT xSG τ' h') (hX : xX τ' h') (hF : xF (xms xc_56.2.2.2.1) τ h τ' h') (hW : xW h' ≤ xW h + 30) : xQc xVV xX xW xc_56 ρ σ τ h (some (.int i)) h' := by
  have hg : (ρ ++ [i.toInt])[6]? = some i.toInt := by
    rw [List.getElem?_append_right (by omega), hρ]
    rfl
  have hno : ∀ {α : Type} {P : α → Prop}, ∀ q ∈ ([] : List α), P q := fun q hq => by cases hq
  refine ⟨τ', hH, hX, hF, hW, _, List.mem_cons_self, [i.toInt], [], ⟨⟨⟨fun q hq => ?_, hno⟩, ?_⟩, ⟨?_, fun k kd hk => ?_⟩, hno, hno⟩, i, rfl, xe_sym (s := 6) hg⟩
  · have hq := List.mem_singleton.mp hq
    subst hq
    exact ⟨i.toInt, hg, (xb_rng i).1, (xb_rng i).2⟩
  · show 7 = _
    rw [List.length_append, hρ]
    rfl
  · rw [List.append_nil]
    exact hσ
  · have hk : ([] : List Nat)[k]? = some kd := hk
    simp at hk
theorem xPX_appo {ak ok fa fc kd ci : Nat} {ws : List Value} (hx : xPX ak ok fa fc τ h) (hH : xHI xKT xSG τ h) (n1 : kd ≠ ok) (n2 : kd ≠ ak) : xPX ak ok fa fc (τ ++ [kd]) (h ++ [.inr (ci, ws)]) := by
  intro a' b' t n i c g k1 k2 k3 k4 k5 k6 k7
  have hlen := hH.1
  have hlt : ∀ q kq, (τ ++ [kd])[q]? = some kq → kd ≠ kq → q < h.length ∧ τ[q]? = some kq := by
    intro q kq hq hk
    by_cases hl2 : q < τ.length
    · rw [List.getElem?_append_left hl2] at hq
      exact ⟨by omega, hq⟩
    · have hl3 := (List.getElem?_eq_some_iff.mp hq).1
      rw [List.length_append, List.length_singleton] at hl3
      have e : q = τ.length := by omega
      subst e
      have hq : kd = kq := by simpa using hq
      exact absurd hq hk
  obtain ⟨la, ta⟩ := hlt a' ok k1 n1
  obtain ⟨lb, tb⟩ := hlt b' ak k2 n2
  unfold xfd at k3 k4
  rw [List.getElem?_append_left la] at k3 k4
  rw [List.getElem?_append_left lb] at k5
  exact hx a' b' t n i c g ta tb k3 k4 k5 k6 k7
theorem xX_appo {ci : Nat} {ws : List Value} (hX : xX τ h) (hH : xHI xKT xSG τ h) : xX (τ ++ [210]) (h ++ [.inr (ci, ws)]) ∧ xW (h ++ [.inr (ci, ws)]) = xW h + ws.length + 13 := by
  obtain ⟨s0, sx1, sx2, sx3, sp, sl⟩ := hX
  have hlen := hH.1
  have m36 : 36 < h.length := by have := (List.getElem?_eq_some_iff.mp (s0 36 rfl)).1; omega
  have e36 : ∀ f, xfd (h ++ [.inr (ci, ws)]) 36 f = xfd h 36 f := fun f => by
    unfold xfd
    rw [List.getElem?_append_left m36]
  refine ⟨⟨fun a ha => xgl (s0 a ha), xPX_appo sx1 hH (by decide) (by decide), xPX_appo sx2 hH (by decide) (by decide), xPX_appo sx3 hH (by decide) (by decide), fun n m j g1 g2 k1 k2 k3 => ?_, fun v f c1 c2 c3 c4 => ?_⟩, ?_⟩
  · rw [List.getElem?_append_left (by omega)] at k1 k2
    exact sp n m j g1 g2 k1 k2 k3
  · rw [e36] at c1 ⊢
    exact sl v f c1 c2 c3 c4
  · unfold xW
    rw [e36, zm_szs_app, List.length_append, List.length_singleton]
    show zm_szs h + ws.length + 13 * (h.length + 1) + _ = _
    omega
end XHE
