/-! Sixteenth part: a piece of a method: what its ways out come to is given -/
section XSG
variable {V : xEnv} {X : List Nat → zm_H → Prop} {W : zm_H → Nat} {og : Nat → Option zm_C} {MT : List (Nat × zm_M)} {CT : List xCo} {c : xCo} {E Eo : List xEn}
theorem xseg_ok {n : Nat} {s : xS} (hMT : ∀ q ∈ MT, zm_P q.1 = some q.2) (hCT : ∀ c' ∈ CT, xV V X W og c') (hFl : xFl_ok V X) (hX2 : xXW V X W) (h0 : xwl (V, MT, CT, c, E ++ Eo, none) n [s] = true) (h1 : ∀ e ∈ E, xchk1 V MT CT c (E ++ Eo) n e = true) (hfr : s.2.2.2.2.2 = [])
    {ρ r0 : List Int} {σ s0 τ : List Nat} {h : zm_H} {lc : zm_L} {sc : List Value} (hρ : ρ.length = c.2.1.2.2.1.2) (hσ : σ.length = c.2.1.2.2.2.1.length)
    (hI : ∀ e ∈ Eo, ∀ (r : List Int) (s' τ1 : List Nat) (h' : zm_H) (lc : zm_L) (sc : List Value), xHI V.1 V.2.1 τ1 h' → X τ1 h' → xF (xms c.2.2.2.1) τ h τ1 h' → W h' ≤ W h + e.2.1.2.2.2.2.2.2 → xdok (ρ ++ r) (σ ++ s') τ1 h' e.2.1.2.2 → xlk (ρ ++ r) (σ ++ s') e.2.1.1 lc → xsk (ρ ++ r) (σ ++ s') e.2.1.2.1 sc → zm_Y og c.2.2.2.2.2 c.1 e.1 lc sc h' (xQc V X W c ρ σ τ h))
    (hH : xHI V.1 V.2.1 τ h) (hX : X τ h) (hD : xdok (ρ ++ r0) (σ ++ s0) τ h s.2.2.2.2.1) (hl : xlk (ρ ++ r0) (σ ++ s0) s.2.2.1 lc) (hs : xsk (ρ ++ r0) (σ ++ s0) s.2.2.2.1 sc) : zm_Y og c.2.2.2.2.2 s.1 s.2.1 lc sc h (xQc V X W c ρ σ τ h) := by
  have eρ : ρ ++ [] = ρ := List.append_nil ρ
  have eσ : σ ++ [] = σ := List.append_nil σ
  have main : ∀ (N : Nat), ∀ e ∈ E ++ Eo, ∀ (r : List Int) (s' τ1 : List Nat) (h' : zm_H) (lc : zm_L) (sc : List Value) (m : Nat), m < N → xe (ρ ++ r) e.2.2 = some (m : Int) → xHI V.1 V.2.1 τ1 h' → X τ1 h' → xF (xms c.2.2.2.1) τ h τ1 h' → W h' ≤ W h + e.2.1.2.2.2.2.2.2 → xdok (ρ ++ r) (σ ++ s') τ1 h' e.2.1.2.2 → xlk (ρ ++ r) (σ ++ s') e.2.1.1 lc → xsk (ρ ++ r) (σ ++ s') e.2.1.2.1 sc → zm_Y og c.2.2.2.2.2 c.1 e.1 lc sc h' (xQc V X W c ρ σ τ h) := by
    intro N
    induction N with
    | zero => intro e he r s' τ1 h' lc sc m hm; omega
    | succ N ih =>
      intro e he r s' τ1 h' lc sc m hm hr hH1 hX1 hF1 hW1 hD1 hl1 hs1
      rcases List.mem_append.mp he with he | he
      · have hg := xwl_ok (r0 := r) (s0 := s') (τ0 := τ) (h0 := h) hMT hCT hFl hX2 hρ hσ (fun t ht => xent_ok hρ hσ (fun e2 he2 r2 s2 τ2 h2 lc2 sc2 m2 hm2 hlt hH2 hX2 hF2 hW2 hD2 hl2 hs2 => ih e2 he2 r2 s2 τ2 h2 lc2 sc2 m2 (by have := hlt e.2.2 (m : Int) rfl hr; omega) hm2 hH2 hX2 hF2 hW2 hD2 hl2 hs2) (fun Rl hRl => by cases hRl; exact ⟨_, hr⟩) ht) (h1 e he) _ (List.mem_singleton.mpr rfl)
        refine hg [] [] τ1 h' lc sc [] c.2.2.2.2.2 rfl hH1 hX1 hF1 hW1 ?_ ?_ ?_ trivial
        · rw [List.append_nil, List.append_nil]; exact hD1
        · rw [List.append_nil, List.append_nil]; exact hl1
        · rw [List.append_nil, List.append_nil]; exact hs1
      · exact hI e he r s' τ1 h' lc sc hH1 hX1 hF1 hW1 hD1 hl1 hs1
  have hg := xwl_ok (r0 := []) (s0 := []) (τ0 := τ) (h0 := h) hMT hCT hFl hX2 hρ hσ (fun t ht => xent_ok hρ hσ (fun e2 he2 r2 s2 τ2 h2 lc2 sc2 m2 hm2 _ hH2 hX2 hF2 hW2 hD2 hl2 hs2 => main (m2 + 1) e2 he2 r2 s2 τ2 h2 lc2 sc2 m2 (by omega) hm2 hH2 hX2 hF2 hW2 hD2 hl2 hs2) (fun Rl hRl => by cases hRl) ht) h0 _ (List.mem_singleton.mpr rfl)
  refine hg r0 s0 τ h lc sc [] c.2.2.2.2.2 rfl hH hX (xF_refl _ _ _) (Nat.le_add_right _ _) ?_ ?_ ?_ ?_
  · rw [eρ, eσ]; exact hD
  · rw [eρ, eσ]; exact hl
  · rw [eρ, eσ]; exact hs
  · rw [hfr]; trivial
/-- the end with any int -/
def xip (np : Nat) : xPo := (some (0, (.ofNat 0, [(np, .ofNat 1)]), 0), ((([(np, .negSucc 2147483647, .ofNat 2147483647)], []), np + 1), [], [], [], 0))
def xWQ (V : xEnv) (X : List Nat → zm_H → Prop) (W : zm_H → Nat) (ms : List (Nat × Nat)) (g : Nat) (τ : List Nat) (h : zm_H) (r : Option Value) (h' : zm_H) : Prop := (∃ i : Int32, r = some (.int i)) ∧ ∃ τ', xHI V.1 V.2.1 τ' h' ∧ X τ' h' ∧ xF (xms ms) τ h τ' h' ∧ W h' ≤ W h + g
theorem xWQ_of {np : Nat} {ρ : List Int} {τ : List Nat} {h h' : zm_H} {r : Option Value} (hc : c.2.2.1 = [xip np]) (hq : xQc V X W c ρ [] τ h r h') : xWQ V X W c.2.2.2.1 c.2.2.2.2.1 τ h r h' := by
  obtain ⟨τ', h1, h2, h3, h4, p, hp, r', s', h5, h6⟩ := hq
  rw [hc] at hp
  have hp := List.mem_singleton.mp hp
  subst hp
  refine ⟨?_, τ', h1, h2, h3, h4⟩
  cases r with
  | none => cases h6
  | some v =>
    obtain ⟨i, rfl, -⟩ := h6
    exact ⟨i, rfl⟩
theorem xQc_of {np : Nat} {ρ : List Int} {τ : List Nat} {h h' : zm_H} {r : Option Value} (hc : c.2.2.1 = [xip np]) (hρ : ρ.length = np) (hq : xWQ V X W c.2.2.2.1 c.2.2.2.2.1 τ h r h') : xQc V X W c ρ [] τ h r h' := by
  obtain ⟨⟨i, rfl⟩, τ', h1, h2, h3, h4⟩ := hq
  have hg : (ρ ++ [i.toInt])[np]? = some i.toInt := by
    rw [List.getElem?_append_right (by omega), hρ, Nat.sub_self]
    rfl
  have hno : ∀ {α : Type} {P : α → Prop}, ∀ q ∈ ([] : List α), P q := fun q hq => by cases hq
  refine ⟨τ', h1, h2, h3, h4, xip np, by rw [hc]; exact List.mem_singleton.mpr rfl, [i.toInt], [], ?_, i, rfl, xe_sym (s := np) hg⟩
  refine ⟨⟨⟨?_, hno⟩, ?_⟩, ⟨rfl, fun k kd hk => ?_⟩, hno, hno⟩
  · intro q hq
    have hq := List.mem_singleton.mp hq
    subst hq
    exact ⟨i.toInt, hg, (xb_rng i).1, (xb_rng i).2⟩
  · show np + 1 = _
    rw [List.length_append, hρ]
    rfl
  · have hk : ([] : List Nat)[k]? = some kd := hk
    simp at hk
/-- from a later heap on -/
theorem xWQ_tr {ms : List (Nat × Nat)} {g : Nat} {τ τ1 : List Nat} {h h1 h' : zm_H} {r : Option Value} (hF : xF (xms ms) τ h τ1 h1) (hW : W h1 ≤ W h) (hq : xWQ V X W ms g τ1 h1 r h') : xWQ V X W ms g τ h r h' := by
  obtain ⟨a, τ', b, c, d, e⟩ := hq
  exact ⟨a, τ', b, c, xF_trans hF d, by omega⟩
end XSG
