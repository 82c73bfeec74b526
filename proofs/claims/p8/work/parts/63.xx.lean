/-! What hands know of the heap beyond the kinds: counts and their arrays, tokens and what they tell; the heap's size -/
def xPX (ak ok fa fc : Nat) (τ : List Nat) (h : zm_H) : Prop := ∀ (a b t n i : Nat) (c : Int32) (f : Nat → Option Nat), τ[a]? = some ok → τ[b]? = some ak → xfd h a fa = some (.ref b) → xfd h a fc = some (.int c) → h[b]? = some (.inl (t, n, .inr (.inr f))) → (i : Int) < c.toInt → i < n → f i ≠ none
def xPP (h : zm_H) : Prop := ∀ (n m j : Nat) (f g : Nat → Int32), h[4]? = some (.inl (0, n, .inl f)) → h[6]? = some (.inl (0, m, .inl g)) → j < n → ((f j).toInt = 1 → -1 ≤ (g j).toInt ∧ (g j).toInt ≤ 35) ∧ ((f j).toInt = 2 → 0 ≤ (g j).toInt ∧ (g j).toInt ≤ 10000)
/-- the planner's rows are made all at once -/
def xPL (h : zm_H) : Prop := ∀ (v : Value) (f : Nat), xfd h 36 10 = some v → v ≠ .null → 11 ≤ f → f ≤ 14 → xfd h 36 f ≠ some .null
def xX (τ : List Nat) (h : zm_H) : Prop := (∀ a : Nat, xSG a = true → τ[a]? = some a) ∧ xPX 1 0 0 1 τ h ∧ xPX 8 7 0 1 τ h ∧ xPX 209 207 8 7 τ h ∧ xPP h ∧ xPL h
def xW (h : zm_H) : Nat := zm_szs h + 13 * h.length + if xfd h 36 10 = some .null then 13468 else 0
section XXX
variable {τ : List Nat} {h : zm_H}
theorem xfd_set {a b ci f g : Nat} {fs : List Value} {v : Value} (hh : h[a]? = some (.inr (ci, fs))) (hne : b ≠ a ∨ g ≠ f) : xfd (h.set a (.inr (ci, fs.set f v))) b g = xfd h b g := by
  unfold xfd
  rw [xgs hh]
  by_cases e : a = b
  · subst e
    rw [if_pos rfl, hh]
    have : g ≠ f := hne.resolve_left (fun h => h rfl)
    exact List.getElem?_set_ne (fun e => this e.symm)
  · rw [if_neg e]
theorem xfd_seta {a b g t n : Nat} {k k' : zm_K} (hh : h[a]? = some (.inl (t, n, k))) : xfd (h.set a (.inl (t, n, k'))) b g = xfd h b g := by
  unfold xfd
  rw [xgs hh]
  by_cases e : a = b
  · subst e
    rw [if_pos rfl, hh]
  · rw [if_neg e]
theorem xPX_o {ak ok fa fc a kd ci f : Nat} {fs : List Value} {v : Value} (hx : xPX ak ok fa fc τ h) (ht : τ[a]? = some kd) (h1 : xPRf ok fa = true) (h2 : xPRf ok fc = true) (hp : xPRf kd f = false) (hh : h[a]? = some (.inr (ci, fs))) : xPX ak ok fa fc τ (h.set a (.inr (ci, fs.set f v))) := by
  intro a' b t n i c g k1 k2 k3 k4 k5 k6 k7
  have hne : ∀ fl, xPRf ok fl = true → a' ≠ a ∨ fl ≠ f := fun fl hf => by
    by_cases e : a' = a
    · right
      rintro rfl
      subst e
      rw [ht] at k1
      cases k1
      rw [hp] at hf
      cases hf
    · exact Or.inl e
  rw [xfd_set hh (hne fa h1)] at k3
  rw [xfd_set hh (hne fc h2)] at k4
  rw [xgs hh] at k5
  by_cases e : a = b
  · rw [if_pos e] at k5; cases k5
  · rw [if_neg e] at k5
    exact hx a' b t n i c g k1 k2 k3 k4 k5 k6 k7
theorem xPX_a {ak ok fa fc a kd t n : Nat} {k k' : zm_K} (hx : xPX ak ok fa fc τ h) (ht : τ[a]? = some kd) (h1 : xPRf ak 0 = true) (hp : xPRf kd 0 = false) (hh : h[a]? = some (.inl (t, n, k))) : xPX ak ok fa fc τ (h.set a (.inl (t, n, k'))) := by
  intro a' b t' n' i c g k1 k2 k3 k4 k5 k6 k7
  rw [xfd_seta hh] at k3 k4
  rw [xgs hh] at k5
  by_cases e : a = b
  · subst e
    rw [ht] at k2
    cases k2
    rw [hp] at h1
    cases h1
  · rw [if_neg e] at k5
    exact hx a' b t' n' i c g k1 k2 k3 k4 k5 k6 k7
theorem xfd_app {c : zm_C} {a f : Nat} {v : Value} (hx : xfd h a f = some v) : xfd (h ++ [c]) a f = some v := by
  unfold xfd at hx ⊢
  split at hx
  · rename_i o ho
    rw [List.getElem?_append_left (List.getElem?_eq_some_iff.mp ho).1, ho]
    exact hx
  · cases hx
theorem xfd_app2 {t n : Nat} {k : zm_K} {a f : Nat} {v : Value} (hx : xfd (h ++ [.inl (t, n, k)]) a f = some v) : xfd h a f = some v := by
  unfold xfd at hx ⊢
  by_cases hl : a < h.length
  · rw [List.getElem?_append_left hl] at hx
    exact hx
  · rw [List.getElem?_append_right (by omega)] at hx
    cases hq : a - h.length with
    | zero => rw [hq] at hx; cases hx
    | succ m => rw [hq] at hx; simp at hx
theorem xPX_n {ak ok fa fc kd t n : Nat} {k : zm_K} (hx : xPX ak ok fa fc τ h) (hH : xHI xKT xSG τ h) (hr : ∀ a b, τ[a]? = some ok → xfd h a fa = some (.ref b) → b < h.length) : xPX ak ok fa fc (τ ++ [kd]) (h ++ [.inl (t, n, k)]) := by
  intro a b t' n' i c g k1 k2 k3 k4 k5 k6 k7
  have k3 := xfd_app2 k3
  have k4 := xfd_app2 k4
  have hlen := hH.1
  have ha : a < h.length := by
    unfold xfd at k3
    split at k3
    · rename_i o ho; exact (List.getElem?_eq_some_iff.mp ho).1
    · cases k3
  rw [List.getElem?_append_left (by omega)] at k1
  have hb : b < h.length := hr a b k1 k3
  have hb2 : b < τ.length := hlen ▸ hb
  rw [List.getElem?_append_left hb2] at k2
  rw [List.getElem?_append_left hb] at k5
  exact hx a b t' n' i c g k1 k2 k3 k4 k5 k6 k7
theorem xref_lt {a b ok f : Nat} {d : Nat × List (List xA)} {sp : List xA} (hH : xHI xKT xSG τ h) (hk : xKT ok = some (.inl d)) (hsp : d.2[f]? = some sp) (hs : ∀ x ∈ sp, x.1 = 3 ∧ xSG x.2.1 = true ∨ x.1 = 4) (ht : τ[a]? = some ok) (hf : xfd h a f = some (.ref b)) : b < h.length := by
  obtain ⟨fs, hh, -, h2⟩ := xcf_o hH ht hk
  have e : xfd h a f = fs[f]? := by simp only [xfd, hh]
  rw [e] at hf
  obtain ⟨x, hx, hsat⟩ := h2 f sp _ hsp hf
  have hlen := hH.1
  obtain ⟨t, n, lo, hi⟩ := x
  rcases hs _ hx with ⟨h3, h4⟩ | h3
  · have h3 : t = 3 := h3
    subst h3
    have hsat : Value.ref b = .ref n := hsat
    cases hsat
    have := (List.getElem?_eq_some_iff.mp (hH.2.2 b h4)).1
    omega
  · have h3 : t = 4 := h3
    subst h3
    obtain ⟨b', e1, e2⟩ := hsat
    cases e1
    have := (List.getElem?_eq_some_iff.mp e2).1
    omega
theorem xXW_ok : xXW xVV xX xW := by
  refine ⟨fun τ h a kd ci f fs v hX ht hp hh hf => ?_, fun τ h a kd t n k k' hX ht hp hh => ?_, fun τ h kd t n k hX hH => ?_⟩
  · obtain ⟨h0, h1, h2, h3, h4, h5⟩ := hX
    have hp : xPRf kd f = false := hp
    refine ⟨⟨h0, xPX_o h1 ht rfl rfl hp hh, xPX_o h2 ht rfl rfl hp hh, xPX_o h3 ht rfl rfl hp hh, fun n m j g1 g2 k1 k2 k3 => ?_, fun w g q1 q2 q3 q4 => ?_⟩, ?_⟩
    rotate_left
    · have hne : ∀ g, 10 ≤ g → g ≤ 14 → (36 : Nat) ≠ a ∨ g ≠ f := fun g b1 b2 => by
        by_cases e : 36 = a
        · right
          rintro rfl
          subst e
          have := h0 36 rfl
          rw [ht] at this
          cases this
          rcases (show g = 10 ∨ g = 11 ∨ g = 12 ∨ g = 13 ∨ g = 14 by omega) with rfl | rfl | rfl | rfl | rfl <;> cases hp
        · exact Or.inl e
      rw [xfd_set hh (hne 10 (by omega) (by omega))] at q1
      rw [xfd_set hh (hne g (by omega) (by omega))]
      exact h5 w g q1 q2 q3 q4
    rotate_left
    · rw [xgs hh] at k1 k2
      by_cases e : a = 4
      · rw [if_pos e] at k1; cases k1
      · rw [if_neg e] at k1
        by_cases e2 : a = 6
        · rw [if_pos e2] at k2; cases k2
        · rw [if_neg e2] at k2
          exact h4 n m j g1 g2 k1 k2 k3
    · obtain ⟨s1, s2⟩ := zm_set_sz (h := h) (c2 := .inr (ci, fs.set f v)) hh (by show (fs.set f v).length = fs.length; rw [List.length_set])
      have hne : (36 : Nat) ≠ a ∨ (10 : Nat) ≠ f := by
        by_cases e : 36 = a
        · right
          rintro rfl
          subst e
          have := h0 36 rfl
          rw [ht] at this
          cases this
          cases hp
        · exact Or.inl e
      unfold xW
      rw [s1, s2, xfd_set hh hne]
  · obtain ⟨h0, h1, h2, h3, h4, h5⟩ := hX
    have hp : xPRf kd 0 = false := hp
    have hka : ∀ m, xSG m = true → xPRf m 0 = true → a ≠ m := fun m hm hpm e => by
      subst e
      have := h0 a hm
      rw [ht] at this
      cases this
      rw [hp] at hpm
      cases hpm
    refine ⟨⟨h0, xPX_a h1 ht rfl hp hh, xPX_a h2 ht rfl hp hh, xPX_a h3 ht rfl hp hh, fun n m j g1 g2 k1 k2 k3 => ?_, fun w g q1 q2 q3 q4 => by rw [xfd_seta hh] at q1 ⊢; exact h5 w g q1 q2 q3 q4⟩, ?_⟩
    · rw [xgs hh, if_neg (hka 4 rfl rfl)] at k1
      rw [xgs hh, if_neg (hka 6 rfl rfl)] at k2
      exact h4 n m j g1 g2 k1 k2 k3
    · obtain ⟨s1, s2⟩ := zm_set_sz (h := h) (c2 := .inl (t, n, k')) hh rfl
      unfold xW
      rw [s1, s2, xfd_seta hh]
  · have hH : xHI xKT xSG τ h := hH
    obtain ⟨h0, h1, h2, h3, h4, h5⟩ := hX
    have hlen := hH.1
    have l36 : 36 < h.length := by
      have := (List.getElem?_eq_some_iff.mp (h0 36 rfl)).1
      omega
    refine ⟨⟨fun a ha => xgl (h0 a ha), xPX_n h1 hH (fun a b p q => xref_lt (f := 0) hH (show xKT 0 = some _ from rfl) rfl (by decide) p q), xPX_n h2 hH (fun a b p q => xref_lt (f := 0) hH (show xKT 7 = some _ from rfl) rfl (by decide) p q), xPX_n h3 hH (fun a b p q => xref_lt (f := 8) hH (show xKT 207 = some _ from rfl) rfl (by decide) p q), fun n' m j g1 g2 k1 k2 k3 => ?_, fun w g q1 q2 q3 q4 q5 => h5 w g (xfd_app2 q1) q2 q3 q4 (xfd_app2 q5)⟩, ?_⟩
    · rw [List.getElem?_append_left (by omega)] at k1 k2
      exact h4 n' m j g1 g2 k1 k2 k3
    · have e : xfd (h ++ [.inl (t, n, k)]) 36 10 = xfd h 36 10 := by
        unfold xfd
        rw [List.getElem?_append_left l36]
      unfold xW
      rw [e, zm_szs_app, List.length_append, List.length_singleton]
      show zm_szs h + n + 13 * (h.length + 1) + _ = _
      omega
end XXX
