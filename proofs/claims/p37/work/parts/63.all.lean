section
/-! What hands know of the heap beyond the kinds: counts and their arrays, tokens and what they tell; the heap's size -/
def xPX (ak ok fa fc : Nat) (τ : List Nat) (h : zm_H) : Prop := ∀ (a b t n i : Nat) (c : Int32) (f : Nat → Option Nat), τ[a]? = some ok → τ[b]? = some ak → xfd h a fa = some (.ref b) → xfd h a fc = some (.int c) → h[b]? = some (.inl (t, n, .inr (.inr f))) → (i : Int) < c.toInt → i < n → f i ≠ none
def xPP (h : zm_H) : Prop := ∀ (n m j : Nat) (f g : Nat → Int32), h[4]? = some (.inl (0, n, .inl f)) → h[6]? = some (.inl (0, m, .inl g)) → j < n → ((f j).toInt = 1 → -1 ≤ (g j).toInt ∧ (g j).toInt ≤ 35) ∧ ((f j).toInt = 2 → 0 ≤ (g j).toInt ∧ (g j).toInt ≤ 10000)
/-- the planner's rows are made all at once -/
def xPL (h : zm_H) : Prop := ∀ (v : Value) (f : Nat), xfd h 36 10 = some v → v ≠ .null → 11 ≤ f → f ≤ 14 → xfd h 36 f ≠ some .null
def xX (τ : List Nat) (h : zm_H) : Prop := (∀ a : Nat, xSG a = true → τ[a]? = some a) ∧ xPX 1 0 0 1 τ h ∧ xPX 8 7 0 1 τ h ∧ xPX 209 207 8 7 τ h ∧ xPP h ∧ xPL h
def xW (h : zm_H) : Nat := zm_szs h + 13 * h.length + if xfd h 36 10 = some .null then 13468 else 0
section XXX
variable {τ : List Nat} {h : zm_H}
theorem xfd_set {a b ci f g : Nat} {fs : List Value} {v : Value} (hh : h[a]? = some (.inr (ci, fs))) (hne : b ≠ a ∨ g ≠ f) : xfd (h.set a (.inr (ci, fs.set f v))) b g = xfd h b g := by
  unfold xfd
  rw [xgs hh]
  by_cases e : a = b
  · subst e
    rw [if_pos rfl, hh]
    have : g ≠ f := hne.resolve_left (fun h => h rfl)
    exact List.getElem?_set_ne (fun e => this e.symm)
  · rw [if_neg e]
theorem xfd_seta {a b g t n : Nat} {k k' : zm_K} (hh : h[a]? = some (.inl (t, n, k))) : xfd (h.set a (.inl (t, n, k'))) b g = xfd h b g := by
  unfold xfd
  rw [xgs hh]
  by_cases e : a = b
  · subst e
    rw [if_pos rfl, hh]
  · rw [if_neg e]
theorem xPX_o {ak ok fa fc a kd ci f : Nat} {fs : List Value} {v : Value} (hx : xPX ak ok fa fc τ h) (ht : τ[a]? = some kd) (h1 : xPRf ok fa = true) (h2 : xPRf ok fc = true) (hp : xPRf kd f = false) (hh : h[a]? = some (.inr (ci, fs))) : xPX ak ok fa fc τ (h.set a (.inr (ci, fs.set f v))) := by
  intro a' b t n i c g k1 k2 k3 k4 k5 k6 k7
  have hne : ∀ fl, xPRf ok fl = true → a' ≠ a ∨ fl ≠ f := fun fl hf => by
    by_cases e : a' = a
    · right
      rintro rfl
      subst e
      rw [ht] at k1
      cases k1
      rw [hp] at hf
      cases hf
    · exact Or.inl e
  rw [xfd_set hh (hne fa h1)] at k3
  rw [xfd_set hh (hne fc h2)] at k4
  rw [xgs hh] at k5
  by_cases e : a = b
  · rw [if_pos e] at k5; cases k5
  · rw [if_neg e] at k5
    exact hx a' b t n i c g k1 k2 k3 k4 k5 k6 k7
theorem xPX_a {ak ok fa fc a kd t n : Nat} {k k' : zm_K} (hx : xPX ak ok fa fc τ h) (ht : τ[a]? = some kd) (h1 : xPRf ak 0 = true) (hp : xPRf kd 0 = false) (hh : h[a]? = some (.inl (t, n, k))) : xPX ak ok fa fc τ (h.set a (.inl (t, n, k'))) := by
  intro a' b t' n' i c g k1 k2 k3 k4 k5 k6 k7
  rw [xfd_seta hh] at k3 k4
  rw [xgs hh] at k5
  by_cases e : a = b
  · subst e
    rw [ht] at k2
    cases k2
    rw [hp] at h1
    cases h1
  · rw [if_neg e] at k5
    exact hx a' b t' n' i c g k1 k2 k3 k4 k5 k6 k7
theorem xfd_app {c : zm_C} {a f : Nat} {v : Value} (hx : xfd h a f = some v) : xfd (h ++ [c]) a f = some v := by
  unfold xfd at hx ⊢
  split at hx
  · rename_i o ho
    rw [List.getElem?_append_left (List.getElem?_eq_some_iff.mp ho).1, ho]
    exact hx
  · cases hx
theorem xfd_app2 {t n : Nat} {k : zm_K} {a f : Nat} {v : Value} (hx : xfd (h ++ [.inl (t, n, k)]) a f = some v) : xfd h a f = some v := by
  unfold xfd at hx ⊢
  by_cases hl : a < h.length
  · rw [List.getElem?_append_left hl] at hx
    exact hx
  · rw [List.getElem?_append_right (by omega)] at hx
    cases hq : a - h.length with
    | zero => rw [hq] at hx; cases hx
    | succ m => rw [hq] at hx; simp at hx
theorem xPX_n {ak ok fa fc kd t n : Nat} {k : zm_K} (hx : xPX ak ok fa fc τ h) (hH : xHI xKT xSG τ h) (hr : ∀ a b, τ[a]? = some ok → xfd h a fa = some (.ref b) → b < h.length) : xPX ak ok fa fc (τ ++ [kd]) (h ++ [.inl (t, n, k)]) := by
  intro a b t' n' i c g k1 k2 k3 k4 k5 k6 k7
  have k3 := xfd_app2 k3
  have k4 := xfd_app2 k4
  have hlen := hH.1
  have ha : a < h.length := by
    unfold xfd at k3
    split at k3
    · rename_i o ho; exact (List.getElem?_eq_some_iff.mp ho).1
    · cases k3
  rw [List.getElem?_append_left (by omega)] at k1
  have hb : b < h.length := hr a b k1 k3
  have hb2 : b < τ.length := hlen ▸ hb
  rw [List.getElem?_append_left hb2] at k2
  rw [List.getElem?_append_left hb] at k5
  exact hx a b t' n' i c g k1 k2 k3 k4 k5 k6 k7
theorem xref_lt {a b ok f : Nat} {d : Nat × List (List xA)} {sp : List xA} (hH : xHI xKT xSG τ h) (hk : xKT ok = some (.inl d)) (hsp : d.2[f]? = some sp) (hs : ∀ x ∈ sp, x.1 = 3 ∧ xSG x.2.1 = true ∨ x.1 = 4) (ht : τ[a]? = some ok) (hf : xfd h a f = some (.ref b)) : b < h.length := by
  obtain ⟨fs, hh, -, h2⟩ := xcf_o hH ht hk
  have e : xfd h a f = fs[f]? := by simp only [xfd, hh]
  rw [e] at hf
  obtain ⟨x, hx, hsat⟩ := h2 f sp _ hsp hf
  have hlen := hH.1
  obtain ⟨t, n, lo, hi⟩ := x
  rcases hs _ hx with ⟨h3, h4⟩ | h3
  · have h3 : t = 3 := h3
    subst h3
    have hsat : Value.ref b = .ref n := hsat
    cases hsat
    have := (List.getElem?_eq_some_iff.mp (hH.2.2 b h4)).1
    omega
  · have h3 : t = 4 := h3
    subst h3
    obtain ⟨b', e1, e2⟩ := hsat
    cases e1
    have := (List.getElem?_eq_some_iff.mp e2).1
    omega
theorem xXW_ok : xXW xVV xX xW := by
  refine ⟨fun τ h a kd ci f fs v hX ht hp hh hf => ?_, fun τ h a kd t n k k' hX ht hp hh => ?_, fun τ h kd t n k hX hH => ?_⟩
  · obtain ⟨h0, h1, h2, h3, h4, h5⟩ := hX
    have hp : xPRf kd f = false := hp
    refine ⟨⟨h0, xPX_o h1 ht rfl rfl hp hh, xPX_o h2 ht rfl rfl hp hh, xPX_o h3 ht rfl rfl hp hh, fun n m j g1 g2 k1 k2 k3 => ?_, fun w g q1 q2 q3 q4 => ?_⟩, ?_⟩
    rotate_left
    · have hne : ∀ g, 10 ≤ g → g ≤ 14 → (36 : Nat) ≠ a ∨ g ≠ f := fun g b1 b2 => by
        by_cases e : 36 = a
        · right
          rintro rfl
          subst e
          have := h0 36 rfl
          rw [ht] at this
          cases this
          rcases (show g = 10 ∨ g = 11 ∨ g = 12 ∨ g = 13 ∨ g = 14 by omega) with rfl | rfl | rfl | rfl | rfl <;> cases hp
        · exact Or.inl e
      rw [xfd_set hh (hne 10 (by omega) (by omega))] at q1
      rw [xfd_set hh (hne g (by omega) (by omega))]
      exact h5 w g q1 q2 q3 q4
    rotate_left
    · rw [xgs hh] at k1 k2
      by_cases e : a = 4
      · rw [if_pos e] at k1; cases k1
      · rw [if_neg e] at k1
        by_cases e2 : a = 6
        · rw [if_pos e2] at k2; cases k2
        · rw [if_neg e2] at k2
          exact h4 n m j g1 g2 k1 k2 k3
    · obtain ⟨s1, s2⟩ := zm_set_sz (h := h) (c2 := .inr (ci, fs.set f v)) hh (by show (fs.set f v).length = fs.length; rw [List.length_set])
      have hne : (36 : Nat) ≠ a ∨ (10 : Nat) ≠ f := by
        by_cases e : 36 = a
        · right
          rintro rfl
          subst e
          have := h0 36 rfl
          rw [ht] at this
          cases this
          cases hp
        · exact Or.inl e
      unfold xW
      rw [s1, s2, xfd_set hh hne]
  · obtain ⟨h0, h1, h2, h3, h4, h5⟩ := hX
    have hp : xPRf kd 0 = false := hp
    have hka : ∀ m, xSG m = true → xPRf m 0 = true → a ≠ m := fun m hm hpm e => by
      subst e
      have := h0 a hm
      rw [ht] at this
      cases this
      rw [hp] at hpm
      cases hpm
    refine ⟨⟨h0, xPX_a h1 ht rfl hp hh, xPX_a h2 ht rfl hp hh, xPX_a h3 ht rfl hp hh, fun n m j g1 g2 k1 k2 k3 => ?_, fun w g q1 q2 q3 q4 => by rw [xfd_seta hh] at q1 ⊢; exact h5 w g q1 q2 q3 q4⟩, ?_⟩
    · rw [xgs hh, if_neg (hka 4 rfl rfl)] at k1
      rw [xgs hh, if_neg (hka 6 rfl rfl)] at k2
      exact h4 n m j g1 g2 k1 k2 k3
    · obtain ⟨s1, s2⟩ := zm_set_sz (h := h) (c2 := .inl (t, n, k')) hh rfl
      unfold xW
      rw [s1, s2, xfd_seta hh]
  · have hH : xHI xKT xSG τ h := hH
    obtain ⟨h0, h1, h2, h3, h4, h5⟩ := hX
    have hlen := hH.1
    have l36 : 36 < h.length := by
      have := (List.getElem?_eq_some_iff.mp (h0 36 rfl)).1
      omega
    refine ⟨⟨fun a ha => xgl (h0 a ha), xPX_n h1 hH (fun a b p q => xref_lt (f := 0) hH (show xKT 0 = some _ from rfl) rfl (by decide) p q), xPX_n h2 hH (fun a b p q => xref_lt (f := 0) hH (show xKT 7 = some _ from rfl) rfl (by decide) p q), xPX_n h3 hH (fun a b p q => xref_lt (f := 8) hH (show xKT 207 = some _ from rfl) rfl (by decide) p q), fun n' m j g1 g2 k1 k2 k3 => ?_, fun w g q1 q2 q3 q4 q5 => h5 w g (xfd_app2 q1) q2 q3 q4 (xfd_app2 q5)⟩, ?_⟩
    · rw [List.getElem?_append_left (by omega)] at k1 k2
      exact h4 n' m j g1 g2 k1 k2 k3
    · have e : xfd (h ++ [.inl (t, n, k)]) 36 10 = xfd h 36 10 := by
        unfold xfd
        rw [List.getElem?_append_left l36]
      unfold xW
      rw [e, zm_szs_app, List.length_append, List.length_singleton]
      show zm_szs h + n + 13 * (h.length + 1) + _ = _
      omega
end XXX
end
section
/-! What is ruled out when a place is read is ruled out rightly -/
section XFL
variable {ρ : List Int} {σ τ : List Nat} {h : zm_H} {D : xD}
theorem xc_ad {b : xv} {w : Value} {ad : Nat} (h1 : xad σ b = some ad) (h2 : xc ρ σ b w) : w = .ref ad := by
  obtain ⟨t, e, n⟩ := b
  unfold xad at h1
  split at h1
  · rename_i h7; have h7 : t = 3 := h7; subst h7
    cases h1
    exact h2
  · rename_i h7; have h7 : t = 4 := h7; subst h7
    obtain ⟨b', a4, a5⟩ := h2
    have h1 : σ[n]? = some ad := h1
    have a4 : σ[n]? = some b' := a4
    rw [h1] at a4
    cases a4
    exact a5
  · cases h1
theorem xfln_ok {b : xv} {e : xl} {ad j ok fa fc : Nat} (hH : xHI xKT xSG τ h) (hD : xdok ρ σ τ h D) (hb : xad σ b = some ad) (he : xe ρ e = some (j : Int)) : ∀ {M : xM}, (∀ q ∈ M, q ∈ D.2.2.1) → xfln D b e ok fa fc M = true → ∃ (o : Nat) (c : Int32), τ[o]? = some ok ∧ xfd h o fa = some (.ref ad) ∧ xfd h o fc = some (.int c) ∧ (j : Int) < c.toInt
  | [], _, hx => by cases hx
  | q :: t, hM, hx => by
    simp only [xfln] at hx
    rcases xbif hx with ⟨h1, -⟩ | ⟨-, hx⟩
    · simp only [Bool.and_eq_true] at h1
      obtain ⟨⟨⟨h2, h3, h4⟩, h5⟩, h6⟩ := h1
      obtain ⟨o, w, a1, a2, a3⟩ := hD.2.2.1 q (hM q List.mem_cons_self)
      split at h5
      · rename_i k hk
        have ht := xkd_ad hH hD.2.1 a1 hk
        rw [Nat.eq_of_beq_eq_true h5] at ht
        split at h6
        · rename_i c hc
          simp only [Bool.and_eq_true] at h6
          obtain ⟨w2, b1, b2⟩ := xlkf_ok a1 hD.2.2.1 hc
          obtain ⟨ci, rfl, b3⟩ := xc_i b2 h6.1
          have hd := xpv_ok hD.1.1.1 hD.1.1.2 8 (xe_m1 (xe_add (k := .negSucc 0) b3 he)) h6.2
          have e2 : ci.toInt + Int.negSucc 0 * (j : Int) = ci.toInt - j := by show ci.toInt + (-1) * (j : Int) = _; omega
          refine ⟨o, ci, ht, ?_, b1, by omega⟩
          rw [Nat.eq_of_beq_eq_true h2] at a2
          rw [a2]
          have hq := xad_same (σ := σ) (b := b) (c := q.2.2) (by rw [Nat.eq_of_beq_eq_true h3]; exact Nat.beq_refl _) (by rw [Nat.eq_of_beq_eq_true h4]; exact Nat.beq_refl _) hb
          rw [xc_ad hq a3]
        · cases h6
      · cases h5
    · exact xfln_ok hH hD hb he (fun q hq => hM q (List.mem_cons_of_mem _ hq)) hx
theorem xPX_use {b : xv} {e : xl} {ad j ak ok fa fc : Nat} {a : xA} {v : Value} {dk : Nat × Nat × List xJ} (hP : xPX ak ok fa fc τ h) (hK : xKT ak = some (.inr dk)) (hd : 4 ≤ dk.1) (hH : xHI xKT xSG τ h) (hD : xdok ρ σ τ h D) (hb : xad σ b = some ad) (ht : τ[ad]? = some ak) (he : xe ρ e = some (j : Int)) (hv : xar h ad j = some v) (hs : xsat τ a v) : ∃ a', (bif Nat.beq a.1 2 && xfln D b e ok fa fc D.2.2.1 then none else some a) = some a' ∧ xsat τ a' v := by
  cases hc : Nat.beq a.1 2 && xfln D b e ok fa fc D.2.2.1 with
  | false => exact ⟨a, rfl, hs⟩
  | true =>
    simp only [Bool.and_eq_true] at hc
    obtain ⟨o, c, h1, h2, h3, h4⟩ := xfln_ok hH hD hb he (fun q hq => hq) hc.2
    obtain ⟨k, h5, h6, -⟩ := xcf_a hH ht hK
    obtain ⟨t0, n0, js⟩ := dk
    have hd : 4 ≤ t0 := hd
    have h6 : ∃ f, k = .inr (.inr f) := by
      unfold xka at h6
      split at h6
      · rename_i e0; have e0 : t0 = 0 := e0; omega
      · rename_i e0; have e0 : t0 = 1 := e0; omega
      · rename_i e0; have e0 : t0 = 2 := e0; omega
      · rename_i e0; have e0 : t0 = 3 := e0; omega
      · exact h6
    obtain ⟨f, rfl⟩ := h6
    have hj : j < n0 ∧ v = va_rf (f j) := by
      unfold xar at hv
      rw [h5] at hv
      simp only at hv
      split at hv
      · rename_i hlt; cases hv; exact ⟨hlt, rfl⟩
      · cases hv
    have hne := hP o ad t0 n0 j c f h1 ht h2 h3 h5 h4 hj.1
    obtain ⟨ta, na, lo, hi⟩ := a
    have h7 : ta = 2 := Nat.eq_of_beq_eq_true hc.1
    subst h7
    have hs : v = .null := hs
    rw [hj.2] at hs
    cases hf : f j with
    | none => exact absurd hf hne
    | some b' => rw [hf] at hs; cases hs
theorem xclip_ok {lo hi : Int} {a : xA} {v : Value} (hs : xsat τ a v) (hv : ∀ i : Int32, v = .int i → lo ≤ i.toInt ∧ i.toInt ≤ hi) : xsat τ (xclip lo hi a) v := by
  unfold xclip
  cases hc : Nat.beq a.1 0 with
  | false => exact hs
  | true =>
    obtain ⟨t, n, l, u⟩ := a
    have h1 : t = 0 := Nat.eq_of_beq_eq_true hc
    subst h1
    obtain ⟨i, rfl, h2, h3⟩ := hs
    obtain ⟨h4, h5⟩ := hv i rfl
    exact ⟨i, rfl, xmax_ok h2 h4, xmin_ok h3 h5⟩
theorem xar_int {ad j n : Nat} {v : Value} {i : Int32} {k : zm_K} (hh : h[ad]? = some (.inl (0, n, k))) (hk : xka 0 k) (hv : xar h ad j = some v) (hi : v = .int i) : ∃ f, k = .inl f ∧ f j = i ∧ j < n := by
  obtain ⟨f, rfl⟩ := hk
  unfold xar at hv
  rw [hh] at hv
  simp only at hv
  split at hv
  · rename_i hlt
    cases hv
    have hi : Value.int (f j) = .int i := hi
    cases hi
    exact ⟨f, rfl, rfl, hlt⟩
  · cases hv
theorem xFl_good : xFl_ok xVV xX := by
  intro ρ σ τ h D b kd e a ad j v hH hX hD hb ht he hv hs
  have hH : xHI xKT xSG τ h := hH
  obtain ⟨h0, h1, h2, h3, h4, -⟩ := hX
  show ∃ a', xflt D b kd e a = some a' ∧ xsat τ a' v
  unfold xflt
  split
  · exact xPX_use h1 (show xKT 1 = some (.inr _) from rfl) (by decide) hH hD hb ht he hv hs
  · exact xPX_use h2 (show xKT 8 = some (.inr _) from rfl) (by decide) hH hD hb ht he hv hs
  · exact xPX_use h3 (show xKT 209 = some (.inr _) from rfl) (by decide) hH hD hb ht he hv hs
  · cases hb6 : !(Nat.beq b.1 3 && Nat.beq b.2.2 6) with
    | true => exact ⟨a, rfl, hs⟩
    | false =>
     simp only [cond_false]
     simp only [Bool.not_eq_false', Bool.and_eq_true] at hb6
     split
     · rename_i w hw
       have had4 : xad σ (3, xk 0, 4) = some 4 := rfl
       obtain ⟨j', u, p1, p2, p3⟩ := xlka_ok had4 hD.2.2.2 hw
       rw [he] at p1
       have ej : j = j' := by have := Option.some.inj p1; omega
       subst ej
       have had : ad = 6 := by
         obtain ⟨t, ee, n⟩ := b
         have e1 : t = 3 := Nat.eq_of_beq_eq_true hb6.1
         have e2 : n = 6 := Nat.eq_of_beq_eq_true hb6.2
         subst e1
         subst e2
         have hb : some 6 = some ad := hb
         cases hb
         rfl
       subst had
       obtain ⟨k4, c1, c2, -⟩ := xcf_a hH (h0 4 rfl) (show xKT 4 = some (.inr (0, 301, _)) from rfl)
       obtain ⟨k6, d1, d2, -⟩ := xcf_a hH (h0 6 rfl) (show xKT 6 = some (.inr (0, 301, _)) from rfl)
       have hP : ∀ (z i : Int32), u = .int z → v = .int i → (z.toInt = 1 → -1 ≤ i.toInt ∧ i.toInt ≤ 35) ∧ (z.toInt = 2 → 0 ≤ i.toInt ∧ i.toInt ≤ 10000) := by
         intro z i hz hi
         obtain ⟨f, rfl, f1, f2⟩ := xar_int c1 c2 p2 hz
         obtain ⟨g, rfl, g1, g2⟩ := xar_int d1 d2 hv hi
         have := h4 301 301 j f g c1 d1 f2
         rw [f1, g1] at this
         exact this
       cases q1 : Nat.beq w.1 0 && xbt D.1.1.1 1 1 w.2.1 with
       | true =>
         simp only [Bool.and_eq_true] at q1
         obtain ⟨z, rfl, z1⟩ := xc_i p3 q1.1
         obtain ⟨z2, z3⟩ := xbt_ok hD.1.1.1 q1.2 z1
         exact ⟨_, rfl, xclip_ok hs (fun i hi => (hP z i rfl hi).1 (by omega))⟩
       | false =>
         simp only [cond_false]
         cases q2 : Nat.beq w.1 0 && xbt D.1.1.1 2 2 w.2.1 with
         | true =>
           simp only [Bool.and_eq_true] at q2
           obtain ⟨z, rfl, z1⟩ := xc_i p3 q2.1
           obtain ⟨z2, z3⟩ := xbt_ok hD.1.1.1 q2.2 z1
           exact ⟨_, rfl, xclip_ok hs (fun i hi => (hP z i rfl hi).2 (by omega))⟩
         | false => exact ⟨a, rfl, hs⟩
     · exact ⟨a, rfl, hs⟩
  · exact ⟨a, rfl, hs⟩
end XFL
end
section
/-! By hand: bits -/
theorem xb_low {x : Int32} (h : x ≠ 0) : (x &&& (x - 1)).toBitVec.toNat < x.toBitVec.toNat := by
  have h0 : x.toBitVec.toNat ≠ 0 := fun e => h (by
    apply Int32.toBitVec_inj.mp
    apply BitVec.eq_of_toNat_eq
    rw [e]
    rfl)
  have h1 : (x - 1).toBitVec.toNat = x.toBitVec.toNat - 1 := by
    rw [Int32.toBitVec_sub, BitVec.toNat_sub]
    have hl := x.toBitVec.isLt
    have e1 : (1 : Int32).toBitVec.toNat = 1 := rfl
    rw [e1]
    omega
  rw [Int32.toBitVec_and, BitVec.toNat_and]
  have := Nat.and_le_right (n := x.toBitVec.toNat) (m := (x - 1).toBitVec.toNat)
  omega
theorem zh_bits {og : Nat → Option zm_C} {d : Nat} {h : zm_H} : ∀ (N : Nat) (a n x : Int32), x.toBitVec.toNat < N → zm_Y og d 250 4 [(2, .int x), (1, .int n), (0, .int a)] [] h (fun r h' => h' = h ∧ ∃ i : Int32, r = some (.int i))
  | 0, a, n, x, hN => by omega
  | N + 1, a, n, x, hN => by
    refine zy_n 1 (mr := zm_m250) rfl rfl ?_
    refine zy_b (mr := zm_m250) rfl rfl rfl ?_
    refine zi_eq (fun h0 => ?_) (fun h0 => ?_)
    · refine zy_n 1 (mr := zm_m250) rfl rfl ?_
      exact zy_r (mr := zm_m250) rfl rfl rfl ⟨rfl, n, rfl⟩
    · have hlt := xb_low h0
      refine zy_n 7 (mr := zm_m250) rfl (show _ = some (17, [(2, .int (x &&& (x - 1))), (1, .int (n + 1)), (0, .int a)], []) from rfl) ?_
      refine zy_n 1 (mr := zm_m250) rfl (show _ = some (4, [(2, .int (x &&& (x - 1))), (1, .int (n + 1)), (0, .int a)], []) from rfl) ?_
      exact zh_bits N a (n + 1) (x &&& (x - 1)) (by omega)
theorem xv_bits {og : Nat → Option zm_C} : xV xVV xX xW og xc_174 := by
  intro ρ σ τ h lc hH hX hD hl
  have hlen : ρ.length = 1 := hD.1.2.symm
  obtain ⟨v, hv, a, rfl, ha⟩ := hl _ List.mem_cons_self
  refine zy_sub [(0, .int a)] (by simp) (fun q hq => by rw [List.mem_singleton.mp hq]; exact hv) ?_
  refine zy_n 4 (mr := zm_m250) rfl (show _ = some (4, [(2, .int a), (1, .int 0), (0, .int a)], []) from rfl) ?_
  refine (zh_bits _ a 0 a (Nat.lt_succ_self _)).mono (fun r h' hq => ?_)
  obtain ⟨rfl, i, rfl⟩ := hq
  have hg : (ρ ++ [i.toInt])[1]? = some i.toInt := by
    rw [List.getElem?_append_right (by omega), hlen]
    rfl
  refine ⟨τ, hH, hX, xF_refl _ _ _, by omega, _, List.mem_cons_self, [i.toInt], [], ?_, i, rfl, xe_sym (s := 1) hg⟩
  have hno : ∀ {α : Type} {P : α → Prop}, ∀ q ∈ ([] : List α), P q := fun q hq => by cases hq
  refine ⟨⟨⟨?_, hno⟩, ?_⟩, ?_, ?_, ?_⟩
  · intro q hq
    have hq := List.mem_singleton.mp hq
    subst hq
    exact ⟨i.toInt, hg, (xb_rng i).1, (xb_rng i).2⟩
  · show 2 = _
    rw [List.length_append, hlen]
    rfl
  · rw [List.append_nil]
    exact hD.2.1
  · intro q hq; cases hq
  · intro q hq; cases hq
end
section
/-! By hand: note -/
section XNT
variable {τ : List Nat} {h : zm_H} {og : Nat → Option zm_C}
theorem xone {fs : List Value} {d : Nat × List (List xA)} {f n : Nat} (hl : fs.length = d.2.length) (hsp : ∀ (f : Nat) (sp : List xA) (v : Value), d.2[f]? = some sp → fs[f]? = some v → ∃ a ∈ sp, xsat τ a v) (hf : d.2[f]? = some [(3, n, 0, 0)]) : fs[f]? = some (.ref n) := by
  have hlt := (List.getElem?_eq_some_iff.mp hf).1
  have hg : fs[f]? = some fs[f] := List.getElem?_eq_getElem (by omega)
  obtain ⟨a, ha, hs⟩ := hsp f _ _ hf hg
  have ha := List.mem_singleton.mp ha
  subst ha
  rw [hg]
  congr 1
/-- an int array's place is written -/
theorem xHI_up {a kd n : Nat} {js : List xJ} {f : Nat → Int32} {j : Nat} {v : Int32} {q : xJ} (hH : xHI xKT xSG τ h) (ht : τ[a]? = some kd) (hk : xKT kd = some (.inr (0, n, js))) (hh : h[a]? = some (.inl (0, n, .inl f))) (hq : q ∈ js) (hs : xsat τ q.1 (.int v)) (hj : xjok q j) : xHI xKT xSG τ (h.set a (.inl (0, n, .inl (upd f j v)))) := by
  obtain ⟨k, h1, h2, h3⟩ := xcf_a hH ht hk
  rw [hh] at h1
  cases h1
  refine xHI_set hH hh ht hk ⟨.inl (upd f j v), rfl, ⟨_, rfl⟩, fun i hi => ?_⟩
  by_cases e : i = j
  · subst e
    refine ⟨q, hq, ?_, hj⟩
    show xsat τ q.1 (.int (if i = i then v else f i))
    rw [if_pos rfl]
    exact hs
  · obtain ⟨q2, b1, b2, b3⟩ := h3 i hi
    refine ⟨q2, b1, ?_, b3⟩
    show xsat τ q2.1 (.int (if i = j then v else f i))
    rw [if_neg e]
    exact b2
theorem xPX_k {ak ok fa fc a kd t n : Nat} {k k' : zm_K} (hx : xPX ak ok fa fc τ h) (ht : τ[a]? = some kd) (hne : kd ≠ ak) (hh : h[a]? = some (.inl (t, n, k))) : xPX ak ok fa fc τ (h.set a (.inl (t, n, k'))) := by
  intro a' b t' n' i c g k1 k2 k3 k4 k5 k6 k7
  rw [xfd_seta hh] at k3 k4
  rw [xgs hh] at k5
  by_cases e : a = b
  · subst e
    rw [ht] at k2
    cases k2
    exact absurd rfl hne
  · rw [if_neg e] at k5
    exact hx a' b t' n' i c g k1 k2 k3 k4 k5 k6 k7
theorem xF_a {MS : Nat → Nat → Bool} {a kd t n : Nat} {k k' : zm_K} (ht : τ[a]? = some kd) (hm : MS kd 0 = true) (hh : h[a]? = some (.inl (t, n, k))) : xF MS τ h τ (h.set a (.inl (t, n, k'))) := by
  refine ⟨⟨[], (List.append_nil τ).symm⟩, fun b kb f w hb2 _ hw => by rw [xfd_seta hh]; exact hw, fun b kb c hb2 hms hw => ?_⟩
  rw [xgs hh]
  by_cases e : a = b
  · subst e
    rw [ht] at hb2
    cases hb2
    rw [hm] at hms
    cases hms
  · rw [if_neg e]
    exact hw
theorem xF_o {MS : Nat → Nat → Bool} {a kd ci f : Nat} {fs : List Value} {v : Value} (ht : τ[a]? = some kd) (hm : MS kd f = true) (hh : h[a]? = some (.inr (ci, fs))) : xF MS τ h τ (h.set a (.inr (ci, fs.set f v))) := by
  refine ⟨⟨[], (List.append_nil τ).symm⟩, fun b kb g w hb2 hms hw => ?_, fun b kb c hb2 hms hw => ?_⟩
  · rw [xfd_set hh]
    · exact hw
    · by_cases e : b = a
      · right
        rintro rfl
        subst e
        rw [ht] at hb2
        cases hb2
        rw [hm] at hms
        cases hms
      · exact Or.inl e
  · rw [xgs hh]
    by_cases e : a = b
    · subst e
      rw [hh] at hw
      cases hw
    · rw [if_neg e]
      exact hw
theorem xW_a {a t n : Nat} {k k' : zm_K} (hh : h[a]? = some (.inl (t, n, k))) : xW (h.set a (.inl (t, n, k'))) = xW h := by
  obtain ⟨s1, s2⟩ := zm_set_sz (h := h) (c2 := .inl (t, n, k')) hh rfl
  unfold xW
  rw [s1, s2, xfd_seta hh]
theorem xc32 {a b : Int32} (h : a.toInt = b.toInt) : a = b := Int32.toInt_inj.mp h
theorem zh_note {d : Nat} {w p t n : Int32} (hH : xHI xKT xSG τ h) (hX : xX τ h) (hn : xfd h 2 5 = some (.int n)) (n0 : 0 ≤ n.toInt) (n1 : n.toInt ≤ 300) (w0 : 0 ≤ w.toInt) (w1 : w.toInt ≤ 255) (hw : w.toInt ≠ 0 → n.toInt ≤ 299) (p0 : 0 ≤ p.toInt) (p1 : p.toInt ≤ 300) (t0 : -1 ≤ t.toInt) (t1 : t.toInt ≤ 10000) (h1 : w.toInt = 1 → t.toInt ≤ 35) (h2 : w.toInt = 2 → 0 ≤ t.toInt) : zm_Y og d 45 0 [(0, .ref 2), (1, .int w), (2, .int p), (3, .int t)] [] h (fun r h' => r = none ∧ xHI xKT xSG τ h' ∧ xX τ h' ∧ xF (xms [(2, 5), (4, 0), (5, 0), (6, 0)]) τ h τ h' ∧ xW h' = xW h ∧ xfd h' 2 5 = some (.int (n + 1))) := by
  obtain ⟨s0, sx1, sx2, sx3, sp, sl⟩ := hX
  obtain ⟨fs, hh, hl, hsp⟩ := xcf_o hH (s0 2 rfl) (show xKT 2 = some (.inl (7, _)) from rfl)
  have f2 : fs[2]? = some (.ref 4) := xone hl hsp rfl
  have f3 : fs[3]? = some (.ref 5) := xone hl hsp rfl
  have f4 : fs[4]? = some (.ref 6) := xone hl hsp rfl
  have f5 : fs[5]? = some (.int n) := by
    have e : xfd h 2 5 = fs[5]? := by simp only [xfd, hh]
    rw [← e]
    exact hn
  obtain ⟨k4, a4, b4, -⟩ := xcf_a hH (s0 4 rfl) (show xKT 4 = some (.inr (0, 301, _)) from rfl)
  obtain ⟨k5, a5, b5, -⟩ := xcf_a hH (s0 5 rfl) (show xKT 5 = some (.inr (0, 301, _)) from rfl)
  obtain ⟨k6, a6, b6, -⟩ := xcf_a hH (s0 6 rfl) (show xKT 6 = some (.inr (0, 301, _)) from rfl)
  obtain ⟨g4, rfl⟩ := b4
  obtain ⟨g5, rfl⟩ := b5
  obtain ⟨g6, rfl⟩ := b6
  have a4 : h[4]? = some (.inl (0, 301, .inl g4)) := a4
  have a5 : h[5]? = some (.inl (0, 301, .inl g5)) := a5
  have a6 : h[6]? = some (.inl (0, 301, .inl g6)) := a6
  have hh : h[2]? = some (.inr (7, fs)) := hh
  have hl : fs.length = 10 := hl
  obtain ⟨hin, hjn, hjlt⟩ := xin_ok (j := n) (n := 301) n0 (by omega)
  refine zy_n 1 (mr := zm_m45) rfl rfl ?_
  refine zy_h (mr := zm_m45) rfl rfl (zh_get hh f5) ?_
  refine zy_n 1 (mr := zm_m45) rfl rfl ?_
  refine zy_h (mr := zm_m45) rfl rfl (zh_get hh f2) ?_
  refine zy_h (mr := zm_m45) rfl rfl (zh_alen a4) ?_
  refine zy_b (mr := zm_m45) rfl rfl rfl ?_
  refine zc_ge (fun hc => ?_) (fun _ => ?_)
  · have := Int32.le_iff_toInt_le.mp hc
    have e : (Int32.ofNat 301).toInt = 301 := rfl
    omega
  refine zy_n 1 (mr := zm_m45) rfl rfl ?_
  refine zy_h (mr := zm_m45) rfl rfl (zh_get hh f2) ?_
  refine zy_n 1 (mr := zm_m45) rfl rfl ?_
  refine zy_h (mr := zm_m45) rfl rfl (zh_get hh f5) ?_
  refine zy_n 1 (mr := zm_m45) rfl rfl ?_
  refine zy_h (mr := zm_m45) rfl rfl (zh_iast a4 hin) ?_
  have hh1 := zs_ne (x := .inl (0, 301, .inl (upd g4 n.toNatClampNeg w))) hh (show (4 : Nat) ≠ 2 by decide)
  have a51 := zs_ne (x := .inl (0, 301, .inl (upd g4 n.toNatClampNeg w))) a5 (show (4 : Nat) ≠ 5 by decide)
  have a61 := zs_ne (x := .inl (0, 301, .inl (upd g4 n.toNatClampNeg w))) a6 (show (4 : Nat) ≠ 6 by decide)
  refine zy_n 1 (mr := zm_m45) rfl rfl ?_
  refine zy_h (mr := zm_m45) rfl rfl (zh_get hh1 f3) ?_
  refine zy_n 1 (mr := zm_m45) rfl rfl ?_
  refine zy_h (mr := zm_m45) rfl rfl (zh_get hh1 f5) ?_
  refine zy_n 1 (mr := zm_m45) rfl rfl ?_
  refine zy_h (mr := zm_m45) rfl rfl (zh_iast a51 hin) ?_
  have hh2 := zs_ne (x := .inl (0, 301, .inl (upd g5 n.toNatClampNeg p))) hh1 (show (5 : Nat) ≠ 2 by decide)
  have a62 := zs_ne (x := .inl (0, 301, .inl (upd g5 n.toNatClampNeg p))) a61 (show (5 : Nat) ≠ 6 by decide)
  refine zy_n 1 (mr := zm_m45) rfl rfl ?_
  refine zy_h (mr := zm_m45) rfl rfl (zh_get hh2 f4) ?_
  refine zy_n 1 (mr := zm_m45) rfl rfl ?_
  refine zy_h (mr := zm_m45) rfl rfl (zh_get hh2 f5) ?_
  refine zy_n 1 (mr := zm_m45) rfl rfl ?_
  refine zy_h (mr := zm_m45) rfl rfl (zh_iast a62 hin) ?_
  have hh3 := zs_ne (x := .inl (0, 301, .inl (upd g6 n.toNatClampNeg t))) hh2 (show (6 : Nat) ≠ 2 by decide)
  refine zy_n 2 (mr := zm_m45) rfl rfl ?_
  refine zy_h (mr := zm_m45) rfl rfl (zh_get hh3 f5) ?_
  refine zy_n 2 (mr := zm_m45) rfl rfl ?_
  refine zy_h (mr := zm_m45) rfl rfl (zh_put hh3 (by rw [hl]; rfl) rfl) ?_
  refine zy_r (mr := zm_m45) rfl rfl rfl ?_
  have hHa := xHI_up (q := (bif decide (w.toInt = 0) then ((0, 0, .ofNat 0, .ofNat 0), .ofNat 0, .ofNat 300, 0, 0) else ((0, 0, .ofNat 1, .ofNat 255), .ofNat 0, .ofNat 299, 0, 0))) (j := n.toNatClampNeg) (v := w) hH (s0 4 rfl) (show xKT 4 = some (.inr (0, 301, _)) from rfl) a4 (by
      by_cases e : w.toInt = 0
      · rw [decide_eq_true e]; exact List.mem_cons_self
      · rw [decide_eq_false e]; exact List.mem_cons_of_mem _ List.mem_cons_self) (by
      by_cases e : w.toInt = 0
      · rw [decide_eq_true e]; exact ⟨w, rfl, by show (0 : Int) ≤ _; omega, by show _ ≤ (0 : Int); omega⟩
      · rw [decide_eq_false e]; exact ⟨w, rfl, by show (1 : Int) ≤ _; omega, by show _ ≤ (255 : Int); omega⟩) (by
      by_cases e : w.toInt = 0
      · rw [decide_eq_true e]; exact ⟨by show (0 : Int) ≤ _; omega, by show _ ≤ (300 : Int); omega, Or.inl rfl⟩
      · have := hw e
        rw [decide_eq_false e]; exact ⟨by show (0 : Int) ≤ _; omega, by show _ ≤ (299 : Int); omega, Or.inl rfl⟩)
  have hHb := xHI_up (q := ((0, 0, .ofNat 0, .ofNat 300), .ofNat 0, .ofNat 300, 0, 0)) (j := n.toNatClampNeg) (v := p) hHa (s0 5 rfl) (show xKT 5 = some (.inr (0, 301, _)) from rfl) a51 List.mem_cons_self ⟨p, rfl, p0, p1⟩ ⟨by show (0 : Int) ≤ _; omega, by show _ ≤ (300 : Int); omega, Or.inl rfl⟩
  have hHc := xHI_up (q := ((0, 0, .negSucc 0, .ofNat 10000), .ofNat 0, .ofNat 300, 0, 0)) (j := n.toNatClampNeg) (v := t) hHb (s0 6 rfl) (show xKT 6 = some (.inr (0, 301, _)) from rfl) a62 List.mem_cons_self ⟨t, rfl, t0, t1⟩ ⟨by show (0 : Int) ≤ _; omega, by show _ ≤ (300 : Int); omega, Or.inl rfl⟩
  have hn1 : (n + 1).toInt = n.toInt + 1 := by
    rw [Int32.toInt_add]
    have e1 : xI32a = -2147483648 := rfl
    have e2 : xI32b = 2147483647 := rfl
    exact xb_bm32 (by show xI32a ≤ n.toInt + 1; omega) (by show n.toInt + 1 ≤ xI32b; omega)
  have hHd := xHI_set (c := .inr (7, fs.set 5 (.int (n + 1)))) hHc hh3 (s0 2 rfl) (show xKT 2 = some (.inl (7, _)) from rfl) ⟨fs.set 5 (.int (n + 1)), rfl, by rw [List.length_set]; exact hl, fun f sp' v' c1 c2 => by
    by_cases e : 5 = f
    · subst e
      rw [List.getElem?_set_self (by omega)] at c2
      cases c2
      cases c1
      exact ⟨_, List.mem_cons_self, n + 1, rfl, by show (0 : Int) ≤ _; omega, by show _ ≤ (301 : Int); omega⟩
    · rw [List.getElem?_set_ne e] at c2
      exact hsp f sp' v' c1 c2⟩
  have px : ∀ {ak ok fa fc : Nat}, xPX ak ok fa fc τ h → 4 ≠ ak → 5 ≠ ak → 6 ≠ ak → xPRf ok fa = true → xPRf ok fc = true → xPX ak ok fa fc τ ((((h.set 4 (.inl (0, 301, .inl (upd g4 n.toNatClampNeg w)))).set 5 (.inl (0, 301, .inl (upd g5 n.toNatClampNeg p)))).set 6 (.inl (0, 301, .inl (upd g6 n.toNatClampNeg t)))).set 2 (.inr (7, fs.set 5 (.int (n + 1))))) := by
    intro ak ok fa fc hx e4 e5 e6 r1 r2
    exact xPX_o (xPX_k (xPX_k (xPX_k hx (s0 4 rfl) e4 a4) (s0 5 rfl) e5 a51) (s0 6 rfl) e6 a62) (s0 2 rfl) r1 r2 rfl hh3
  have hfd : ∀ b g, (b ≠ 2 ∨ g ≠ 5) → xfd ((((h.set 4 (.inl (0, 301, .inl (upd g4 n.toNatClampNeg w)))).set 5 (.inl (0, 301, .inl (upd g5 n.toNatClampNeg p)))).set 6 (.inl (0, 301, .inl (upd g6 n.toNatClampNeg t)))).set 2 (.inr (7, fs.set 5 (.int (n + 1))))) b g = xfd h b g := by
    intro b g hbg
    rw [xfd_set hh3 hbg, xfd_seta a62, xfd_seta a51, xfd_seta a4]
  refine ⟨rfl, hHd, ⟨s0, px sx1 (by decide) (by decide) (by decide) rfl rfl, px sx2 (by decide) (by decide) (by decide) rfl rfl, px sx3 (by decide) (by decide) (by decide) rfl rfl, ?_, ?_⟩, xF_trans (xF_trans (xF_trans (xF_a (s0 4 rfl) rfl a4) (xF_a (s0 5 rfl) rfl a51)) (xF_a (s0 6 rfl) rfl a62)) (xF_o (s0 2 rfl) rfl hh3), ?_, ?_⟩
  · intro n' m' j f g c1 c2 c3
    rw [xgs hh3, if_neg (by decide), xgs a62, if_neg (by decide), xgs a51, if_neg (by decide), xgs a4, if_pos rfl] at c1
    rw [xgs hh3, if_neg (by decide), xgs a62, if_pos rfl] at c2
    cases c1
    cases c2
    by_cases e : j = n.toNatClampNeg
    · subst e
      have e1 : upd g4 n.toNatClampNeg w n.toNatClampNeg = w := if_pos rfl
      have e2 : upd g6 n.toNatClampNeg t n.toNatClampNeg = t := if_pos rfl
      rw [e1, e2]
      exact ⟨fun q => ⟨t0, h1 q⟩, fun q => ⟨h2 q, t1⟩⟩
    · have e1 : upd g4 n.toNatClampNeg w j = g4 j := if_neg e
      have e2 : upd g6 n.toNatClampNeg t j = g6 j := if_neg e
      rw [e1, e2]
      exact sp 301 301 j g4 g6 a4 a6 c3
  · intro v f c1 c2 c3 c4
    rw [hfd 36 10 (Or.inl (by decide))] at c1
    rw [hfd 36 f (Or.inl (by decide))]
    exact sl v f c1 c2 c3 c4
  · obtain ⟨z1, z2⟩ := zm_set_sz (c2 := .inr (7, fs.set 5 (.int (n + 1)))) hh3 (by show (fs.set 5 (.int (n + 1))).length = fs.length; rw [List.length_set])
    have e0 : xfd ((((h.set 4 (.inl (0, 301, .inl (upd g4 n.toNatClampNeg w)))).set 5 (.inl (0, 301, .inl (upd g5 n.toNatClampNeg p)))).set 6 (.inl (0, 301, .inl (upd g6 n.toNatClampNeg t)))).set 2 (.inr (7, fs.set 5 (.int (n + 1))))) 36 10 = xfd (((h.set 4 (.inl (0, 301, .inl (upd g4 n.toNatClampNeg w)))).set 5 (.inl (0, 301, .inl (upd g5 n.toNatClampNeg p)))).set 6 (.inl (0, 301, .inl (upd g6 n.toNatClampNeg t)))) 36 10 := xfd_set hh3 (Or.inl (by decide))
    have q1 : xW ((((h.set 4 (.inl (0, 301, .inl (upd g4 n.toNatClampNeg w)))).set 5 (.inl (0, 301, .inl (upd g5 n.toNatClampNeg p)))).set 6 (.inl (0, 301, .inl (upd g6 n.toNatClampNeg t)))).set 2 (.inr (7, fs.set 5 (.int (n + 1))))) = xW (((h.set 4 (.inl (0, 301, .inl (upd g4 n.toNatClampNeg w)))).set 5 (.inl (0, 301, .inl (upd g5 n.toNatClampNeg p)))).set 6 (.inl (0, 301, .inl (upd g6 n.toNatClampNeg t)))) := by
      unfold xW
      rw [z1, z2, e0]
    show xW _ = xW h
    rw [q1, xW_a a62, xW_a a51, xW_a a4]
  · unfold xfd
    rw [xgs hh3, if_pos rfl]
    exact List.getElem?_set_self (by omega)
/-- from it, each of the three contracts -/
theorem xv_note {c : xCo} (hc1 : c.1 = 45) (hms : c.2.2.2.1 = [(2, 5), (4, 0), (5, 0), (6, 0)]) (hcl : ∀ (ρ : List Int) (σ : List Nat) (lc : zm_L) (τ : List Nat) (h : zm_H), xdok ρ σ τ h c.2.1.2.2 → xlk ρ σ c.2.1.1 lc → ∃ (w p t n : Int32), (zm_get lc 0 = some (.ref 2) ∧ zm_get lc 1 = some (.int w) ∧ zm_get lc 2 = some (.int p) ∧ zm_get lc 3 = some (.int t)) ∧ xfd h 2 5 = some (.int n) ∧ (0 ≤ n.toInt ∧ n.toInt ≤ 300) ∧ (0 ≤ w.toInt ∧ w.toInt ≤ 255) ∧ (w.toInt ≠ 0 → n.toInt ≤ 299) ∧ (0 ≤ p.toInt ∧ p.toInt ≤ 300) ∧ (-1 ≤ t.toInt ∧ t.toInt ≤ 10000) ∧ (w.toInt = 1 → t.toInt ≤ 35) ∧ (w.toInt = 2 → 0 ≤ t.toInt) ∧ ∀ (τ' : List Nat) (h' : zm_H), xF (xms [(2, 5), (4, 0), (5, 0), (6, 0)]) τ h τ' h' → xfd h' 2 5 = some (.int (n + 1)) → ∃ q ∈ c.2.2.1, q.1 = none ∧ xdok ρ σ τ' h' q.2) : xV xVV xX xW og c := by
  intro ρ σ τ h lc hH hX hD hl
  obtain ⟨w, p, t, n, ⟨g0, g1, g2, g3⟩, hn, ⟨n0, n1⟩, ⟨w0, w1⟩, hw, ⟨p0, p1⟩, ⟨t0, t1⟩, h1, h2, hq⟩ := hcl ρ σ lc τ h hD hl
  rw [hc1]
  refine zy_sub [(0, .ref 2), (1, .int w), (2, .int p), (3, .int t)] (by simp) (fun q hq => ?_) ?_
  · simp only [List.mem_cons, List.not_mem_nil, or_false] at hq
    rcases hq with rfl | rfl | rfl | rfl
    · exact g0
    · exact g1
    · exact g2
    · exact g3
  · refine (zh_note hH hX hn n0 n1 w0 w1 hw p0 p1 t0 t1 h1 h2).mono (fun r h' hr => ?_)
    obtain ⟨rfl, k1, k2, k3, k4, k5⟩ := hr
    obtain ⟨q, q1, q2, q3⟩ := hq τ h' k3 k5
    refine ⟨τ, k1, k2, by rw [hms]; exact k3, by omega, q, q1, [], [], by rw [List.append_nil, List.append_nil]; exact q3, ?_⟩
    rw [q2]
    trivial
end XNT
end
section
/-! By hand: the three contracts of note -/
theorem xv_note60 {og : Nat → Option zm_C} : xV xVV xX xW og xc_60 := by
  refine xv_note rfl rfl (fun ρ σ lc τ h hD hl => ?_)
  have l0 := hl _ List.mem_cons_self
  have l1 := hl _ (List.mem_cons_of_mem _ List.mem_cons_self)
  have l2 := hl _ (List.mem_cons_of_mem _ (List.mem_cons_of_mem _ List.mem_cons_self))
  have l3 := hl _ (List.mem_cons_of_mem _ (List.mem_cons_of_mem _ (List.mem_cons_of_mem _ List.mem_cons_self)))
  obtain ⟨v0, g0, rfl⟩ := l0
  obtain ⟨v1, g1, w, rfl, e1⟩ := l1
  obtain ⟨v2, g2, p, rfl, e2⟩ := l2
  obtain ⟨v3, g3, t, rfl, e3⟩ := l3
  obtain ⟨ad, v, m1, m2, n, rfl, e4⟩ := hD.2.2.1 _ List.mem_cons_self
  cases m1
  have c_w : w.toInt = 0 := by
    have q9 : xe ρ (xk 0) = some w.toInt := e1
    rw [xe_k] at q9
    exact (Option.some.inj q9).symm
  have c_t : t.toInt = 0 := by
    have q9 : xe ρ (xk 0) = some t.toInt := e3
    rw [xe_k] at q9
    exact (Option.some.inj q9).symm
  obtain ⟨x0, y0, z0, u0⟩ := hD.1.1.1 _ (List.mem_cons_self)
  have q0 : xe ρ (xsym 0) = some x0 := xe_sym y0
  have r0 : p.toInt = x0 := by
    have q9 : xe ρ (xsym 0) = some p.toInt := e2
    rw [q0] at q9
    exact (Option.some.inj q9).symm
  have z0 : (0 : Int) ≤ x0 := z0
  have u0 : x0 ≤ (300 : Int) := u0
  obtain ⟨x1, y1, z1, u1⟩ := hD.1.1.1 _ (List.mem_cons_of_mem _ (List.mem_cons_self))
  have q1 : xe ρ (xsym 1) = some x1 := xe_sym y1
  have r1 : n.toInt = x1 := by
    have q9 : xe ρ (xsym 1) = some n.toInt := e4
    rw [q1] at q9
    exact (Option.some.inj q9).symm
  have z1 : (0 : Int) ≤ x1 := z1
  have u1 : x1 ≤ (300 : Int) := u1
  refine ⟨w, p, t, n, ⟨g0, g1, g2, g3⟩, m2, ⟨by omega, by omega⟩, ⟨by omega, by omega⟩, by omega, ⟨by omega, by omega⟩, ⟨by omega, by omega⟩, by omega, by omega, fun τ' h' _ hq => ?_⟩
  refine ⟨_, List.mem_cons_self, rfl, ?_⟩
  have hno : ∀ {α : Type} {P : α → Prop}, ∀ q ∈ ([] : List α), P q := fun q hq => by cases hq
  refine ⟨⟨⟨hno, hno⟩, hD.1.2⟩, ⟨hD.2.1.1, fun k kd hk => ?_⟩, fun q hq2 => ?_, hno⟩
  · have hk : ([] : List Nat)[k]? = some kd := hk
    simp at hk
  have hq2 := List.mem_singleton.mp hq2
  subst hq2
  refine ⟨2, _, rfl, hq, n + 1, rfl, ?_⟩
  have e5 : (n + 1).toInt = n.toInt + 1 := by
    rw [Int32.toInt_add]
    have c1 : xI32a = -2147483648 := rfl
    have c2 : xI32b = 2147483647 := rfl
    exact xb_bm32 (by show xI32a ≤ n.toInt + 1; omega) (by show n.toInt + 1 ≤ xI32b; omega)
  rw [e5]
  have := xe_pl 1 e4
  exact this
theorem xv_note61 {og : Nat → Option zm_C} : xV xVV xX xW og xc_61 := by
  refine xv_note rfl rfl (fun ρ σ lc τ h hD hl => ?_)
  have l0 := hl _ List.mem_cons_self
  have l1 := hl _ (List.mem_cons_of_mem _ List.mem_cons_self)
  have l2 := hl _ (List.mem_cons_of_mem _ (List.mem_cons_of_mem _ List.mem_cons_self))
  have l3 := hl _ (List.mem_cons_of_mem _ (List.mem_cons_of_mem _ (List.mem_cons_of_mem _ List.mem_cons_self)))
  obtain ⟨v0, g0, rfl⟩ := l0
  obtain ⟨v1, g1, w, rfl, e1⟩ := l1
  obtain ⟨v2, g2, p, rfl, e2⟩ := l2
  obtain ⟨v3, g3, t, rfl, e3⟩ := l3
  obtain ⟨ad, v, m1, m2, n, rfl, e4⟩ := hD.2.2.1 _ List.mem_cons_self
  cases m1
  have c_w : w.toInt = 1 := by
    have q9 : xe ρ (xk 1) = some w.toInt := e1
    rw [xe_k] at q9
    exact (Option.some.inj q9).symm
  obtain ⟨x0, y0, z0, u0⟩ := hD.1.1.1 _ (List.mem_cons_self)
  have q0 : xe ρ (xsym 0) = some x0 := xe_sym y0
  have r0 : p.toInt = x0 := by
    have q9 : xe ρ (xsym 0) = some p.toInt := e2
    rw [q0] at q9
    exact (Option.some.inj q9).symm
  have z0 : (0 : Int) ≤ x0 := z0
  have u0 : x0 ≤ (300 : Int) := u0
  obtain ⟨x1, y1, z1, u1⟩ := hD.1.1.1 _ (List.mem_cons_of_mem _ (List.mem_cons_self))
  have q1 : xe ρ (xsym 1) = some x1 := xe_sym y1
  have r1 : t.toInt = x1 := by
    have q9 : xe ρ (xsym 1) = some t.toInt := e3
    rw [q1] at q9
    exact (Option.some.inj q9).symm
  have z1 : (-1 : Int) ≤ x1 := z1
  have u1 : x1 ≤ (35 : Int) := u1
  obtain ⟨x2, y2, z2, u2⟩ := hD.1.1.1 _ (List.mem_cons_of_mem _ (List.mem_cons_of_mem _ (List.mem_cons_self)))
  have q2 : xe ρ (xsym 2) = some x2 := xe_sym y2
  have r2 : n.toInt = x2 := by
    have q9 : xe ρ (xsym 2) = some n.toInt := e4
    rw [q2] at q9
    exact (Option.some.inj q9).symm
  have z2 : (0 : Int) ≤ x2 := z2
  have u2 : x2 ≤ (299 : Int) := u2
  refine ⟨w, p, t, n, ⟨g0, g1, g2, g3⟩, m2, ⟨by omega, by omega⟩, ⟨by omega, by omega⟩, by omega, ⟨by omega, by omega⟩, ⟨by omega, by omega⟩, by omega, by omega, fun τ' h' _ hq => ?_⟩
  refine ⟨_, List.mem_cons_self, rfl, ?_⟩
  have hno : ∀ {α : Type} {P : α → Prop}, ∀ q ∈ ([] : List α), P q := fun q hq => by cases hq
  refine ⟨⟨⟨hno, hno⟩, hD.1.2⟩, ⟨hD.2.1.1, fun k kd hk => ?_⟩, fun q hq2 => ?_, hno⟩
  · have hk : ([] : List Nat)[k]? = some kd := hk
    simp at hk
  have hq2 := List.mem_singleton.mp hq2
  subst hq2
  refine ⟨2, _, rfl, hq, n + 1, rfl, ?_⟩
  have e5 : (n + 1).toInt = n.toInt + 1 := by
    rw [Int32.toInt_add]
    have c1 : xI32a = -2147483648 := rfl
    have c2 : xI32b = 2147483647 := rfl
    exact xb_bm32 (by show xI32a ≤ n.toInt + 1; omega) (by show n.toInt + 1 ≤ xI32b; omega)
  rw [e5]
  have := xe_pl 1 e4
  exact this
theorem xv_note62 {og : Nat → Option zm_C} : xV xVV xX xW og xc_62 := by
  refine xv_note rfl rfl (fun ρ σ lc τ h hD hl => ?_)
  have l0 := hl _ List.mem_cons_self
  have l1 := hl _ (List.mem_cons_of_mem _ List.mem_cons_self)
  have l2 := hl _ (List.mem_cons_of_mem _ (List.mem_cons_of_mem _ List.mem_cons_self))
  have l3 := hl _ (List.mem_cons_of_mem _ (List.mem_cons_of_mem _ (List.mem_cons_of_mem _ List.mem_cons_self)))
  obtain ⟨v0, g0, rfl⟩ := l0
  obtain ⟨v1, g1, w, rfl, e1⟩ := l1
  obtain ⟨v2, g2, p, rfl, e2⟩ := l2
  obtain ⟨v3, g3, t, rfl, e3⟩ := l3
  obtain ⟨ad, v, m1, m2, n, rfl, e4⟩ := hD.2.2.1 _ List.mem_cons_self
  cases m1
  obtain ⟨x0, y0, z0, u0⟩ := hD.1.1.1 _ (List.mem_cons_self)
  have q0 : xe ρ (xsym 0) = some x0 := xe_sym y0
  have r0 : w.toInt = x0 := by
    have q9 : xe ρ (xsym 0) = some w.toInt := e1
    rw [q0] at q9
    exact (Option.some.inj q9).symm
  have z0 : (2 : Int) ≤ x0 := z0
  have u0 : x0 ≤ (255 : Int) := u0
  obtain ⟨x1, y1, z1, u1⟩ := hD.1.1.1 _ (List.mem_cons_of_mem _ (List.mem_cons_self))
  have q1 : xe ρ (xsym 1) = some x1 := xe_sym y1
  have r1 : p.toInt = x1 := by
    have q9 : xe ρ (xsym 1) = some p.toInt := e2
    rw [q1] at q9
    exact (Option.some.inj q9).symm
  have z1 : (0 : Int) ≤ x1 := z1
  have u1 : x1 ≤ (300 : Int) := u1
  obtain ⟨x2, y2, z2, u2⟩ := hD.1.1.1 _ (List.mem_cons_of_mem _ (List.mem_cons_of_mem _ (List.mem_cons_self)))
  have q2 : xe ρ (xsym 2) = some x2 := xe_sym y2
  have r2 : t.toInt = x2 := by
    have q9 : xe ρ (xsym 2) = some t.toInt := e3
    rw [q2] at q9
    exact (Option.some.inj q9).symm
  have z2 : (0 : Int) ≤ x2 := z2
  have u2 : x2 ≤ (10000 : Int) := u2
  obtain ⟨x3, y3, z3, u3⟩ := hD.1.1.1 _ (List.mem_cons_of_mem _ (List.mem_cons_of_mem _ (List.mem_cons_of_mem _ (List.mem_cons_self))))
  have q3 : xe ρ (xsym 3) = some x3 := xe_sym y3
  have r3 : n.toInt = x3 := by
    have q9 : xe ρ (xsym 3) = some n.toInt := e4
    rw [q3] at q9
    exact (Option.some.inj q9).symm
  have z3 : (0 : Int) ≤ x3 := z3
  have u3 : x3 ≤ (299 : Int) := u3
  refine ⟨w, p, t, n, ⟨g0, g1, g2, g3⟩, m2, ⟨by omega, by omega⟩, ⟨by omega, by omega⟩, by omega, ⟨by omega, by omega⟩, ⟨by omega, by omega⟩, by omega, by omega, fun τ' h' _ hq => ?_⟩
  refine ⟨_, List.mem_cons_self, rfl, ?_⟩
  have hno : ∀ {α : Type} {P : α → Prop}, ∀ q ∈ ([] : List α), P q := fun q hq => by cases hq
  refine ⟨⟨⟨hno, hno⟩, hD.1.2⟩, ⟨hD.2.1.1, fun k kd hk => ?_⟩, fun q hq2 => ?_, hno⟩
  · have hk : ([] : List Nat)[k]? = some kd := hk
    simp at hk
  have hq2 := List.mem_singleton.mp hq2
  subst hq2
  refine ⟨2, _, rfl, hq, n + 1, rfl, ?_⟩
  have e5 : (n + 1).toInt = n.toInt + 1 := by
    rw [Int32.toInt_add]
    have c1 : xI32a = -2147483648 := rfl
    have c2 : xI32b = 2147483647 := rfl
    exact xb_bm32 (by show xI32a ≤ n.toInt + 1; omega) (by show n.toInt + 1 ≤ xI32b; omega)
  rw [e5]
  have := xe_pl 1 e4
  exact this
end
section
/-! By hand: makeRoom -/
def xzj (t : Nat) (j : Nat) (q : xJ) : Bool := Nat.beq q.2.2.2.1 0 && (xle q.2.1 (.ofNat j) && (xle (.ofNat j) q.2.2.1 && (bif Nat.beq t 1 then Nat.beq q.1.1 1 else Nat.beq q.1.1 0 && (xle q.1.2.2.1 0 && xle 0 q.1.2.2.2))))
def xX5 (τ : List Nat) (h : zm_H) : Prop := (∀ a : Nat, xSG a = true → τ[a]? = some a) ∧ xPX 1 0 0 1 τ h ∧ xPX 8 7 0 1 τ h ∧ xPX 209 207 8 7 τ h ∧ xPP h
section XRM
variable {τ : List Nat} {h : zm_H} {og : Nat → Option zm_C}
theorem xzj_ok {t j : Nat} {q : xJ} (ht : t ≤ 1) (hq : xzj t j q = true) : xsat τ q.1 (zm_kv (zm_zero t) j) ∧ xjok q j := by
  unfold xzj at hq
  simp only [Bool.and_eq_true, xle_iff] at hq
  obtain ⟨h1, h2, h3, h4⟩ := hq
  refine ⟨?_, h2, h3, Or.inl (Nat.eq_of_beq_eq_true h1)⟩
  obtain ⟨⟨tq, nq, lo, hi⟩, qq⟩ := q
  rcases (show t = 0 ∨ t = 1 by omega) with rfl | rfl
  · have h4 : (Nat.beq tq 0 && (xle lo 0 && xle 0 hi)) = true := h4
    simp only [Bool.and_eq_true, xle_iff] at h4
    have e : tq = 0 := Nat.eq_of_beq_eq_true h4.1
    subst e
    exact ⟨0, rfl, h4.2.1, h4.2.2⟩
  · have h4 : Nat.beq tq 1 = true := h4
    have e : tq = 1 := Nat.eq_of_beq_eq_true h4
    subst e
    exact ⟨0, rfl⟩
theorem xHI_app {kd t n : Nat} {js : List xJ} (hH : xHI xKT xSG τ h) (hk : xKT kd = some (.inr (t, n, js))) (ht : t ≤ 1) (hz : (List.range n).all (fun j => js.any (xzj t j)) = true) : xHI xKT xSG (τ ++ [kd]) (h ++ [.inl (t, n, zm_zero t)]) := by
  have hlen := hH.1
  refine ⟨by simp [hlen], fun b kb hb => ?_, fun b hb => xgl (hH.2.2 b hb)⟩
  by_cases hlt : b < τ.length
  · rw [List.getElem?_append_left hlt] at hb
    obtain ⟨D', c', k1, k2, k3⟩ := hH.2.1 b kb hb
    refine ⟨D', c', k1, ?_, xcf_mono k3⟩
    rw [List.getElem?_append_left (List.getElem?_eq_some_iff.mp k2).1]
    exact k2
  · have hl2 := (List.getElem?_eq_some_iff.mp hb).1
    rw [List.length_append, List.length_singleton] at hl2
    have e : b = τ.length := by omega
    subst e
    have hb : kd = kb := by simpa using hb
    subst hb
    refine ⟨_, _, hk, by rw [← hlen]; simp, zm_zero t, rfl, ?_, fun j hj => ?_⟩
    · rcases (show t = 0 ∨ t = 1 by omega) with rfl | rfl
      · exact ⟨_, rfl⟩
      · exact ⟨_, rfl⟩
    · have h1 := List.all_eq_true.mp hz j (List.mem_range.mpr hj)
      obtain ⟨q, hq, hq2⟩ := List.any_eq_true.mp h1
      exact ⟨q, hq, xzj_ok ht hq2⟩
theorem xPX_3 {ak ok fa fc kd f : Nat} {fs : List Value} {v : Value} {a ci : Nat} (hx : xPX ak ok fa fc τ h) (ht : τ[a]? = some kd) (hne : kd ≠ ok) (hh : h[a]? = some (.inr (ci, fs))) : xPX ak ok fa fc τ (h.set a (.inr (ci, fs.set f v))) := by
  intro a' b t n i c g k1 k2 k3 k4 k5 k6 k7
  have hna : a' ≠ a := by
    rintro rfl
    rw [ht] at k1
    cases k1
    exact hne rfl
  rw [xfd_set hh (Or.inl hna)] at k3 k4
  rw [xgs hh] at k5
  by_cases e : a = b
  · rw [if_pos e] at k5; cases k5
  · rw [if_neg e] at k5
    exact hx a' b t n i c g k1 k2 k3 k4 k5 k6 k7
theorem xX5_put {f : Nat} {fs : List Value} {v : Value} (hx : xX5 τ h) (hh : h[36]? = some (.inr (6, fs))) : xX5 τ (h.set 36 (.inr (6, fs.set f v))) := by
  obtain ⟨h0, h1, h2, h3, h4⟩ := hx
  have ht := h0 36 rfl
  refine ⟨h0, xPX_3 h1 ht (by decide) hh, xPX_3 h2 ht (by decide) hh, xPX_3 h3 ht (by decide) hh, fun n m j g1 g2 k1 k2 k3 => ?_⟩
  rw [xgs hh, if_neg (by decide)] at k1 k2
  exact h4 n m j g1 g2 k1 k2 k3
theorem xX5_app {kd t n : Nat} {k : zm_K} (hx : xX5 τ h) (hH : xHI xKT xSG τ h) : xX5 (τ ++ [kd]) (h ++ [.inl (t, n, k)]) := by
  obtain ⟨h0, h1, h2, h3, h4⟩ := hx
  have l36 : 36 < h.length := by
    have := (List.getElem?_eq_some_iff.mp (h0 36 rfl)).1
    have := hH.1
    omega
  refine ⟨fun a ha => xgl (h0 a ha), xPX_n h1 hH (fun a b p q => xref_lt (f := 0) hH (show xKT 0 = some _ from rfl) rfl (by decide) p q), xPX_n h2 hH (fun a b p q => xref_lt (f := 0) hH (show xKT 7 = some _ from rfl) rfl (by decide) p q), xPX_n h3 hH (fun a b p q => xref_lt (f := 8) hH (show xKT 207 = some _ from rfl) rfl (by decide) p q), fun n' m j g1 g2 k1 k2 k3 => ?_⟩
  rw [List.getElem?_append_left (by omega)] at k1 k2
  exact h4 n' m j g1 g2 k1 k2 k3
theorem xF_app {MS : Nat → Nat → Bool} {kd : Nat} {c : zm_C} : xF MS τ h (τ ++ [kd]) (h ++ [c]) := by
  refine ⟨⟨[kd], rfl⟩, fun a ka f v _ _ hv => xfd_app hv, fun a ka q _ _ hq => ?_⟩
  rw [List.getElem?_append_left (List.getElem?_eq_some_iff.mp hq).1]
  exact hq
def xmkh (h : zm_H) (t n f : Nat) (fs : List Value) : zm_H := (h ++ [Sum.inl (t, n, zm_zero t)]).set 36 (Sum.inr (6, fs.set f (.ref h.length)))
/-- one row made and put into the planner's field -/
theorem xmk {f kd t n : Nat} {js : List xJ} {fs : List Value} {sp : List xA} (hH : xHI xKT xSG τ h) (hx : xX5 τ h) (hh : h[36]? = some (.inr (6, fs))) (hk : xKT kd = some (.inr (t, n, js))) (ht : t ≤ 1) (hz : (List.range n).all (fun j => js.any (xzj t j)) = true) (hsp : ∃ d : Nat × List (List xA), xKT 36 = some (.inl d) ∧ d.1 = 6 ∧ d.2[f]? = some sp) (hs : (4, kd, 0, 0) ∈ sp) : xHI xKT xSG (τ ++ [kd]) (xmkh h t n f fs) ∧ xX5 (τ ++ [kd]) (xmkh h t n f fs) ∧ (xmkh h t n f fs).length = h.length + 1 ∧ zm_szs (xmkh h t n f fs) = zm_szs h + n ∧ (xmkh h t n f fs)[36]? = some (.inr (6, fs.set f (.ref h.length))) ∧ xF (xms [(36, 10), (36, 11), (36, 12), (36, 13), (36, 14)]) τ h (τ ++ [kd]) (h ++ [.inl (t, n, zm_zero t)]) := by
  obtain ⟨d, hd, hd1, hd2⟩ := hsp
  have hH1 := xHI_app hH hk ht hz
  have hx1 := xX5_app (kd := kd) (t := t) (n := n) (k := zm_zero t) hx hH
  have hh1 : (h ++ [.inl (t, n, zm_zero t)])[36]? = some (.inr (6, fs)) := zs_app hh
  obtain ⟨fs', e1, e2, e3⟩ := xcf_o hH1 (hx1.1 36 rfl) hd
  rw [hh1, hd1] at e1
  cases e1
  have hlt := (List.getElem?_eq_some_iff.mp hd2).1
  obtain ⟨d1, d2⟩ := d
  have hd1 : d1 = 6 := hd1
  subst hd1
  refine ⟨xHI_set hH1 hh1 (hx1.1 36 rfl) hd ⟨fs.set f (.ref h.length), rfl, by rw [List.length_set]; exact e2, fun g sp' v' c1 c2 => ?_⟩, xX5_put hx1 hh1, ?_, ?_, zs_eq hh1, xF_app⟩
  · by_cases e : f = g
    · subst e
      have c1 : d2[f]? = some sp' := c1
      have hd2 : d2[f]? = some sp := hd2
      rw [hd2] at c1
      cases c1
      have e2 : fs.length = d2.length := e2
      have hlt : f < d2.length := hlt
      rw [List.getElem?_set_self (by omega)] at c2
      cases c2
      refine ⟨_, hs, h.length, rfl, ?_⟩
      rw [hH.1]
      simp
    · rw [List.getElem?_set_ne e] at c2
      exact e3 g sp' v' c1 c2
  · unfold xmkh
    rw [List.length_set, List.length_append, List.length_singleton]
  · unfold xmkh
    rw [(zm_set_sz hh1 (by show (fs.set f (.ref h.length)).length = fs.length; rw [List.length_set])).2, zm_szs_app]
    rfl
end XRM
end
section
/-! By hand: makeRoom, on -/
theorem xkt_js {kd t n : Nat} {js : List xJ} (h : (match xKT kd with
  | some (.inr d) => Nat.beq d.1 t && (Nat.beq d.2.1 n && (List.range n).all (fun j => d.2.2.any (xzj t j)))
  | _ => false) = true) : ∃ js, xKT kd = some (.inr (t, n, js)) ∧ (List.range n).all (fun j => js.any (xzj t j)) = true := by
  split at h
  · rename_i d hd
    simp only [Bool.and_eq_true] at h
    obtain ⟨a, b, js⟩ := d
    have e1 : a = t := Nat.eq_of_beq_eq_true h.1
    have e2 : b = n := Nat.eq_of_beq_eq_true h.2.1
    subst e1
    subst e2
    exact ⟨js, hd, h.2.2⟩
  · cases h
set_option maxRecDepth 100000 in
theorem xj_212 : ∃ js, xKT 212 = some (.inr (1, 10240, js)) ∧ (List.range 10240).all (fun j => js.any (xzj 1 j)) = true := xkt_js (js := []) (by decide +kernel)
set_option maxRecDepth 100000 in
theorem xj_213 : ∃ js, xKT 213 = some (.inr (1, 1024, js)) ∧ (List.range 1024).all (fun j => js.any (xzj 1 j)) = true := xkt_js (js := []) (by decide +kernel)
set_option maxRecDepth 100000 in
theorem xj_214 : ∃ js, xKT 214 = some (.inr (0, 1024, js)) ∧ (List.range 1024).all (fun j => js.any (xzj 0 j)) = true := xkt_js (js := []) (by decide +kernel)
set_option maxRecDepth 100000 in
theorem xj_215 : ∃ js, xKT 215 = some (.inr (0, 1024, js)) ∧ (List.range 1024).all (fun j => js.any (xzj 0 j)) = true := xkt_js (js := []) (by decide +kernel)
set_option maxRecDepth 100000 in
theorem xj_216 : ∃ js, xKT 216 = some (.inr (1, 91, js)) ∧ (List.range 91).all (fun j => js.any (xzj 1 j)) = true := xkt_js (js := []) (by decide +kernel)
section XRV
variable {og : Nat → Option zm_C}
theorem xtwo {τ : List Nat} {h : zm_H} {fs : List Value} {d : Nat × List (List xA)} {f kd : Nat} (hl : fs.length = d.2.length) (hsp : ∀ (f : Nat) (sp : List xA) (v : Value), d.2[f]? = some sp → fs[f]? = some v → ∃ a ∈ sp, xsat τ a v) (hf : d.2[f]? = some [(2, 0, 0, 0), (4, kd, 0, 0)]) : fs[f]? = some .null ∨ ∃ b, fs[f]? = some (.ref b) ∧ τ[b]? = some kd := by
  have hlt := (List.getElem?_eq_some_iff.mp hf).1
  have hg : fs[f]? = some fs[f] := List.getElem?_eq_getElem (by omega)
  obtain ⟨a, ha, hs⟩ := hsp f _ _ hf hg
  simp only [List.mem_cons, List.not_mem_nil, or_false] at ha
  rcases ha with rfl | rfl
  · left
    have hs : fs[f] = .null := hs
    rw [hg, hs]
  · right
    obtain ⟨b, h1, h2⟩ := hs
    exact ⟨b, by rw [hg, h1], h2⟩
/-- what the contract says at its end -/
theorem xroom_end {τ τ' : List Nat} {h h' : zm_H} {b0 b1 b2 b3 b4 : Nat} (hH : xHI xKT xSG τ' h') (hX : xX τ' h') (hF : xF (xms xc_48.2.2.2.1) τ h τ' h') (hW : xW h' ≤ xW h) (e0 : xfd h' 36 10 = some (.ref b0)) (e1 : xfd h' 36 11 = some (.ref b1)) (e2 : xfd h' 36 12 = some (.ref b2)) (e3 : xfd h' 36 13 = some (.ref b3)) (e4 : xfd h' 36 14 = some (.ref b4)) (t0 : τ'[b0]? = some 212) (t1 : τ'[b1]? = some 213) (t2 : τ'[b2]? = some 214) (t3 : τ'[b3]? = some 215) (t4 : τ'[b4]? = some 216) : xQc xVV xX xW xc_48 [] [] τ h none h' := by
  have hno : ∀ {α : Type} {P : α → Prop}, ∀ q ∈ ([] : List α), P q := fun q hq => by cases hq
  refine ⟨τ', hH, hX, hF, by omega, _, List.mem_cons_self, [], [b0, b1, b2, b3, b4], ⟨⟨⟨hno, hno⟩, rfl⟩, ⟨rfl, fun k kd hk => ?_⟩, fun q hq => ?_, hno⟩, trivial⟩
  · have hk : [212, 213, 214, 215, 216][k]? = some kd := hk
    have hlt : k < 5 := (List.getElem?_eq_some_iff.mp hk).1
    rcases (show k = 0 ∨ k = 1 ∨ k = 2 ∨ k = 3 ∨ k = 4 by omega) with rfl | rfl | rfl | rfl | rfl
    · cases hk; exact ⟨b0, rfl, t0⟩
    · cases hk; exact ⟨b1, rfl, t1⟩
    · cases hk; exact ⟨b2, rfl, t2⟩
    · cases hk; exact ⟨b3, rfl, t3⟩
    · cases hk; exact ⟨b4, rfl, t4⟩
  · have hq : q ∈ [(((3, xk 0, 36) : xv), 10, ((4, xk 0, 0) : xv)), ((3, xk 0, 36), 11, (4, xk 0, 1)), ((3, xk 0, 36), 12, (4, xk 0, 2)), ((3, xk 0, 36), 13, (4, xk 0, 3)), ((3, xk 0, 36), 14, (4, xk 0, 4))] := hq
    simp only [List.mem_cons, List.not_mem_nil, or_false] at hq
    rcases hq with rfl | rfl | rfl | rfl | rfl
    · exact ⟨36, _, rfl, e0, b0, rfl, rfl⟩
    · exact ⟨36, _, rfl, e1, b1, rfl, rfl⟩
    · exact ⟨36, _, rfl, e2, b2, rfl, rfl⟩
    · exact ⟨36, _, rfl, e3, b3, rfl, rfl⟩
    · exact ⟨36, _, rfl, e4, b4, rfl, rfl⟩
theorem xv_room : xV xVV xX xW og xc_48 := by
  intro ρ σ τ h lc hH hX hD hl
  have hρ : ρ = [] := List.eq_nil_of_length_eq_zero hD.1.2.symm
  have hσ : σ = [] := List.eq_nil_of_length_eq_zero hD.2.1.1
  subst hρ
  subst hσ
  have hH : xHI xKT xSG τ h := hH
  obtain ⟨v0, g0, rfl⟩ := hl _ List.mem_cons_self
  obtain ⟨s0, sx1, sx2, sx3, sp, sl⟩ := hX
  obtain ⟨fs, hh, hlen, hsp⟩ := xcf_o hH (s0 36 rfl) (show xKT 36 = some (.inl (6, _)) from rfl)
  have hh : h[36]? = some (.inr (6, fs)) := hh
  have hlen15 : fs.length = 15 := hlen
  have hfd : ∀ f, xfd h 36 f = fs[f]? := fun f => by simp only [xfd, hh]
  have d10 := xtwo (h := h) (f := 10) hlen hsp rfl
  have d11 := xtwo (h := h) (f := 11) hlen hsp rfl
  have d12 := xtwo (h := h) (f := 12) hlen hsp rfl
  have d13 := xtwo (h := h) (f := 13) hlen hsp rfl
  have d14 := xtwo (h := h) (f := 14) hlen hsp rfl
  refine zy_sub [(0, .ref 36)] (by simp) (fun q hq => by rw [List.mem_singleton.mp hq]; exact g0) ?_
  show zm_Y og 12 97 0 _ _ _ _
  refine zy_n 1 (mr := zm_m97) rfl rfl ?_
  rcases d10 with f10 | ⟨b0, f10, t0⟩
  · obtain ⟨j0, k0, z0⟩ := xj_212
    obtain ⟨j1, k1, z1⟩ := xj_213
    obtain ⟨j2, k2, z2⟩ := xj_214
    obtain ⟨j3, k3, z3⟩ := xj_215
    obtain ⟨j4, k4, z4⟩ := xj_216
    refine zy_h (mr := zm_m97) rfl rfl (zh_get hh f10) ?_
    refine zy_b (mr := zm_m97) rfl rfl rfl ?_
    have hk36 : xKT 36 = some (.inl (6, _)) := rfl
    obtain ⟨H0, X0, L0, Z0, C0, F0⟩ := xmk (f := 10) (kd := 212) (t := 1) (n := 10240) hH (⟨s0, sx1, sx2, sx3, sp⟩ : xX5 τ h) hh k0 (by decide) z0 ⟨_, rfl, rfl, rfl⟩ (List.mem_cons_of_mem _ List.mem_cons_self)
    refine zy_n 2 (mr := zm_m97) rfl rfl ?_
    refine zy_h (mr := zm_m97) rfl rfl (zh_newa rfl rfl rfl) ?_
    refine zy_h (mr := zm_m97) rfl rfl (zh_put (zs_app hh) (by rw [hlen15]; rfl) rfl) ?_
    have G0 := xF_trans F0 (xF_o (v := .ref (h).length) (f := 10) (X0.1 36 rfl) rfl (zs_app (g := [.inl (1, 10240, zm_zero 1)]) hh))
    obtain ⟨H1, X1, L1, Z1, C1, F1⟩ := xmk (f := 11) (kd := 213) (t := 1) (n := 1024) H0 X0 C0 k1 (by decide) z1 ⟨_, rfl, rfl, rfl⟩ (List.mem_cons_of_mem _ List.mem_cons_self)
    refine zy_n 2 (mr := zm_m97) rfl rfl ?_
    refine zy_h (mr := zm_m97) rfl rfl (zh_newa rfl rfl rfl) ?_
    refine zy_h (mr := zm_m97) rfl rfl (zh_put (zs_app C0) (by simp only [List.length_set]; rw [hlen15]; rfl) rfl) ?_
    have G1 := xF_trans F1 (xF_o (v := .ref (xmkh h 1 10240 10 fs).length) (f := 11) (X1.1 36 rfl) rfl (zs_app (g := [.inl (1, 1024, zm_zero 1)]) C0))
    obtain ⟨H2, X2, L2, Z2, C2, F2⟩ := xmk (f := 12) (kd := 214) (t := 0) (n := 1024) H1 X1 C1 k2 (by decide) z2 ⟨_, rfl, rfl, rfl⟩ (List.mem_cons_of_mem _ List.mem_cons_self)
    refine zy_n 2 (mr := zm_m97) rfl rfl ?_
    refine zy_h (mr := zm_m97) rfl rfl (zh_newa rfl rfl rfl) ?_
    refine zy_h (mr := zm_m97) rfl rfl (zh_put (zs_app C1) (by simp only [List.length_set]; rw [hlen15]; rfl) rfl) ?_
    have G2 := xF_trans F2 (xF_o (v := .ref (xmkh (xmkh h 1 10240 10 fs) 1 1024 11 ((fs).set 10 (.ref (h).length))).length) (f := 12) (X2.1 36 rfl) rfl (zs_app (g := [.inl (0, 1024, zm_zero 0)]) C1))
    obtain ⟨H3, X3, L3, Z3, C3, F3⟩ := xmk (f := 13) (kd := 215) (t := 0) (n := 1024) H2 X2 C2 k3 (by decide) z3 ⟨_, rfl, rfl, rfl⟩ (List.mem_cons_of_mem _ List.mem_cons_self)
    refine zy_n 2 (mr := zm_m97) rfl rfl ?_
    refine zy_h (mr := zm_m97) rfl rfl (zh_newa rfl rfl rfl) ?_
    refine zy_h (mr := zm_m97) rfl rfl (zh_put (zs_app C2) (by simp only [List.length_set]; rw [hlen15]; rfl) rfl) ?_
    have G3 := xF_trans F3 (xF_o (v := .ref (xmkh (xmkh (xmkh h 1 10240 10 fs) 1 1024 11 ((fs).set 10 (.ref (h).length))) 0 1024 12 (((fs).set 10 (.ref (h).length)).set 11 (.ref (xmkh h 1 10240 10 fs).length))).length) (f := 13) (X3.1 36 rfl) rfl (zs_app (g := [.inl (0, 1024, zm_zero 0)]) C2))
    obtain ⟨H4, X4, L4, Z4, C4, F4⟩ := xmk (f := 14) (kd := 216) (t := 1) (n := 91) H3 X3 C3 k4 (by decide) z4 ⟨_, rfl, rfl, rfl⟩ (List.mem_cons_of_mem _ List.mem_cons_self)
    refine zy_n 2 (mr := zm_m97) rfl rfl ?_
    refine zy_h (mr := zm_m97) rfl rfl (zh_newa rfl rfl rfl) ?_
    refine zy_h (mr := zm_m97) rfl rfl (zh_put (zs_app C3) (by simp only [List.length_set]; rw [hlen15]; rfl) rfl) ?_
    have G4 := xF_trans F4 (xF_o (v := .ref (xmkh (xmkh (xmkh (xmkh h 1 10240 10 fs) 1 1024 11 ((fs).set 10 (.ref (h).length))) 0 1024 12 (((fs).set 10 (.ref (h).length)).set 11 (.ref (xmkh h 1 10240 10 fs).length))) 0 1024 13 ((((fs).set 10 (.ref (h).length)).set 11 (.ref (xmkh h 1 10240 10 fs).length)).set 12 (.ref (xmkh (xmkh h 1 10240 10 fs) 1 1024 11 ((fs).set 10 (.ref (h).length))).length))).length) (f := 14) (X4.1 36 rfl) rfl (zs_app (g := [.inl (1, 91, zm_zero 1)]) C3))
    refine zy_r (mr := zm_m97) rfl rfl rfl ?_
    have hf5 : ∀ f, xfd (xmkh (xmkh (xmkh (xmkh (xmkh (h) 1 10240 10 (fs)) 1 1024 11 ((fs).set 10 (.ref (h).length))) 0 1024 12 (((fs).set 10 (.ref (h).length)).set 11 (.ref (xmkh (h) 1 10240 10 (fs)).length))) 0 1024 13 ((((fs).set 10 (.ref (h).length)).set 11 (.ref (xmkh (h) 1 10240 10 (fs)).length)).set 12 (.ref (xmkh (xmkh (h) 1 10240 10 (fs)) 1 1024 11 ((fs).set 10 (.ref (h).length))).length))) 1 91 14 (((((fs).set 10 (.ref (h).length)).set 11 (.ref (xmkh (h) 1 10240 10 (fs)).length)).set 12 (.ref (xmkh (xmkh (h) 1 10240 10 (fs)) 1 1024 11 ((fs).set 10 (.ref (h).length))).length)).set 13 (.ref (xmkh (xmkh (xmkh (h) 1 10240 10 (fs)) 1 1024 11 ((fs).set 10 (.ref (h).length))) 0 1024 12 (((fs).set 10 (.ref (h).length)).set 11 (.ref (xmkh (h) 1 10240 10 (fs)).length))).length))) 36 f = ((((((fs).set 10 (.ref (h).length)).set 11 (.ref (xmkh (h) 1 10240 10 (fs)).length)).set 12 (.ref (xmkh (xmkh (h) 1 10240 10 (fs)) 1 1024 11 ((fs).set 10 (.ref (h).length))).length)).set 13 (.ref (xmkh (xmkh (xmkh (h) 1 10240 10 (fs)) 1 1024 11 ((fs).set 10 (.ref (h).length))) 0 1024 12 (((fs).set 10 (.ref (h).length)).set 11 (.ref (xmkh (h) 1 10240 10 (fs)).length))).length)).set 14 (.ref (xmkh (xmkh (xmkh (xmkh (h) 1 10240 10 (fs)) 1 1024 11 ((fs).set 10 (.ref (h).length))) 0 1024 12 (((fs).set 10 (.ref (h).length)).set 11 (.ref (xmkh (h) 1 10240 10 (fs)).length))) 0 1024 13 ((((fs).set 10 (.ref (h).length)).set 11 (.ref (xmkh (h) 1 10240 10 (fs)).length)).set 12 (.ref (xmkh (xmkh (h) 1 10240 10 (fs)) 1 1024 11 ((fs).set 10 (.ref (h).length))).length))).length))[f]? := fun f => by simp only [xfd, C4]
    have hlh := hH.1
    have r0 : ((((((fs).set 10 (.ref (h).length)).set 11 (.ref (xmkh (h) 1 10240 10 (fs)).length)).set 12 (.ref (xmkh (xmkh (h) 1 10240 10 (fs)) 1 1024 11 ((fs).set 10 (.ref (h).length))).length)).set 13 (.ref (xmkh (xmkh (xmkh (h) 1 10240 10 (fs)) 1 1024 11 ((fs).set 10 (.ref (h).length))) 0 1024 12 (((fs).set 10 (.ref (h).length)).set 11 (.ref (xmkh (h) 1 10240 10 (fs)).length))).length)).set 14 (.ref (xmkh (xmkh (xmkh (xmkh (h) 1 10240 10 (fs)) 1 1024 11 ((fs).set 10 (.ref (h).length))) 0 1024 12 (((fs).set 10 (.ref (h).length)).set 11 (.ref (xmkh (h) 1 10240 10 (fs)).length))) 0 1024 13 ((((fs).set 10 (.ref (h).length)).set 11 (.ref (xmkh (h) 1 10240 10 (fs)).length)).set 12 (.ref (xmkh (xmkh (h) 1 10240 10 (fs)) 1 1024 11 ((fs).set 10 (.ref (h).length))).length))).length))[10]? = some (.ref (h).length) := by rw [List.getElem?_set_ne (by decide), List.getElem?_set_ne (by decide), List.getElem?_set_ne (by decide), List.getElem?_set_ne (by decide), List.getElem?_set_self (by first | omega | (simp only [List.length_set]; omega))]
    have r1 : ((((((fs).set 10 (.ref (h).length)).set 11 (.ref (xmkh (h) 1 10240 10 (fs)).length)).set 12 (.ref (xmkh (xmkh (h) 1 10240 10 (fs)) 1 1024 11 ((fs).set 10 (.ref (h).length))).length)).set 13 (.ref (xmkh (xmkh (xmkh (h) 1 10240 10 (fs)) 1 1024 11 ((fs).set 10 (.ref (h).length))) 0 1024 12 (((fs).set 10 (.ref (h).length)).set 11 (.ref (xmkh (h) 1 10240 10 (fs)).length))).length)).set 14 (.ref (xmkh (xmkh (xmkh (xmkh (h) 1 10240 10 (fs)) 1 1024 11 ((fs).set 10 (.ref (h).length))) 0 1024 12 (((fs).set 10 (.ref (h).length)).set 11 (.ref (xmkh (h) 1 10240 10 (fs)).length))) 0 1024 13 ((((fs).set 10 (.ref (h).length)).set 11 (.ref (xmkh (h) 1 10240 10 (fs)).length)).set 12 (.ref (xmkh (xmkh (h) 1 10240 10 (fs)) 1 1024 11 ((fs).set 10 (.ref (h).length))).length))).length))[11]? = some (.ref (xmkh (h) 1 10240 10 (fs)).length) := by rw [List.getElem?_set_ne (by decide), List.getElem?_set_ne (by decide), List.getElem?_set_ne (by decide), List.getElem?_set_self (by first | omega | (simp only [List.length_set]; omega))]
    have r2 : ((((((fs).set 10 (.ref (h).length)).set 11 (.ref (xmkh (h) 1 10240 10 (fs)).length)).set 12 (.ref (xmkh (xmkh (h) 1 10240 10 (fs)) 1 1024 11 ((fs).set 10 (.ref (h).length))).length)).set 13 (.ref (xmkh (xmkh (xmkh (h) 1 10240 10 (fs)) 1 1024 11 ((fs).set 10 (.ref (h).length))) 0 1024 12 (((fs).set 10 (.ref (h).length)).set 11 (.ref (xmkh (h) 1 10240 10 (fs)).length))).length)).set 14 (.ref (xmkh (xmkh (xmkh (xmkh (h) 1 10240 10 (fs)) 1 1024 11 ((fs).set 10 (.ref (h).length))) 0 1024 12 (((fs).set 10 (.ref (h).length)).set 11 (.ref (xmkh (h) 1 10240 10 (fs)).length))) 0 1024 13 ((((fs).set 10 (.ref (h).length)).set 11 (.ref (xmkh (h) 1 10240 10 (fs)).length)).set 12 (.ref (xmkh (xmkh (h) 1 10240 10 (fs)) 1 1024 11 ((fs).set 10 (.ref (h).length))).length))).length))[12]? = some (.ref (xmkh (xmkh (h) 1 10240 10 (fs)) 1 1024 11 ((fs).set 10 (.ref (h).length))).length) := by rw [List.getElem?_set_ne (by decide), List.getElem?_set_ne (by decide), List.getElem?_set_self (by first | omega | (simp only [List.length_set]; omega))]
    have r3 : ((((((fs).set 10 (.ref (h).length)).set 11 (.ref (xmkh (h) 1 10240 10 (fs)).length)).set 12 (.ref (xmkh (xmkh (h) 1 10240 10 (fs)) 1 1024 11 ((fs).set 10 (.ref (h).length))).length)).set 13 (.ref (xmkh (xmkh (xmkh (h) 1 10240 10 (fs)) 1 1024 11 ((fs).set 10 (.ref (h).length))) 0 1024 12 (((fs).set 10 (.ref (h).length)).set 11 (.ref (xmkh (h) 1 10240 10 (fs)).length))).length)).set 14 (.ref (xmkh (xmkh (xmkh (xmkh (h) 1 10240 10 (fs)) 1 1024 11 ((fs).set 10 (.ref (h).length))) 0 1024 12 (((fs).set 10 (.ref (h).length)).set 11 (.ref (xmkh (h) 1 10240 10 (fs)).length))) 0 1024 13 ((((fs).set 10 (.ref (h).length)).set 11 (.ref (xmkh (h) 1 10240 10 (fs)).length)).set 12 (.ref (xmkh (xmkh (h) 1 10240 10 (fs)) 1 1024 11 ((fs).set 10 (.ref (h).length))).length))).length))[13]? = some (.ref (xmkh (xmkh (xmkh (h) 1 10240 10 (fs)) 1 1024 11 ((fs).set 10 (.ref (h).length))) 0 1024 12 (((fs).set 10 (.ref (h).length)).set 11 (.ref (xmkh (h) 1 10240 10 (fs)).length))).length) := by rw [List.getElem?_set_ne (by decide), List.getElem?_set_self (by first | omega | (simp only [List.length_set]; omega))]
    have r4 : ((((((fs).set 10 (.ref (h).length)).set 11 (.ref (xmkh (h) 1 10240 10 (fs)).length)).set 12 (.ref (xmkh (xmkh (h) 1 10240 10 (fs)) 1 1024 11 ((fs).set 10 (.ref (h).length))).length)).set 13 (.ref (xmkh (xmkh (xmkh (h) 1 10240 10 (fs)) 1 1024 11 ((fs).set 10 (.ref (h).length))) 0 1024 12 (((fs).set 10 (.ref (h).length)).set 11 (.ref (xmkh (h) 1 10240 10 (fs)).length))).length)).set 14 (.ref (xmkh (xmkh (xmkh (xmkh (h) 1 10240 10 (fs)) 1 1024 11 ((fs).set 10 (.ref (h).length))) 0 1024 12 (((fs).set 10 (.ref (h).length)).set 11 (.ref (xmkh (h) 1 10240 10 (fs)).length))) 0 1024 13 ((((fs).set 10 (.ref (h).length)).set 11 (.ref (xmkh (h) 1 10240 10 (fs)).length)).set 12 (.ref (xmkh (xmkh (h) 1 10240 10 (fs)) 1 1024 11 ((fs).set 10 (.ref (h).length))).length))).length))[14]? = some (.ref (xmkh (xmkh (xmkh (xmkh (h) 1 10240 10 (fs)) 1 1024 11 ((fs).set 10 (.ref (h).length))) 0 1024 12 (((fs).set 10 (.ref (h).length)).set 11 (.ref (xmkh (h) 1 10240 10 (fs)).length))) 0 1024 13 ((((fs).set 10 (.ref (h).length)).set 11 (.ref (xmkh (h) 1 10240 10 (fs)).length)).set 12 (.ref (xmkh (xmkh (h) 1 10240 10 (fs)) 1 1024 11 ((fs).set 10 (.ref (h).length))).length))).length) := by rw [List.getElem?_set_self (by first | omega | (simp only [List.length_set]; omega))]
    refine xroom_end (τ' := (((((τ ++ [212]) ++ [213]) ++ [214]) ++ [215]) ++ [216])) H4 ⟨X4.1, X4.2.1, X4.2.2.1, X4.2.2.2.1, X4.2.2.2.2, fun v f _ _ c3 c4 => ?_⟩ (xF_trans (xF_trans (xF_trans (xF_trans G0 G1) G2) G3) G4) ?_ (by rw [← r0]; exact hf5 10) (by rw [← r1]; exact hf5 11) (by rw [← r2]; exact hf5 12) (by rw [← r3]; exact hf5 13) (by rw [← r4]; exact hf5 14) ?_ ?_ ?_ ?_ ?_
    · show xfd (xmkh (xmkh (xmkh (xmkh (xmkh (h) 1 10240 10 (fs)) 1 1024 11 ((fs).set 10 (.ref (h).length))) 0 1024 12 (((fs).set 10 (.ref (h).length)).set 11 (.ref (xmkh (h) 1 10240 10 (fs)).length))) 0 1024 13 ((((fs).set 10 (.ref (h).length)).set 11 (.ref (xmkh (h) 1 10240 10 (fs)).length)).set 12 (.ref (xmkh (xmkh (h) 1 10240 10 (fs)) 1 1024 11 ((fs).set 10 (.ref (h).length))).length))) 1 91 14 (((((fs).set 10 (.ref (h).length)).set 11 (.ref (xmkh (h) 1 10240 10 (fs)).length)).set 12 (.ref (xmkh (xmkh (h) 1 10240 10 (fs)) 1 1024 11 ((fs).set 10 (.ref (h).length))).length)).set 13 (.ref (xmkh (xmkh (xmkh (h) 1 10240 10 (fs)) 1 1024 11 ((fs).set 10 (.ref (h).length))) 0 1024 12 (((fs).set 10 (.ref (h).length)).set 11 (.ref (xmkh (h) 1 10240 10 (fs)).length))).length))) 36 f ≠ _
      rw [hf5]
      rcases (show f = 11 ∨ f = 12 ∨ f = 13 ∨ f = 14 by omega) with rfl | rfl | rfl | rfl
      · rw [r1]; simp
      · rw [r2]; simp
      · rw [r3]; simp
      · rw [r4]; simp
    · show xW (xmkh (xmkh (xmkh (xmkh (xmkh (h) 1 10240 10 (fs)) 1 1024 11 ((fs).set 10 (.ref (h).length))) 0 1024 12 (((fs).set 10 (.ref (h).length)).set 11 (.ref (xmkh (h) 1 10240 10 (fs)).length))) 0 1024 13 ((((fs).set 10 (.ref (h).length)).set 11 (.ref (xmkh (h) 1 10240 10 (fs)).length)).set 12 (.ref (xmkh (xmkh (h) 1 10240 10 (fs)) 1 1024 11 ((fs).set 10 (.ref (h).length))).length))) 1 91 14 (((((fs).set 10 (.ref (h).length)).set 11 (.ref (xmkh (h) 1 10240 10 (fs)).length)).set 12 (.ref (xmkh (xmkh (h) 1 10240 10 (fs)) 1 1024 11 ((fs).set 10 (.ref (h).length))).length)).set 13 (.ref (xmkh (xmkh (xmkh (h) 1 10240 10 (fs)) 1 1024 11 ((fs).set 10 (.ref (h).length))) 0 1024 12 (((fs).set 10 (.ref (h).length)).set 11 (.ref (xmkh (h) 1 10240 10 (fs)).length))).length))) ≤ xW h
      have w1 : xfd h 36 10 = some .null := by rw [hfd]; exact f10
      have w2 : xfd (xmkh (xmkh (xmkh (xmkh (xmkh (h) 1 10240 10 (fs)) 1 1024 11 ((fs).set 10 (.ref (h).length))) 0 1024 12 (((fs).set 10 (.ref (h).length)).set 11 (.ref (xmkh (h) 1 10240 10 (fs)).length))) 0 1024 13 ((((fs).set 10 (.ref (h).length)).set 11 (.ref (xmkh (h) 1 10240 10 (fs)).length)).set 12 (.ref (xmkh (xmkh (h) 1 10240 10 (fs)) 1 1024 11 ((fs).set 10 (.ref (h).length))).length))) 1 91 14 (((((fs).set 10 (.ref (h).length)).set 11 (.ref (xmkh (h) 1 10240 10 (fs)).length)).set 12 (.ref (xmkh (xmkh (h) 1 10240 10 (fs)) 1 1024 11 ((fs).set 10 (.ref (h).length))).length)).set 13 (.ref (xmkh (xmkh (xmkh (h) 1 10240 10 (fs)) 1 1024 11 ((fs).set 10 (.ref (h).length))) 0 1024 12 (((fs).set 10 (.ref (h).length)).set 11 (.ref (xmkh (h) 1 10240 10 (fs)).length))).length))) 36 10 ≠ some .null := by rw [hf5, r0]; simp
      unfold xW
      rw [if_pos w1, if_neg w2, Z4, Z3, Z2, Z1, Z0, L4, L3, L2, L1, L0]
      omega
    · rw [hlh]
      simp only [List.append_assoc, List.cons_append, List.nil_append]
      rw [List.getElem?_append_right (by omega), show τ.length - τ.length = 0 by omega]
      rfl
    · rw [L0, hlh]
      simp only [List.append_assoc, List.cons_append, List.nil_append]
      rw [List.getElem?_append_right (by omega), show τ.length + 1 - τ.length = 1 by omega]
      rfl
    · rw [L1, L0, hlh]
      simp only [List.append_assoc, List.cons_append, List.nil_append]
      rw [List.getElem?_append_right (by omega), show τ.length + 1 + 1 - τ.length = 2 by omega]
      rfl
    · rw [L2, L1, L0, hlh]
      simp only [List.append_assoc, List.cons_append, List.nil_append]
      rw [List.getElem?_append_right (by omega), show τ.length + 1 + 1 + 1 - τ.length = 3 by omega]
      rfl
    · rw [L3, L2, L1, L0, hlh]
      simp only [List.append_assoc, List.cons_append, List.nil_append]
      rw [List.getElem?_append_right (by omega), show τ.length + 1 + 1 + 1 + 1 - τ.length = 4 by omega]
      rfl
  · refine zy_h (mr := zm_m97) rfl rfl (zh_get hh f10) ?_
    refine zy_b (mr := zm_m97) rfl rfl rfl ?_
    refine zy_r (mr := zm_m97) rfl rfl rfl ?_
    have hnn : ∀ f, 11 ≤ f → f ≤ 14 → fs[f]? ≠ some .null := fun f a b => by
      rw [← hfd]
      exact sl _ f (by rw [hfd]; exact f10) (by simp) a b
    obtain ⟨b1, f11, t1⟩ := d11.resolve_left (hnn 11 (by omega) (by omega))
    obtain ⟨b2, f12, t2⟩ := d12.resolve_left (hnn 12 (by omega) (by omega))
    obtain ⟨b3, f13, t3⟩ := d13.resolve_left (hnn 13 (by omega) (by omega))
    obtain ⟨b4, f14, t4⟩ := d14.resolve_left (hnn 14 (by omega) (by omega))
    exact xroom_end hH ⟨s0, sx1, sx2, sx3, sp, sl⟩ (xF_refl _ _ _) (Nat.le_refl _) (by rw [hfd]; exact f10) (by rw [hfd]; exact f11) (by rw [hfd]; exact f12) (by rw [hfd]; exact f13) (by rw [hfd]; exact f14) t0 t1 t2 t3 t4
end XRV
end
section
/-! By hand: a new OPENING -/
section XOP
variable {h : zm_H} {og : Nat → Option zm_C}
theorem zs_set2 {a : Nat} {x y : zm_C} : (h.set a x).set a y = h.set a y := List.set_set ..
def xob (b : Int32) : Int32 := if b = 0 then 0 else 1
theorem zh_oin {d N : Nat} {r k f p b l : Int32} {v0 v1 v2 v3 v4 v5 v6 v7 : Value} (hh : h[N]? = some (.inr (5, [v0, v1, v2, v3, v4, v5, v6, v7]))) : zm_Y og d 24 0 [(0, .ref N), (1, .int r), (2, .int k), (3, .int f), (4, .int p), (5, .int b), (6, .int l)] [] h (fun q h' => q = none ∧ h' = h.set N (.inr (5, [.int r, .int k, .int f, .int p, .int (xob b), .int (xob l), .int 0, .int (-1)]))) := by
  have key : ∀ {g : zm_H} {ws : List Value}, g = h.set N (.inr (5, ws)) → g[N]? = some (.inr (5, ws)) := fun e => by rw [e]; exact zs_eq hh
  refine zy_n 1 (mr := zm_m24) rfl rfl ?_
  refine zy_h (mr := zm_m24) rfl rfl zh_oinit ?_
  refine zy_n 2 (mr := zm_m24) rfl rfl ?_
  refine zy_h (mr := zm_m24) rfl rfl (zh_put hh rfl rfl) ?_
  refine zy_n 2 (mr := zm_m24) rfl rfl ?_
  refine zy_h (mr := zm_m24) rfl rfl (zh_put (zs_eq hh) rfl rfl) ?_
  rw [zs_set2]
  refine zy_n 2 (mr := zm_m24) rfl rfl ?_
  refine zy_h (mr := zm_m24) rfl rfl (zh_put (zs_eq hh) rfl rfl) ?_
  rw [zs_set2]
  refine zy_n 2 (mr := zm_m24) rfl rfl ?_
  refine zy_h (mr := zm_m24) rfl rfl (zh_put (zs_eq hh) rfl rfl) ?_
  rw [zs_set2]
  refine zy_n 2 (mr := zm_m24) rfl rfl ?_
  refine zy_h (mr := zm_m24) rfl rfl (zh_put (zs_eq hh) rfl rfl) ?_
  rw [zs_set2]
  refine zy_n 2 (mr := zm_m24) rfl rfl ?_
  refine zy_h (mr := zm_m24) rfl rfl (zh_put (zs_eq hh) rfl rfl) ?_
  rw [zs_set2]
  have tail : ∀ (u : Int32), zm_Y og d 24 49 [(0, .ref N), (1, .int r), (2, .int k), (3, .int f), (4, .int p), (5, .int b), (6, .int l)] [] (h.set N (.inr (5, [.int r, .int k, .int f, .int p, .int u, v5, .int 0, .int (-1)]))) (fun q h' => q = none ∧ h' = h.set N (.inr (5, [.int r, .int k, .int f, .int p, .int u, .int (xob l), .int 0, .int (-1)]))) := by
    intro u
    refine zy_n 2 (mr := zm_m24) rfl rfl ?_
    refine zy_b (mr := zm_m24) rfl rfl rfl ?_
    refine zi_eq (fun h0 => ?_) (fun h0 => ?_)
    · refine zy_n 1 (mr := zm_m24) rfl rfl ?_
      refine zy_h (mr := zm_m24) rfl rfl (zh_put (zs_eq hh) rfl rfl) ?_
      rw [zs_set2]
      refine zy_r (mr := zm_m24) rfl rfl rfl ⟨rfl, ?_⟩
      unfold xob
      rw [if_pos h0]
      rfl
    · refine zy_n 2 (mr := zm_m24) rfl rfl ?_
      refine zy_h (mr := zm_m24) rfl rfl (zh_put (zs_eq hh) rfl rfl) ?_
      rw [zs_set2]
      refine zy_r (mr := zm_m24) rfl rfl rfl ⟨rfl, ?_⟩
      unfold xob
      rw [if_neg h0]
      rfl
  refine zy_n 2 (mr := zm_m24) rfl rfl ?_
  refine zy_b (mr := zm_m24) rfl rfl rfl ?_
  refine zi_eq (fun h0 => ?_) (fun h0 => ?_)
  · refine zy_n 1 (mr := zm_m24) rfl rfl ?_
    refine zy_h (mr := zm_m24) rfl rfl (zh_put (zs_eq hh) rfl rfl) ?_
    rw [zs_set2]
    have e : xob b = 0 := if_pos h0
    rw [e]
    exact tail 0
  · refine zy_n 2 (mr := zm_m24) rfl rfl ?_
    refine zy_h (mr := zm_m24) rfl rfl (zh_put (zs_eq hh) rfl rfl) ?_
    rw [zs_set2]
    have e : xob b = 1 := if_neg h0
    rw [e]
    exact tail 1
end XOP
end
section
/-! By hand: addOpening -/
section XAO
variable {τ : List Nat} {h : zm_H} {og : Nat → Option zm_C}
theorem xHI_appo {kd ci : Nat} {sps : List (List xA)} {ws : List Value} (hH : xHI xKT xSG τ h) (hk : xKT kd = some (.inl (ci, sps))) (hl : ws.length = sps.length) (hw : ∀ (f : Nat) (sp : List xA) (v : Value), sps[f]? = some sp → ws[f]? = some v → ∃ a ∈ sp, xsat (τ ++ [kd]) a v) : xHI xKT xSG (τ ++ [kd]) (h ++ [.inr (ci, ws)]) := by
  have hlen := hH.1
  refine ⟨by simp [hlen], fun b kb hb => ?_, fun b hb => xgl (hH.2.2 b hb)⟩
  by_cases hlt : b < τ.length
  · rw [List.getElem?_append_left hlt] at hb
    obtain ⟨D', c', k1, k2, k3⟩ := hH.2.1 b kb hb
    refine ⟨D', c', k1, ?_, xcf_mono k3⟩
    rw [List.getElem?_append_left (List.getElem?_eq_some_iff.mp k2).1]
    exact k2
  · have hl2 := (List.getElem?_eq_some_iff.mp hb).1
    rw [List.length_append, List.length_singleton] at hl2
    have e : b = τ.length := by omega
    subst e
    have hb : kd = kb := by simpa using hb
    subst hb
    exact ⟨_, _, hk, by rw [← hlen]; simp, ws, rfl, hl, hw⟩
theorem xob_01 (b : Int32) : 0 ≤ (xob b).toInt ∧ (xob b).toInt ≤ 1 := by
  unfold xob
  by_cases h : b = 0
  · rw [if_pos h]; decide
  · rw [if_neg h]; decide
/-- the heap behind it -/
def xaoh (h : zm_H) (A B : Nat) (fs ws : List Value) (o : Int32) (f : Nat → Option Nat) : zm_H := ((h ++ [Sum.inr (5, ws)]).set A (Sum.inr (2, fs.set 7 (.int (o + 1))))).set B (Sum.inl (6, 10, .inr (.inr (va_up f o.toNatClampNeg (some h.length)))))
theorem xao_end {A B : Nat} {fs ws : List Value} {o : Int32} {f : Nat → Option Nat} {k fl p b l r : Int32} (hH : xHI xKT xSG τ h) (hX : xX τ h) (hA : τ[A]? = some 207) (hB : τ[B]? = some 209) (hhA : h[A]? = some (.inr (2, fs))) (f8 : fs[8]? = some (.ref B)) (f7 : fs[7]? = some (.int o)) (hhB : h[B]? = some (.inl (6, 10, .inr (.inr f)))) (o0 : 0 ≤ o.toInt) (o9 : o.toInt ≤ 9) (hws : ws = [.int r, .int k, .int fl, .int p, .int b, .int l, .int 0, .int (-1)]) (k0 : 0 ≤ k.toInt ∧ k.toInt ≤ 3) (l0 : 0 ≤ fl.toInt ∧ fl.toInt ≤ 5) (b0 : 0 ≤ b.toInt ∧ b.toInt ≤ 1) (c0 : 0 ≤ l.toInt ∧ l.toInt ≤ 1) : xHI xKT xSG (τ ++ [210]) (xaoh h A B fs ws o f) ∧ xX (τ ++ [210]) (xaoh h A B fs ws o f) ∧ xF (xms [(207, 7), (209, 0)]) τ h (τ ++ [210]) (xaoh h A B fs ws o f) ∧ xW (xaoh h A B fs ws o f) ≤ xW h + 30 := by
  obtain ⟨s0, sx1, sx2, sx3, sp, sl⟩ := hX
  have hlen := hH.1
  have hAl : A < h.length := (List.getElem?_eq_some_iff.mp hhA).1
  have hBl : B < h.length := (List.getElem?_eq_some_iff.mp hhB).1
  have hAB : A ≠ B := fun e => by rw [e, hB] at hA; cases hA
  obtain ⟨fs', q1, q2, q3⟩ := xcf_o hH hA (show xKT 207 = some (.inl (2, _)) from rfl)
  rw [hhA] at q1
  cases q1
  have hfl : fs.length = 11 := q2
  obtain ⟨hin, hjn, hjlt⟩ := xin_ok (j := o) (n := 10) o0 (by omega)
  have o1 : (o + 1).toInt = o.toInt + 1 := by
    rw [Int32.toInt_add]
    have e1 : xI32a = -2147483648 := rfl
    have e2 : xI32b = 2147483647 := rfl
    exact xb_bm32 (by show xI32a ≤ o.toInt + 1; omega) (by show o.toInt + 1 ≤ xI32b; omega)
  have hH1 : xHI xKT xSG (τ ++ [210]) (h ++ [.inr (5, ws)]) := by
    refine xHI_appo hH (show xKT 210 = some (.inl (5, _)) from rfl) (by rw [hws]; rfl) (fun g sp' v' c1 c2 => ?_)
    rw [hws] at c2
    have hlt : g < 8 := by
      have := (List.getElem?_eq_some_iff.mp c2).1
      simpa using this
    rcases (show g = 0 ∨ g = 1 ∨ g = 2 ∨ g = 3 ∨ g = 4 ∨ g = 5 ∨ g = 6 ∨ g = 7 by omega) with rfl | rfl | rfl | rfl | rfl | rfl | rfl | rfl
    · cases c1; cases c2; exact ⟨_, List.mem_cons_self, r, rfl, (xb_rng r).1, (xb_rng r).2⟩
    · cases c1; cases c2; exact ⟨_, List.mem_cons_self, k, rfl, k0.1, k0.2⟩
    · cases c1; cases c2; exact ⟨_, List.mem_cons_self, fl, rfl, l0.1, l0.2⟩
    · cases c1; cases c2; exact ⟨_, List.mem_cons_self, p, rfl, (xb_rng p).1, (xb_rng p).2⟩
    · cases c1; cases c2; exact ⟨_, List.mem_cons_self, b, rfl, b0.1, b0.2⟩
    · cases c1; cases c2; exact ⟨_, List.mem_cons_self, l, rfl, c0.1, c0.2⟩
    · cases c1; cases c2; exact ⟨_, List.mem_cons_self, 0, rfl, by decide, by decide⟩
    · cases c1; cases c2; exact ⟨_, List.mem_cons_self, -1, rfl, by decide, by decide⟩
  have hA1 : (h ++ [.inr (5, ws)])[A]? = some (.inr (2, fs)) := zs_app hhA
  have hB1 : (h ++ [.inr (5, ws)])[B]? = some (.inl (6, 10, .inr (.inr f))) := zs_app hhB
  have hH2 := xHI_set (c := .inr (2, fs.set 7 (.int (o + 1)))) hH1 hA1 (xgl hA) (show xKT 207 = some (.inl (2, _)) from rfl) ⟨fs.set 7 (.int (o + 1)), rfl, by rw [List.length_set]; exact hfl, fun g sp' v' c1 c2 => by
    by_cases e : 7 = g
    · subst e
      rw [List.getElem?_set_self (by omega)] at c2
      cases c2
      cases c1
      exact ⟨_, List.mem_cons_self, o + 1, rfl, by show (0 : Int) ≤ _; omega, by show _ ≤ (10 : Int); omega⟩
    · rw [List.getElem?_set_ne e] at c2
      obtain ⟨x, x1, x2⟩ := q3 g sp' v' c1 c2
      exact ⟨x, x1, xsat_mono x2⟩⟩
  have hB2 := zs_ne (x := .inr (2, fs.set 7 (.int (o + 1)))) hB1 hAB
  obtain ⟨kB, u1, u2, u3⟩ := xcf_a hH1 (xgl hB) (show xKT 209 = some (.inr (6, 10, _)) from rfl)
  rw [hB1] at u1
  cases u1
  have hH3 := xHI_set (c := .inl (6, 10, .inr (.inr (va_up f o.toNatClampNeg (some h.length))))) hH2 hB2 (xgl hB) (show xKT 209 = some (.inr (6, 10, _)) from rfl) ⟨_, rfl, ⟨_, rfl⟩, fun j hj => by
    by_cases e : j = o.toNatClampNeg
    · have ev : zm_kv (.inr (.inr (va_up f o.toNatClampNeg (some h.length)))) j = .ref h.length := by
        show va_rf (if j = _ then _ else _) = _
        rw [if_pos e]
        rfl
      refine ⟨((4, 210, 0, 0), .ofNat 0, .ofNat 9, 0, 0), List.mem_cons_of_mem _ List.mem_cons_self, ?_, by show (0 : Int) ≤ _; omega, by show _ ≤ (9 : Int); have hj : j < 10 := hj; omega, Or.inl rfl⟩
      rw [ev]
      exact ⟨h.length, rfl, by rw [hlen]; simp⟩
    · obtain ⟨x, x1, x2, x3⟩ := u3 j hj
      have ev : zm_kv (.inr (.inr (va_up f o.toNatClampNeg (some h.length)))) j = zm_kv (.inr (.inr f)) j := by
        show va_rf (if j = _ then _ else _) = _
        rw [if_neg e]
        rfl
      exact ⟨x, x1, by rw [ev]; exact x2, x3⟩⟩
  have hget : ∀ q, (xaoh h A B fs ws o f)[q]? = if B = q then some (.inl (6, 10, .inr (.inr (va_up f o.toNatClampNeg (some h.length))))) else if A = q then some (.inr (2, fs.set 7 (.int (o + 1)))) else (h ++ [.inr (5, ws)])[q]? := by
    intro q
    unfold xaoh
    rw [xgs hB2, xgs hA1]
  have hold : ∀ q c, h[q]? = some c → q ≠ A → q ≠ B → (xaoh h A B fs ws o f)[q]? = some c := by
    intro q c hq n1 n2
    rw [hget, if_neg (fun e => n2 e.symm), if_neg (fun e => n1 e.symm)]
    exact zs_app hq
  have hfd : ∀ q g v, xfd (xaoh h A B fs ws o f) q g = some v → q < h.length → (q ≠ A ∨ g ≠ 7) → xfd h q g = some v := by
    intro q g v hv hq hne
    unfold xfd at hv ⊢
    rw [hget] at hv
    by_cases e1 : B = q
    · rw [if_pos e1] at hv; cases hv
    · rw [if_neg e1] at hv
      by_cases e2 : A = q
      · rw [if_pos e2] at hv
        subst e2
        rw [hhA]
        have hg : g ≠ 7 := hne.resolve_left (fun e => e rfl)
        have hv : (fs.set 7 (.int (o + 1)))[g]? = some v := hv
        rw [List.getElem?_set_ne (fun e => hg e.symm)] at hv
        exact hv
      · rw [if_neg e2, List.getElem?_append_left hq] at hv
        exact hv
  have hfd2 : ∀ q g v, xfd h q g = some v → (q ≠ A ∨ g ≠ 7) → xfd (xaoh h A B fs ws o f) q g = some v := by
    intro q g v hv hne
    unfold xfd at hv ⊢
    split at hv
    · rename_i oo ho
      have hqB : q ≠ B := fun e => by rw [e, hhB] at ho; cases ho
      by_cases e2 : q = A
      · subst e2
        rw [hhA] at ho
        cases ho
        rw [hget, if_neg (fun e => hqB e.symm), if_pos rfl]
        have hg : g ≠ 7 := hne.resolve_left (fun e => e rfl)
        show (fs.set 7 _)[g]? = _
        rw [List.getElem?_set_ne (fun e => hg e.symm)]
        exact hv
      · rw [hold q _ ho e2 hqB]
        exact hv
    · cases hv
  have hlt : ∀ q kq, (τ ++ [210])[q]? = some kq → kq ≠ 210 → q < h.length ∧ τ[q]? = some kq := by
    intro q kq hq hk
    by_cases hl2 : q < τ.length
    · rw [List.getElem?_append_left hl2] at hq
      exact ⟨by omega, hq⟩
    · have hl3 := (List.getElem?_eq_some_iff.mp hq).1
      rw [List.length_append, List.length_singleton] at hl3
      have e : q = τ.length := by omega
      subst e
      have hq : 210 = kq := by simpa using hq
      exact absurd hq.symm hk
  have px : ∀ {ak ok fa fc : Nat}, xPX ak ok fa fc τ h → ok ≠ 207 → ok ≠ 210 → ak ≠ 209 → ak ≠ 210 → xPX ak ok fa fc (τ ++ [210]) (xaoh h A B fs ws o f) := by
    intro ak ok fa fc hx n1 n2 n3 n4 a' b' t n i c g k1 k2 k3 k4 k5 k6 k7
    obtain ⟨la, ta⟩ := hlt a' ok k1 n2
    obtain ⟨lb, tb⟩ := hlt b' ak k2 n4
    have haA : a' ≠ A := fun e => by rw [e, hA] at ta; cases ta; exact n1 rfl
    have hbB : b' ≠ B := fun e => by rw [e, hB] at tb; cases tb; exact n3 rfl
    have k3 := hfd a' fa _ k3 la (Or.inl haA)
    have k4 := hfd a' fc _ k4 la (Or.inl haA)
    rw [hget, if_neg (fun e => hbB e.symm)] at k5
    by_cases e : A = b'
    · rw [if_pos e] at k5; cases k5
    · rw [if_neg e, List.getElem?_append_left lb] at k5
      exact hx a' b' t n i c g ta tb k3 k4 k5 k6 k7
  refine ⟨hH3, ⟨fun a ha => xgl (s0 a ha), px sx1 (by decide) (by decide) (by decide) (by decide), px sx2 (by decide) (by decide) (by decide) (by decide), ?_, ?_, ?_⟩, ⟨⟨[210], rfl⟩, ?_, ?_⟩, ?_⟩
  · intro a' b' t n i c g k1 k2 k3 k4 k5 k6 k7
    obtain ⟨la, ta⟩ := hlt a' 207 k1 (by decide)
    obtain ⟨lb, tb⟩ := hlt b' 209 k2 (by decide)
    have m3 := hfd a' 8 _ k3 la (Or.inr (by decide))
    clear k3
    have hcnt : ∃ c' : Int32, xfd h a' 7 = some (.int c') ∧ ((i : Int) < c'.toInt ∨ (b' = B ∧ i = o.toNatClampNeg)) := by
      by_cases e : a' = A
      · subst e
        have e7 : xfd (xaoh h a' B fs ws o f) a' 7 = some (.int (o + 1)) := by
          unfold xfd
          rw [hget, if_neg (fun e => hAB e.symm), if_pos rfl]
          exact List.getElem?_set_self (by omega)
        rw [e7] at k4
        cases k4
        have e8 : xfd h a' 8 = some (.ref B) := by simp only [xfd, hhA]; exact f8
        rw [e8] at m3
        cases m3
        refine ⟨o, by simp only [xfd, hhA]; exact f7, ?_⟩
        by_cases ei : (i : Int) < o.toInt
        · exact Or.inl ei
        · right
          exact ⟨rfl, by omega⟩
      · exact ⟨c, hfd a' 7 _ k4 la (Or.inl e), Or.inl k6⟩
    obtain ⟨c', h7, hor⟩ := hcnt
    rw [hget] at k5
    by_cases eB : B = b'
    · rw [if_pos eB] at k5
      cases k5
      show (if i = o.toNatClampNeg then some h.length else f i) ≠ none
      by_cases ei : i = o.toNatClampNeg
      · rw [if_pos ei]; simp
      · rw [if_neg ei]
        subst eB
        exact sx3 a' B 6 10 i c' f ta tb m3 h7 hhB (hor.resolve_right (fun e => ei e.2)) k7
    · rw [if_neg eB] at k5
      by_cases e : A = b'
      · rw [if_pos e] at k5; cases k5
      · rw [if_neg e, List.getElem?_append_left lb] at k5
        exact sx3 a' b' t n i c' g ta tb m3 h7 k5 (hor.resolve_right (fun e => eB e.1.symm)) k7
  · intro n m j g1 g2 k1 k2 k3
    have l4 : 4 ≠ A := fun e => by rw [← e, s0 4 rfl] at hA; cases hA
    have l4b : 4 ≠ B := fun e => by rw [← e, s0 4 rfl] at hB; cases hB
    have l6 : 6 ≠ A := fun e => by rw [← e, s0 6 rfl] at hA; cases hA
    have l6b : 6 ≠ B := fun e => by rw [← e, s0 6 rfl] at hB; cases hB
    have m4 : 4 < h.length := by have := (List.getElem?_eq_some_iff.mp (s0 4 rfl)).1; omega
    have m6 : 6 < h.length := by have := (List.getElem?_eq_some_iff.mp (s0 6 rfl)).1; omega
    rw [hget, if_neg (fun e => l4b e.symm), if_neg (fun e => l4 e.symm), List.getElem?_append_left m4] at k1
    rw [hget, if_neg (fun e => l6b e.symm), if_neg (fun e => l6 e.symm), List.getElem?_append_left m6] at k2
    exact sp n m j g1 g2 k1 k2 k3
  · intro v g c1 c2 c3 c4 c5
    have l36 : 36 ≠ A := fun e => by rw [← e, s0 36 rfl] at hA; cases hA
    have m36 : 36 < h.length := by have := (List.getElem?_eq_some_iff.mp (s0 36 rfl)).1; omega
    exact sl v g (hfd 36 10 _ c1 m36 (Or.inl l36)) c2 c3 c4 (hfd 36 g _ c5 m36 (Or.inl l36))
  · intro a kd g v ha hm hv
    refine hfd2 a g v hv ?_
    by_cases e : a = A
    · right
      rintro rfl
      subst e
      rw [hA] at ha
      cases ha
      cases hm
    · exact Or.inl e
  · intro a kd cc ha hm hv
    have hnB : a ≠ B := fun e => by
      subst e
      rw [hB] at ha
      cases ha
      cases hm
    have hnA : a ≠ A := fun e => by rw [e, hhA] at hv; cases hv
    exact hold a _ hv hnA hnB
  · have w1 := zm_set_sz (c2 := .inl (6, 10, .inr (.inr (va_up f o.toNatClampNeg (some h.length))))) hB2 rfl
    have w2 := zm_set_sz (c2 := .inr (2, fs.set 7 (.int (o + 1)))) hA1 (by show (fs.set 7 _).length = fs.length; rw [List.length_set])
    have l36 : 36 ≠ A := fun e => by rw [← e, s0 36 rfl] at hA; cases hA
    have hsz : zm_szs (xaoh h A B fs ws o f) = zm_szs h + 8 := by
      unfold xaoh
      rw [w1.2, w2.2, zm_szs_app, hws]
      rfl
    have hln : (xaoh h A B fs ws o f).length = h.length + 1 := by
      unfold xaoh
      rw [w1.1, w2.1, List.length_append, List.length_singleton]
    have m36 : 36 < h.length := by have := (List.getElem?_eq_some_iff.mp (s0 36 rfl)).1; omega
    unfold xW
    rw [hsz, hln]
    by_cases e : xfd (xaoh h A B fs ws o f) 36 10 = some .null
    · rw [if_pos e, if_pos (hfd 36 10 _ e m36 (Or.inl l36))]
      omega
    · rw [if_neg e]
      omega
end XAO
end
section
/-! By hand: addOpening, the walk -/
section XAV
variable {τ : List Nat} {h : zm_H} {og : Nat → Option zm_C}
def xaoQ (τ : List Nat) (h : zm_H) (r : Option Value) (h' : zm_H) : Prop := r = none ∧ ∃ τ', xHI xKT xSG τ' h' ∧ xX τ' h' ∧ xF (xms [(207, 7), (209, 0)]) τ h τ' h' ∧ xW h' ≤ xW h + 30
theorem xset_last {x y : zm_C} : (h ++ [x]).set h.length y = h ++ [y] := by
  rw [List.set_append_right _ _ (Nat.le_refl _), Nat.sub_self]
  rfl
theorem xao_eq {A B : Nat} {fs ws : List Value} {o : Int32} {f : Nat → Option Nat} {c : zm_C} (hA : A < h.length) : (((h.set A (.inr (2, fs.set 7 (.int (o + 1)))) ++ [c]).set h.length (.inr (5, ws))).set B (Sum.inl (6, 10, .inr (.inr (va_up f o.toNatClampNeg (some h.length)))))) = xaoh h A B fs ws o f := by
  have e : h.length = (h.set A (.inr (2, fs.set 7 (.int (o + 1))))).length := by rw [List.length_set]
  unfold xaoh
  congr 1
  rw [show (h.set A (.inr (2, fs.set 7 (.int (o + 1)))) ++ [c]).set h.length (.inr (5, ws)) = h.set A (.inr (2, fs.set 7 (.int (o + 1)))) ++ [.inr (5, ws)] from by
    conv => lhs; rw [e]
    exact xset_last]
  rw [List.set_append_left _ _ hA]
theorem zh_ao84 {A B d : Nat} {fs : List Value} {o r p l s k fl td b : Int32} {f : Nat → Option Nat} (hH : xHI xKT xSG τ h) (hX : xX τ h) (hA : τ[A]? = some 207) (hB : τ[B]? = some 209) (hhA : h[A]? = some (.inr (2, fs))) (f8 : fs[8]? = some (.ref B)) (f7 : fs[7]? = some (.int o)) (hhB : h[B]? = some (.inl (6, 10, .inr (.inr f)))) (o0 : 0 ≤ o.toInt) (o9 : o.toInt ≤ 9) (k0 : 0 ≤ k.toInt ∧ k.toInt ≤ 3) (l0 : 0 ≤ fl.toInt ∧ fl.toInt ≤ 5) : zm_Y og (d + 1) 23 84 [(6, .int p), (5, .int l), (4, .int s), (0, .ref A), (1, .int k), (2, .int fl), (3, .int td)] [.int l, .int b, .int p, .int fl, .int k, .int r, .ref h.length, .ref h.length, .int o, .ref B] (h.set A (Sum.inr (2, fs.set 7 (.int (o + 1)))) ++ [Sum.inr (5, zm_df 5)]) (xaoQ τ h) := by
  have hAl : A < h.length := (List.getElem?_eq_some_iff.mp hhA).1
  have hBl : B < h.length := (List.getElem?_eq_some_iff.mp hhB).1
  have hAB : A ≠ B := fun e => by rw [e, hB] at hA; cases hA
  have hnew : (h.set A (Sum.inr (2, fs.set 7 (.int (o + 1)))) ++ [Sum.inr (5, zm_df 5)])[h.length]? = some (.inr (5, zm_df 5)) := by
    rw [List.getElem?_append_right (by rw [List.length_set]; exact Nat.le_refl _), List.length_set, Nat.sub_self]
    rfl
  refine zy_c (mr := zm_m23) (mc := zm_m24) rfl rfl rfl rfl rfl ?_
  refine (zh_oin (r := r) (k := k) (f := fl) (p := p) (b := b) (l := l) hnew).mono (fun q h' hq => ?_)
  obtain ⟨rfl, rfl⟩ := hq
  have hB3 : (((h.set A (Sum.inr (2, fs.set 7 (.int (o + 1)))) ++ [Sum.inr (5, zm_df 5)] : zm_H)).set h.length (Sum.inr (5, [.int r, .int k, .int fl, .int p, .int (xob b), .int (xob l), .int 0, .int (-1)])))[B]? = some (.inl (6, 10, .inr (.inr f))) := zs_ne (zs_app (zs_ne hhB hAB)) (by omega)
  have hN3 := zs_eq (x := .inr (5, [.int r, .int k, .int fl, .int p, .int (xob b), .int (xob l), .int 0, .int (-1)])) hnew
  obtain ⟨hin, hjn, hjlt⟩ := xin_ok (j := o) (n := 10) o0 (by omega)
  refine zy_h (mr := zm_m23) rfl rfl (zh_aast hB3 hN3 rfl hin) ?_
  refine zy_r (mr := zm_m23) rfl rfl rfl ?_
  refine ⟨rfl, τ ++ [210], ?_⟩
  show xHI xKT xSG (τ ++ [210]) (((h.set A (Sum.inr (2, fs.set 7 (.int (o + 1)))) ++ [Sum.inr (5, zm_df 5)]).set h.length (Sum.inr (5, [.int r, .int k, .int fl, .int p, .int (xob b), .int (xob l), .int 0, .int (-1)]))).set B (Sum.inl (6, 10, .inr (.inr (va_up f o.toNatClampNeg (some h.length)))))) ∧ xX (τ ++ [210]) (((h.set A (Sum.inr (2, fs.set 7 (.int (o + 1)))) ++ [Sum.inr (5, zm_df 5)]).set h.length (Sum.inr (5, [.int r, .int k, .int fl, .int p, .int (xob b), .int (xob l), .int 0, .int (-1)]))).set B (Sum.inl (6, 10, .inr (.inr (va_up f o.toNatClampNeg (some h.length)))))) ∧ xF (xms [(207, 7), (209, 0)]) τ h (τ ++ [210]) (((h.set A (Sum.inr (2, fs.set 7 (.int (o + 1)))) ++ [Sum.inr (5, zm_df 5)]).set h.length (Sum.inr (5, [.int r, .int k, .int fl, .int p, .int (xob b), .int (xob l), .int 0, .int (-1)]))).set B (Sum.inl (6, 10, .inr (.inr (va_up f o.toNatClampNeg (some h.length)))))) ∧ xW (((h.set A (Sum.inr (2, fs.set 7 (.int (o + 1)))) ++ [Sum.inr (5, zm_df 5)]).set h.length (Sum.inr (5, [.int r, .int k, .int fl, .int p, .int (xob b), .int (xob l), .int 0, .int (-1)]))).set B (Sum.inl (6, 10, .inr (.inr (va_up f o.toNatClampNeg (some h.length)))))) ≤ xW h + 30
  rw [xao_eq hAl]
  exact xao_end hH hX hA hB hhA f8 f7 hhB o0 o9 rfl k0 l0 (xob_01 b) (xob_01 l)
theorem zh_ao37 {A d : Nat} {p l s k fl td : Int32} (hH : xHI xKT xSG τ h) (hX : xX τ h) (hA : τ[A]? = some 207) (k0 : 0 ≤ k.toInt ∧ k.toInt ≤ 3) (l0 : 0 ≤ fl.toInt ∧ fl.toInt ≤ 5) : zm_Y og (d + 1) 23 37 [(6, .int p), (5, .int l), (4, .int s), (0, .ref A), (1, .int k), (2, .int fl), (3, .int td)] [] h (xaoQ τ h) := by
  obtain ⟨fs, hhA, hl, hsp⟩ := xcf_o hH hA (show xKT 207 = some (.inl (2, _)) from rfl)
  have hhA : h[A]? = some (.inr (2, fs)) := hhA
  have hfl : fs.length = 11 := hl
  have g7 : fs[7]? = some fs[7] := List.getElem?_eq_getElem (by omega)
  have g8 : fs[8]? = some fs[8] := List.getElem?_eq_getElem (by omega)
  have g5 : fs[5]? = some fs[5] := List.getElem?_eq_getElem (by omega)
  obtain ⟨a7, m7, s7⟩ := hsp 7 _ _ rfl g7
  have m7 := List.mem_singleton.mp m7
  subst m7
  obtain ⟨o, e7, o0, o10⟩ := s7
  have o0 : 0 ≤ o.toInt := o0
  rw [e7] at g7
  obtain ⟨a8, m8, s8⟩ := hsp 8 _ _ rfl g8
  have m8 := List.mem_singleton.mp m8
  subst m8
  obtain ⟨B, e8, hB⟩ := s8
  rw [e8] at g8
  obtain ⟨a5, m5, s5⟩ := hsp 5 _ _ rfl g5
  have m5 := List.mem_singleton.mp m5
  subst m5
  obtain ⟨r, e5, -, -⟩ := s5
  rw [e5] at g5
  obtain ⟨kB, hhB, b2, -⟩ := xcf_a hH hB (show xKT 209 = some (.inr (6, 10, _)) from rfl)
  obtain ⟨f, rfl⟩ := b2
  have hhB : h[B]? = some (.inl (6, 10, .inr (.inr f))) := hhB
  refine zy_n 1 (mr := zm_m23) rfl rfl ?_
  refine zy_h (mr := zm_m23) rfl rfl (zh_get hhA g7) ?_
  refine zy_n 1 (mr := zm_m23) rfl rfl ?_
  refine zy_b (mr := zm_m23) rfl rfl rfl ?_
  refine zc_ge (fun hc => ?_) (fun hc => ?_)
  · refine zy_r (mr := zm_m23) rfl rfl rfl ⟨rfl, τ, hH, hX, xF_refl _ _ _, Nat.le_add_right _ _⟩
  · have o9 : o.toInt ≤ 9 := by
      have e10 : (10 : Int32).toInt = 10 := rfl
      have : ¬ (10 : Int32).toInt ≤ o.toInt := fun q => hc (Int32.le_iff_toInt_le.mpr q)
      omega
    refine zy_n 1 (mr := zm_m23) rfl rfl ?_
    refine zy_h (mr := zm_m23) rfl rfl (zh_get hhA g8) ?_
    refine zy_n 2 (mr := zm_m23) rfl rfl ?_
    refine zy_h (mr := zm_m23) rfl rfl (zh_get hhA g7) ?_
    refine zy_n 3 (mr := zm_m23) rfl rfl ?_
    refine zy_h (mr := zm_m23) rfl rfl (zh_put hhA (by rw [hfl]; rfl) rfl) ?_
    refine zy_h (mr := zm_m23) rfl rfl (zh_new (n := h.length) (by rw [List.length_set])) ?_
    refine zy_n 2 (mr := zm_m23) rfl rfl ?_
    have hA2 : (h.set A (Sum.inr (2, fs.set 7 (.int (o + 1)))) ++ [Sum.inr (5, zm_df 5)])[A]? = some (.inr (2, fs.set 7 (.int (o + 1)))) := zs_app (zs_eq hhA)
    refine zy_h (mr := zm_m23) rfl rfl (zh_get (v := .int r) hA2 (by rw [List.getElem?_set_ne (by decide)]; exact g5)) ?_
    refine zy_n 4 (mr := zm_m23) rfl rfl ?_
    refine zy_b (mr := zm_m23) rfl rfl rfl ?_
    refine zi_ge (fun h0 => ?_) (fun h0 => ?_)
    · refine zy_n 2 (mr := zm_m23) rfl rfl ?_
      exact zh_ao84 hH hX hA hB hhA g8 g7 hhB o0 o9 k0 l0
    · refine zy_n 3 (mr := zm_m23) rfl rfl ?_
      exact zh_ao84 hH hX hA hB hhA g8 g7 hhB o0 o9 k0 l0
end XAV
end
section
/-! By hand: addOpening, the contract -/
section XAC
variable {og : Nat → Option zm_C}
theorem zh_ao {τ : List Nat} {h : zm_H} {A d : Nat} {k fl td : Int32} (hH : xHI xKT xSG τ h) (hX : xX τ h) (hA : τ[A]? = some 207) (k0 : 0 ≤ k.toInt ∧ k.toInt ≤ 3) (l0 : 0 ≤ fl.toInt ∧ fl.toInt ≤ 5) : zm_Y og (d + 1) 23 0 [(0, .ref A), (1, .int k), (2, .int fl), (3, .int td)] [] h (xaoQ τ h) := by
  refine zy_n 1 (mr := zm_m23) rfl rfl ?_
  refine zy_h (q := ([.int (if 0 ≤ td then td else 0 - td)], h)) (mr := zm_m23) rfl rfl rfl ?_
  generalize (if 0 ≤ td then td else 0 - td) = s
  refine zy_n 3 (mr := zm_m23) rfl rfl ?_
  refine zy_b (mr := zm_m23) rfl rfl rfl ?_
  refine zc_le (fun hc => ?_) (fun hc => ?_)
  · refine zy_n 3 (mr := zm_m23) rfl rfl ?_
    refine zy_b (mr := zm_m23) rfl rfl rfl ?_
    show zm_Y og (d + 1) 23 33 [(5, .int 0), (4, .int s), (0, .ref A), (1, .int k), (2, .int fl), (3, .int td)] [] h (xaoQ τ h)
    refine zy_n 2 (mr := zm_m23) rfl rfl ?_
    exact zh_ao37 hH hX hA k0 l0
  · refine zy_n 4 (mr := zm_m23) rfl rfl ?_
    refine zy_b (mr := zm_m23) rfl rfl rfl ?_
    show zm_Y og (d + 1) 23 25 [(5, .int 1), (4, .int s), (0, .ref A), (1, .int k), (2, .int fl), (3, .int td)] [] h (xaoQ τ h)
    refine zy_n 5 (mr := zm_m23) rfl rfl ?_
    exact zh_ao37 hH hX hA k0 l0
theorem xv_addo : xV xVV xX xW og xc_58 := by
  intro ρ σ τ h lc hH hX hD hl
  have l0 := hl _ List.mem_cons_self
  have l1 := hl _ (List.mem_cons_of_mem _ List.mem_cons_self)
  have l2 := hl _ (List.mem_cons_of_mem _ (List.mem_cons_of_mem _ List.mem_cons_self))
  have l3 := hl _ (List.mem_cons_of_mem _ (List.mem_cons_of_mem _ (List.mem_cons_of_mem _ List.mem_cons_self)))
  obtain ⟨v0, g0, A, hσ, rfl⟩ := l0
  obtain ⟨v1, g1, k, rfl, e1⟩ := l1
  obtain ⟨v2, g2, fl, rfl, e2⟩ := l2
  obtain ⟨v3, g3, td, rfl, e3⟩ := l3
  obtain ⟨A', hσ', hA⟩ := hD.2.1.2 0 207 rfl
  have hσ : σ[0]? = some A := hσ
  rw [hσ] at hσ'
  cases hσ'
  obtain ⟨x0, y0, z0, u0⟩ := hD.1.1.1 _ List.mem_cons_self
  obtain ⟨x1, y1, z1, u1⟩ := hD.1.1.1 _ (List.mem_cons_of_mem _ List.mem_cons_self)
  have q0 : xe ρ (xsym 0) = some x0 := xe_sym y0
  have q1 : xe ρ (xsym 1) = some x1 := xe_sym y1
  have r0 : k.toInt = x0 := by
    have q9 : xe ρ (xsym 0) = some k.toInt := e1
    rw [q0] at q9
    exact (Option.some.inj q9).symm
  have r1 : fl.toInt = x1 := by
    have q9 : xe ρ (xsym 1) = some fl.toInt := e2
    rw [q1] at q9
    exact (Option.some.inj q9).symm
  have z0 : (0 : Int) ≤ x0 := z0
  have u0 : x0 ≤ (3 : Int) := u0
  have z1 : (0 : Int) ≤ x1 := z1
  have u1 : x1 ≤ (5 : Int) := u1
  refine zy_sub [(0, .ref A), (1, .int k), (2, .int fl), (3, .int td)] (by simp) (fun q hq => ?_) ?_
  · simp only [List.mem_cons, List.not_mem_nil, or_false] at hq
    rcases hq with rfl | rfl | rfl | rfl
    · exact g0
    · exact g1
    · exact g2
    · exact g3
  · show zm_Y og (11 + 1) 23 0 _ _ _ _
    refine (zh_ao hH hX hA ⟨by omega, by omega⟩ ⟨by omega, by omega⟩).mono (fun r h' hq => ?_)
    obtain ⟨rfl, τ', k1, k2, k3, k4⟩ := hq
    have hno : ∀ {α : Type} {P : α → Prop}, ∀ q ∈ ([] : List α), P q := fun q hq => by cases hq
    obtain ⟨sx, hsx⟩ := k3.1
    refine ⟨τ', k1, k2, k3, k4, _, List.mem_cons_self, [], [], ?_, trivial⟩
    rw [List.append_nil, List.append_nil]
    refine ⟨⟨⟨hno, hno⟩, hD.1.2⟩, ⟨hD.2.1.1, fun j kd hj => ?_⟩, hno, hno⟩
    obtain ⟨b, c1, c2⟩ := hD.2.1.2 j kd hj
    exact ⟨b, c1, by rw [hsx]; exact xgl c2⟩
end XAC
end
section
/-! By hand: held -/
section XHE
variable {τ : List Nat} {h : zm_H} {og : Nat → Option zm_C}
theorem zh_within {d : Nat} {a lo hi : Int32} : zm_Y og d 10 0 [(0, .int a), (1, .int lo), (2, .int hi)] [] h (fun r h' => h' = h ∧ ∃ b : Int32, r = some (.int b) ∧ (b = 0 ∨ b = 1 ∧ lo ≤ a ∧ a ≤ hi)) := by
  refine zy_n 2 (mr := zm_m10) rfl rfl ?_
  refine zy_b (mr := zm_m10) rfl rfl rfl ?_
  refine zc_lt (fun h1 => ?_) (fun h1 => ?_)
  · refine zy_n 1 (mr := zm_m10) rfl rfl ?_
    exact zy_r (mr := zm_m10) rfl rfl rfl ⟨rfl, 0, rfl, Or.inl rfl⟩
  · refine zy_n 2 (mr := zm_m10) rfl rfl ?_
    refine zy_b (mr := zm_m10) rfl rfl rfl ?_
    refine zc_gt (fun h2 => ?_) (fun h2 => ?_)
    · refine zy_n 1 (mr := zm_m10) rfl rfl ?_
      exact zy_r (mr := zm_m10) rfl rfl rfl ⟨rfl, 0, rfl, Or.inl rfl⟩
    · refine zy_n 2 (mr := zm_m10) rfl rfl ?_
      refine zy_r (mr := zm_m10) rfl rfl rfl ⟨rfl, 1, rfl, Or.inr ⟨rfl, ?_, ?_⟩⟩
      · exact Int32.not_lt.mp h1
      · exact Int32.not_lt.mp h2
theorem zh_full {d : Nat} {c n : Int32} {v : Value} (hh : h[25]? = some (.inr (1, [.int n, .int c, v]))) : zm_Y og d 108 0 [(0, .ref 25)] [] h (fun r h' => h' = h ∧ ∃ b : Int32, r = some (.int b) ∧ (b = 1 ∨ b = 0 ∧ ¬ 60 ≤ c)) := by
  refine zy_n 1 (mr := zm_m108) rfl rfl ?_
  refine zy_h (mr := zm_m108) rfl rfl (zh_get (v := .int c) hh rfl) ?_
  refine zy_n 1 (mr := zm_m108) rfl rfl ?_
  refine zy_b (mr := zm_m108) rfl rfl rfl ?_
  refine zc_lt (fun h1 => ?_) (fun h1 => ?_)
  · refine zy_n 1 (mr := zm_m108) rfl rfl ?_
    exact zy_r (mr := zm_m108) rfl rfl rfl ⟨rfl, 0, rfl, Or.inr ⟨rfl, fun h2 => absurd h1 (Int32.not_lt.mpr h2)⟩⟩
  · refine zy_n 2 (mr := zm_m108) rfl rfl ?_
    exact zy_r (mr := zm_m108) rfl rfl rfl ⟨rfl, 1, rfl, Or.inl rfl⟩
theorem xheld_end {τ' : List Nat} {h' : zm_H} {ρ : List Int} {σ : List Nat} {i : Int32} (hρ : ρ.length = 6) (hσ : σ.length = 0) (hH : xHI xKT xSG τ' h') (hX : xX τ' h') (hF : xF (xms xc_56.2.2.2.1) τ h τ' h') (hW : xW h' ≤ xW h + 30) : xQc xVV xX xW xc_56 ρ σ τ h (some (.int i)) h' := by
  have hg : (ρ ++ [i.toInt])[6]? = some i.toInt := by
    rw [List.getElem?_append_right (by omega), hρ]
    rfl
  have hno : ∀ {α : Type} {P : α → Prop}, ∀ q ∈ ([] : List α), P q := fun q hq => by cases hq
  refine ⟨τ', hH, hX, hF, hW, _, List.mem_cons_self, [i.toInt], [], ⟨⟨⟨fun q hq => ?_, hno⟩, ?_⟩, ⟨?_, fun k kd hk => ?_⟩, hno, hno⟩, i, rfl, xe_sym (s := 6) hg⟩
  · have hq := List.mem_singleton.mp hq
    subst hq
    exact ⟨i.toInt, hg, (xb_rng i).1, (xb_rng i).2⟩
  · show 7 = _
    rw [List.length_append, hρ]
    rfl
  · rw [List.append_nil]
    exact hσ
  · have hk : ([] : List Nat)[k]? = some kd := hk
    simp at hk
theorem xPX_appo {ak ok fa fc kd ci : Nat} {ws : List Value} (hx : xPX ak ok fa fc τ h) (hH : xHI xKT xSG τ h) (n1 : kd ≠ ok) (n2 : kd ≠ ak) : xPX ak ok fa fc (τ ++ [kd]) (h ++ [.inr (ci, ws)]) := by
  intro a' b' t n i c g k1 k2 k3 k4 k5 k6 k7
  have hlen := hH.1
  have hlt : ∀ q kq, (τ ++ [kd])[q]? = some kq → kd ≠ kq → q < h.length ∧ τ[q]? = some kq := by
    intro q kq hq hk
    by_cases hl2 : q < τ.length
    · rw [List.getElem?_append_left hl2] at hq
      exact ⟨by omega, hq⟩
    · have hl3 := (List.getElem?_eq_some_iff.mp hq).1
      rw [List.length_append, List.length_singleton] at hl3
      have e : q = τ.length := by omega
      subst e
      have hq : kd = kq := by simpa using hq
      exact absurd hq hk
  obtain ⟨la, ta⟩ := hlt a' ok k1 n1
  obtain ⟨lb, tb⟩ := hlt b' ak k2 n2
  unfold xfd at k3 k4
  rw [List.getElem?_append_left la] at k3 k4
  rw [List.getElem?_append_left lb] at k5
  exact hx a' b' t n i c g ta tb k3 k4 k5 k6 k7
theorem xX_appo {ci : Nat} {ws : List Value} (hX : xX τ h) (hH : xHI xKT xSG τ h) : xX (τ ++ [210]) (h ++ [.inr (ci, ws)]) ∧ xW (h ++ [.inr (ci, ws)]) = xW h + ws.length + 13 := by
  obtain ⟨s0, sx1, sx2, sx3, sp, sl⟩ := hX
  have hlen := hH.1
  have m36 : 36 < h.length := by have := (List.getElem?_eq_some_iff.mp (s0 36 rfl)).1; omega
  have e36 : ∀ f, xfd (h ++ [.inr (ci, ws)]) 36 f = xfd h 36 f := fun f => by
    unfold xfd
    rw [List.getElem?_append_left m36]
  refine ⟨⟨fun a ha => xgl (s0 a ha), xPX_appo sx1 hH (by decide) (by decide), xPX_appo sx2 hH (by decide) (by decide), xPX_appo sx3 hH (by decide) (by decide), fun n m j g1 g2 k1 k2 k3 => ?_, fun v f c1 c2 c3 c4 => ?_⟩, ?_⟩
  · rw [List.getElem?_append_left (by omega)] at k1 k2
    exact sp n m j g1 g2 k1 k2 k3
  · rw [e36] at c1 ⊢
    exact sl v f c1 c2 c3 c4
  · unfold xW
    rw [e36, zm_szs_app, List.length_append, List.length_singleton]
    show zm_szs h + ws.length + 13 * (h.length + 1) + _ = _
    omega
end XHE
end
section
/-! By hand: held, the walk -/
section XHV
variable {τ : List Nat} {h : zm_H} {og : Nat → Option zm_C}
theorem zh_callv3 {k m ci b : Nat} {w a1 a2 a3 : Value} {ps : List Nat} {rest fs : List Value} (hh : h[b]? = some (.inr (ci, fs))) (hr : Nat.ble (zm_cat rest) 16 = true) : zm_call (.invokevirtual k) (m, 3, ci, w, ps) (a3 :: a2 :: a1 :: .ref b :: rest) h = some (m, [.ref b, a1, a2, a3], rest) := by
  have e : zm_call (.invokevirtual k) (m, 3, ci, w, ps) (a3 :: a2 :: a1 :: .ref b :: rest) h = (match h[b]? with
    | some (.inr (c, _)) => bif Nat.beq c ci && Nat.ble (zm_cat rest) 16 then some (m, Value.ref b :: [a1, a2, a3], rest) else none
    | _ => none) := rfl
  rw [e, hh]
  simp only [Nat.beq_refl, hr, Bool.and_self, cond_true]
def xheQ (τ : List Nat) (h : zm_H) (r : Option Value) (h' : zm_H) : Prop := ∃ (i : Int32) (τ' : List Nat), r = some (.int i) ∧ xHI xKT xSG τ' h' ∧ xX τ' h' ∧ xF (xms xc_56.2.2.2.1) τ h τ' h' ∧ xW h' ≤ xW h + 30
theorem xheQ_id {i : Int32} (hH : xHI xKT xSG τ h) (hX : xX τ h) : xheQ τ h (some (.int i)) h := ⟨i, τ, rfl, hH, hX, xF_refl _ _ _, Nat.le_add_right _ _⟩
abbrev xhl (k p f b l w : Int32) : zm_L := [(0, .ref 0), (1, .int k), (2, .int p), (3, .int f), (4, .int b), (5, .int l), (6, .int w)]
/-- from the making of the OPENING on -/
theorem zh_he44 {d : Nat} {k p f b l w c : Int32} {v : Value} {n : Int32} (hV : xV xVV xX xW og xc_55) (hH : xHI xKT xSG τ h) (hX : xX τ h) (k0 : 0 ≤ k.toInt ∧ k.toInt ≤ 3) (f0 : 0 ≤ f.toInt ∧ f.toInt ≤ 5) (w0 : 0 ≤ w.toInt ∧ w.toInt ≤ 1) (hc : h[25]? = some (.inr (1, [.int n, .int c, v]))) (c0 : 0 ≤ c.toInt) (c1 : c.toInt ≤ 59) : zm_Y og (d + 2) 107 44 (xhl k p f b l w) [] h (xheQ τ h) := by
  have s0 := hX.1
  obtain ⟨fs, hh0, hl0, hsp0⟩ := xcf_o hH (s0 0 rfl) (show xKT 0 = some (.inl (10, _)) from rfl)
  have hh0 : h[0]? = some (.inr (10, fs)) := hh0
  have g10 : fs[10]? = some (.ref 36) := xone hl0 hsp0 rfl
  have g8 : fs[8]? = some (.ref 25) := xone hl0 hsp0 rfl
  obtain ⟨ps, hh36, hl36, hsp36⟩ := xcf_o hH (s0 36 rfl) (show xKT 36 = some (.inl (6, _)) from rfl)
  have hh36 : h[36]? = some (.inr (6, ps)) := hh36
  have hpl : ps.length = 15 := hl36
  refine zy_n 1 (mr := zm_m107) rfl rfl ?_
  refine zy_h (mr := zm_m107) rfl rfl (zh_get hh0 g10) ?_
  refine zy_n 1 (mr := zm_m107) rfl rfl ?_
  refine zy_h (mr := zm_m107) rfl rfl (zh_put hh36 (by rw [hpl]; rfl) rfl) ?_
  obtain ⟨hX1, hW1⟩ := xXW_ok.1 τ h 36 36 6 9 ps (.int 0) hX (s0 36 rfl) rfl hh36 (by omega)
  have hH1 := xHI_set (c := .inr (6, ps.set 9 (.int 0))) hH hh36 (s0 36 rfl) (show xKT 36 = some (.inl (6, _)) from rfl) ⟨ps.set 9 (.int 0), rfl, by rw [List.length_set]; exact hpl, fun g sp' v' a1 a2 => by
    by_cases e : 9 = g
    · subst e
      rw [List.getElem?_set_self (by omega)] at a2
      cases a2
      cases a1
      exact ⟨_, List.mem_cons_self, 0, rfl, by decide, by decide⟩
    · rw [List.getElem?_set_ne e] at a2
      exact hsp36 g sp' v' a1 a2⟩
  have hF1 : xF (xms xc_56.2.2.2.1) τ h τ (h.set 36 (.inr (6, ps.set 9 (.int 0)))) := xF_o (s0 36 rfl) rfl hh36
  have hl1 : (h.set 36 (.inr (6, ps.set 9 (.int 0)))).length = h.length := List.length_set
  have h10 : (h.set 36 (.inr (6, ps.set 9 (.int 0))))[0]? = some (.inr (10, fs)) := zs_ne hh0 (by decide)
  have h125 : (h.set 36 (.inr (6, ps.set 9 (.int 0))))[25]? = some (.inr (1, [.int n, .int c, v])) := zs_ne hc (by decide)
  generalize h.set 36 (.inr (6, ps.set 9 (.int 0))) = h1 at hX1 hW1 hH1 hF1 hl1 h10 h125 ⊢
  refine zy_n 1 (mr := zm_m107) rfl rfl ?_
  refine zy_h (mr := zm_m107) rfl rfl (zh_get h10 g8) ?_
  refine zy_h (mr := zm_m107) rfl rfl (zh_new (n := h1.length) rfl) ?_
  refine zy_n 7 (mr := zm_m107) rfl rfl ?_
  have hnew : (h1 ++ [Sum.inr (5, zm_df 5)] : zm_H)[h1.length]? = some (.inr (5, zm_df 5)) := by
    rw [List.getElem?_append_right (Nat.le_refl _), Nat.sub_self]
    rfl
  refine zy_c (mr := zm_m107) (mc := zm_m24) rfl rfl rfl rfl rfl ?_
  refine (zh_oin (r := 0) (k := k) (f := f) (p := p) (b := b) (l := l) hnew).mono (fun q h' hq => ?_)
  obtain ⟨rfl, rfl⟩ := hq
  rw [xset_last]
  have hH2 : xHI xKT xSG (τ ++ [210]) (h1 ++ [.inr (5, [.int 0, .int k, .int f, .int p, .int (xob b), .int (xob l), .int 0, .int (-1)])]) := by
    refine xHI_appo hH1 (show xKT 210 = some (.inl (5, _)) from rfl) rfl (fun g sp' v' a1 a2 => ?_)
    have hlt : g < 8 := by
      have := (List.getElem?_eq_some_iff.mp a2).1
      simpa using this
    rcases (show g = 0 ∨ g = 1 ∨ g = 2 ∨ g = 3 ∨ g = 4 ∨ g = 5 ∨ g = 6 ∨ g = 7 by omega) with rfl | rfl | rfl | rfl | rfl | rfl | rfl | rfl
    · cases a1; cases a2; exact ⟨_, List.mem_cons_self, 0, rfl, by decide, by decide⟩
    · cases a1; cases a2; exact ⟨_, List.mem_cons_self, k, rfl, k0.1, k0.2⟩
    · cases a1; cases a2; exact ⟨_, List.mem_cons_self, f, rfl, f0.1, f0.2⟩
    · cases a1; cases a2; exact ⟨_, List.mem_cons_self, p, rfl, (xb_rng p).1, (xb_rng p).2⟩
    · cases a1; cases a2; exact ⟨_, List.mem_cons_self, xob b, rfl, (xob_01 b).1, (xob_01 b).2⟩
    · cases a1; cases a2; exact ⟨_, List.mem_cons_self, xob l, rfl, (xob_01 l).1, (xob_01 l).2⟩
    · cases a1; cases a2; exact ⟨_, List.mem_cons_self, 0, rfl, by decide, by decide⟩
    · cases a1; cases a2; exact ⟨_, List.mem_cons_self, -1, rfl, by decide, by decide⟩
  obtain ⟨hX2, hW2⟩ := xX_appo (ci := 5) (ws := [.int 0, .int k, .int f, .int p, .int (xob b), .int (xob l), .int 0, .int (-1)]) hX1 hH1
  have hF2 : xF (xms xc_56.2.2.2.1) τ h (τ ++ [210]) (h1 ++ [.inr (5, [.int 0, .int k, .int f, .int p, .int (xob b), .int (xob l), .int 0, .int (-1)])]) := xF_trans hF1 xF_app
  have h225 : (h1 ++ [.inr (5, [.int 0, .int k, .int f, .int p, .int (xob b), .int (xob l), .int 0, .int (-1)])])[25]? = some (.inr (1, [.int n, .int c, v])) := zs_app h125
  have hlen1 := hH1.1
  have hW2 : xW (h1 ++ [.inr (5, [.int 0, .int k, .int f, .int p, .int (xob b), .int (xob l), .int 0, .int (-1)])]) = xW h1 + 8 + 13 := hW2
  generalize h1 ++ [.inr (5, [.int 0, .int k, .int f, .int p, .int (xob b), .int (xob l), .int 0, .int (-1)])] = h2 at hH2 hX2 hW2 hF2 h225 ⊢
  refine zy_n 2 (mr := zm_m107) rfl rfl ?_
  refine zy_c (mr := zm_m107) (mc := zm_m109) (q := (109, [.ref 25, .ref h1.length, .int w, .int (-1)], [])) rfl rfl ?_ rfl rfl ?_
  · exact zh_callv3 h225 rfl
  have hcall := hV [w.toInt, -1, c.toInt] [h1.length] (τ ++ [210]) h2 (lv_args 0 [.ref 25, .ref h1.length, .int w, .int (-1)]) hH2 hX2 ?_ ?_
  · refine (hcall.deep (show (1 : Nat) ≤ d + 1 by omega)).mono (fun r h' hq => ?_)
    obtain ⟨τ3, hH3, hX3, hF3, hW3, q, hq, r', s', hDq, hrq⟩ := hq
    have hq := List.mem_singleton.mp hq
    subst hq
    cases r with
    | none => cases hrq
    | some vr =>
      obtain ⟨i, rfl, -⟩ := hrq
      refine zy_r (mr := zm_m107) rfl rfl rfl ⟨i, τ3, rfl, hH3, hX3, xF_trans hF2 (xF_weak hF3 (fun a b e => xms_sub (a := xc_55.2.2.2.1) (b := xc_56.2.2.2.1) (by decide) a b e)), ?_⟩
      have hW3 : xW h' ≤ xW h2 + 0 := hW3
      omega
  · have hno : ∀ {α : Type} {P : α → Prop}, ∀ q ∈ ([] : List α), P q := fun q hq => by cases hq
    refine ⟨⟨⟨fun q hq => ?_, hno⟩, rfl⟩, ⟨rfl, fun j kd hj => ?_⟩, fun q hq => ?_, hno⟩
    · have hq : q ∈ [((0 : Nat), (Int.ofNat 0), (Int.ofNat 1)), (1, .negSucc 0, .ofNat 59), (2, .ofNat 0, .ofNat 59)] := hq
      simp only [List.mem_cons, List.not_mem_nil, or_false] at hq
      rcases hq with rfl | rfl | rfl
      · exact ⟨w.toInt, rfl, w0.1, w0.2⟩
      · exact ⟨-1, rfl, by decide, by decide⟩
      · exact ⟨c.toInt, rfl, c0, c1⟩
    · have hj : [210][j]? = some kd := hj
      have hlt : j < 1 := (List.getElem?_eq_some_iff.mp hj).1
      have e : j = 0 := by omega
      subst e
      cases hj
      exact ⟨h1.length, rfl, by rw [hlen1]; simp⟩
    · have hq := List.mem_singleton.mp hq
      subst hq
      refine ⟨25, .int c, rfl, by simp only [xfd, h225]; rfl, c, rfl, xe_sym (s := 2) rfl⟩
  · intro q hq
    have hq : q ∈ [((0 : Nat), ((3, xk 0, 25) : xv)), (1, (4, xk 0, 0)), (2, (0, (.ofNat 0, [(0, .ofNat 1)]), 0)), (3, (0, (.ofNat 0, [(1, .ofNat 1)]), 0))] := hq
    simp only [List.mem_cons, List.not_mem_nil, or_false] at hq
    rcases hq with rfl | rfl | rfl | rfl
    · exact ⟨_, rfl, rfl⟩
    · exact ⟨_, rfl, h1.length, rfl, rfl⟩
    · exact ⟨_, rfl, w, rfl, xe_sym (s := 0) rfl⟩
    · exact ⟨_, rfl, -1, rfl, xe_sym (s := 1) rfl⟩
end XHV
end
section
/-! By hand: held, the contract -/
section XHC
variable {og : Nat → Option zm_C}
theorem zh_he {τ : List Nat} {h : zm_H} {d : Nat} {k p f b l w : Int32} (hV : xV xVV xX xW og xc_55) (hH : xHI xKT xSG τ h) (hX : xX τ h) (w0 : 0 ≤ w.toInt ∧ w.toInt ≤ 1) : zm_Y og (d + 2) 107 0 (xhl k p f b l w) [] h (xheQ τ h) := by
  have s0 := hX.1
  have hno : ∀ {g : zm_H}, g = h → zm_Y og (d + 2) 107 28 (xhl k p f b l w) [] g (xheQ τ h) := fun e => by
    subst e
    refine zy_n 1 (mr := zm_m107) rfl rfl ?_
    exact zy_r (mr := zm_m107) rfl rfl rfl (xheQ_id hH hX)
  refine zy_n 3 (mr := zm_m107) rfl rfl ?_
  refine zy_c (mr := zm_m107) (mc := zm_m10) rfl rfl rfl rfl rfl ?_
  refine zh_within.mono (fun r h' hq => ?_)
  obtain ⟨rfl, x, rfl, hx⟩ := hq
  refine zy_b (mr := zm_m107) rfl rfl rfl ?_
  refine zi_eq (fun _ => hno rfl) (fun hne => ?_)
  obtain ⟨-, ka, kb⟩ := hx.resolve_left hne
  refine zy_n 3 (mr := zm_m107) rfl rfl ?_
  refine zy_c (mr := zm_m107) (mc := zm_m10) rfl rfl rfl rfl rfl ?_
  refine zh_within.mono (fun r h' hq => ?_)
  obtain ⟨rfl, x2, rfl, hx2⟩ := hq
  refine zy_b (mr := zm_m107) rfl rfl rfl ?_
  refine zi_eq (fun _ => hno rfl) (fun hne2 => ?_)
  refine zy_n 3 (mr := zm_m107) rfl rfl ?_
  refine zy_c (mr := zm_m107) (mc := zm_m10) rfl rfl rfl rfl rfl ?_
  refine zh_within.mono (fun r h' hq => ?_)
  obtain ⟨rfl, x3, rfl, hx3⟩ := hq
  refine zy_b (mr := zm_m107) rfl rfl rfl ?_
  refine zi_ne (fun hne3 => ?_) (fun _ => hno rfl)
  obtain ⟨-, fa, fb⟩ := hx3.resolve_left hne3
  obtain ⟨fs, hh0, hl0, hsp0⟩ := xcf_o hH (s0 0 rfl) (show xKT 0 = some (.inl (10, _)) from rfl)
  have g8 : fs[8]? = some (.ref 25) := xone hl0 hsp0 rfl
  obtain ⟨cs, hh25, hl25, hsp25⟩ := xcf_o hH (s0 25 rfl) (show xKT 25 = some (.inl (1, _)) from rfl)
  have hl25 : cs.length = 3 := hl25
  obtain ⟨y0, y1, y2, rfl⟩ : ∃ a b c, cs = [a, b, c] := by
    match cs, hl25 with
    | [a, b, c], _ => exact ⟨a, b, c, rfl⟩
  obtain ⟨a0, m0, t0⟩ := hsp25 0 _ _ rfl rfl
  have m0 := List.mem_singleton.mp m0
  subst m0
  obtain ⟨n, rfl, -, -⟩ := t0
  obtain ⟨a1, m1, t1⟩ := hsp25 1 _ _ rfl rfl
  have m1 := List.mem_singleton.mp m1
  subst m1
  obtain ⟨c, rfl, c0, -⟩ := t1
  have c0 : (0 : Int) ≤ c.toInt := c0
  have hh25 : _ = some (Sum.inr (1, [.int n, .int c, y2])) := hh25
  refine zy_n 1 (mr := zm_m107) rfl rfl ?_
  refine zy_h (mr := zm_m107) rfl rfl (zh_get hh0 g8) ?_
  refine zy_c (mr := zm_m107) (mc := zm_m108) (q := (108, [.ref 25], [])) rfl rfl ?_ rfl rfl ?_
  · have e : zm_call (.invokevirtual 259) (108, 0, 1, .null, []) [.ref 25] h' = zm_call (.invokevirtual 259) (108, 0, 1, .null, []) [.ref 25] h' := rfl
    show (match h'[25]? with
      | some (.inr (c, _)) => bif Nat.beq c 1 && Nat.ble (zm_cat ([] : List Value)) 16 then some ((108 : Nat), [Value.ref 25], ([] : List Value)) else none
      | _ => none) = _
    rw [hh25]
    rfl
  refine (zh_full hh25).mono (fun r h2 hq => ?_)
  obtain ⟨rfl, x4, rfl, hx4⟩ := hq
  refine zy_b (mr := zm_m107) rfl rfl rfl ?_
  refine zi_eq (fun he => ?_) (fun _ => ?_)
  · have hc : ¬ (60 : Int32) ≤ c := by
      rcases hx4 with e | ⟨-, e⟩
      · rw [e] at he; cases he
      · exact e
    have e60 : (60 : Int32).toInt = 60 := rfl
    have hc : c.toInt ≤ 59 := by
      have : ¬ (60 : Int32).toInt ≤ c.toInt := fun q => hc (Int32.le_iff_toInt_le.mpr q)
      omega
    have e0 : (0 : Int32).toInt = 0 := rfl
    have e3 : (3 : Int32).toInt = 3 := rfl
    have e5 : (5 : Int32).toInt = 5 := rfl
    have ka := Int32.le_iff_toInt_le.mp ka
    have kb := Int32.le_iff_toInt_le.mp kb
    have fa := Int32.le_iff_toInt_le.mp fa
    have fb := Int32.le_iff_toInt_le.mp fb
    exact zh_he44 hV hH hX ⟨by omega, by omega⟩ ⟨by omega, by omega⟩ w0 hh25 c0 hc
  · refine zy_n 1 (mr := zm_m107) rfl rfl ?_
    exact zy_r (mr := zm_m107) rfl rfl rfl (xheQ_id hH hX)
theorem xv_held (hV : xV xVV xX xW og xc_55) : xV xVV xX xW og xc_56 := by
  intro ρ σ τ h lc hH hX hD hl
  have hl : ∀ q ∈ [((0 : Nat), ((3, xk 0, 0) : xv)), (1, (0, (.ofNat 0, [(0, .ofNat 1)]), 0)), (2, (0, (.ofNat 0, [(1, .ofNat 1)]), 0)), (3, (0, (.ofNat 0, [(2, .ofNat 1)]), 0)), (4, (0, (.ofNat 0, [(3, .ofNat 1)]), 0)), (5, (0, (.ofNat 0, [(4, .ofNat 1)]), 0)), (6, (0, (.ofNat 0, [(5, .ofNat 1)]), 0))], ∃ v, zm_get lc q.1 = some v ∧ xc ρ σ q.2 v := hl
  simp only [List.forall_mem_cons] at hl
  obtain ⟨⟨v0, g0, rfl⟩, ⟨v1, g1, k, rfl, -⟩, ⟨v2, g2, p, rfl, -⟩, ⟨v3, g3, f, rfl, -⟩, ⟨v4, g4, b, rfl, -⟩, ⟨v5, g5, l, rfl, -⟩, ⟨v6, g6, w, rfl, e6⟩, -⟩ := hl
  obtain ⟨x5, y5, z5, u5⟩ := hD.1.1.1 (5, .ofNat 0, .ofNat 1) (by simp [xc_56])
  have q5 : xe ρ (xsym 5) = some x5 := xe_sym y5
  have r5 : w.toInt = x5 := by
    have q9 : xe ρ (xsym 5) = some w.toInt := e6
    rw [q5] at q9
    exact (Option.some.inj q9).symm
  have z5 : (0 : Int) ≤ x5 := z5
  have u5 : x5 ≤ (1 : Int) := u5
  refine zy_sub (xhl k p f b l w) (by simp) (fun q hq => ?_) ?_
  · simp only [xhl, List.mem_cons, List.not_mem_nil, or_false] at hq
    rcases hq with rfl | rfl | rfl | rfl | rfl | rfl | rfl
    · exact g0
    · exact g1
    · exact g2
    · exact g3
    · exact g4
    · exact g5
    · exact g6
  · show zm_Y og (10 + 2) 107 0 _ _ _ _
    refine (zh_he hV hH hX ⟨by omega, by omega⟩).mono (fun r h' hq => ?_)
    obtain ⟨i, τ', rfl, k1, k2, k3, k4⟩ := hq
    exact xheld_end hD.1.2.symm hD.2.1.1 k1 k2 k3 k4
end XHC
end
section
/-! The contracts by hand, by their numbers -/
theorem xv_48 {og : Nat → Option zm_C} : xV xVV xX xW og xc_48 := xv_room
theorem xv_58 {og : Nat → Option zm_C} : xV xVV xX xW og xc_58 := xv_addo
theorem xv_60 {og : Nat → Option zm_C} : xV xVV xX xW og xc_60 := xv_note60
theorem xv_61 {og : Nat → Option zm_C} : xV xVV xX xW og xc_61 := xv_note61
theorem xv_62 {og : Nat → Option zm_C} : xV xVV xX xW og xc_62 := xv_note62
theorem xv_174 {og : Nat → Option zm_C} : xV xVV xX xW og xc_174 := xv_bits
end
section
/-! By hand: the constructor of a HOUSE -/
section XHN
variable {k : zm_H} {og : Nat → Option zm_C}
theorem xset_app0 {N : Nat} {y a : zm_C} (hN : N < k.length) : k.set N y ++ [a] = (k ++ [a]).set N y := by
  rw [List.set_append_left _ _ hN]
theorem xlt_app {N : Nat} {a : zm_C} (hN : N < k.length) : N < (k ++ [a]).length := by
  rw [List.length_append]
  omega
theorem xY_eq {d m p l s Q} {h h' : zm_H} (e : h = h') (y : zm_Y og d m p l s h' Q) : zm_Y og d m p l s h Q := by
  subst e
  exact y
def xhc1 : zm_C := Sum.inl (0, 6, zm_zero 0)
def xhc2 : zm_C := Sum.inl (6, 10, .inr (.inr (fun _ => none)))
theorem zh_hin {d N : Nat} {s w f m r : Int32} {v0 v1 v2 v3 v4 v5 v6 v7 v8 v9 v10 : Value} (hh : k[N]? = some (.inr (2, [v0, v1, v2, v3, v4, v5, v6, v7, v8, v9, v10]))) : zm_Y og d 15 0 [(0, .ref N), (1, .int s), (2, .int w), (3, .int f), (4, .int m), (5, .int r)] [] k (fun q h' => q = none ∧ h' = ((k ++ [xhc1]) ++ [xhc2]).set N (.inr (2, [.int s, .int w, .int f, .int m, .int r, .int 0, .ref k.length, .int 0, .ref (k ++ [xhc1]).length, .int 0, .long 0]))) := by
  have hN : N < k.length := (List.getElem?_eq_some_iff.mp hh).1
  have h1 : (k ++ [xhc1])[N]? = some (.inr (2, [v0, v1, v2, v3, v4, v5, v6, v7, v8, v9, v10])) := zs_app hh
  have h2 : ((k ++ [xhc1]) ++ [xhc2])[N]? = some (.inr (2, [v0, v1, v2, v3, v4, v5, v6, v7, v8, v9, v10])) := zs_app h1
  refine zy_n 1 (mr := zm_m15) rfl rfl ?_
  refine zy_h (mr := zm_m15) rfl rfl zh_oinit ?_
  refine zy_n 2 (mr := zm_m15) rfl rfl ?_
  refine zy_h (mr := zm_m15) rfl rfl (zh_put hh rfl rfl) ?_
  refine zy_n 2 (mr := zm_m15) rfl rfl ?_
  refine zy_h (mr := zm_m15) rfl rfl (zh_newa (n := k.length) (by rw [List.length_set]) rfl rfl) ?_
  refine xY_eq (xset_app0 (a := xhc1) hN) ?_
  refine zy_h (mr := zm_m15) rfl rfl (zh_put (zs_eq h1) rfl rfl) ?_
  rw [zs_set2]
  refine zy_n 2 (mr := zm_m15) rfl rfl ?_
  refine zy_h (mr := zm_m15) rfl rfl (zh_put (zs_eq h1) rfl rfl) ?_
  rw [zs_set2]
  refine zy_n 2 (mr := zm_m15) rfl rfl ?_
  refine zy_h (mr := zm_m15) rfl rfl (zh_anew (n := (k ++ [xhc1]).length) (by rw [List.length_set]) rfl rfl) ?_
  refine xY_eq (xset_app0 (a := xhc2) (xlt_app hN)) ?_
  refine zy_h (mr := zm_m15) rfl rfl (zh_put (zs_eq h2) rfl rfl) ?_
  rw [zs_set2]
  refine zy_n 2 (mr := zm_m15) rfl rfl ?_
  refine zy_h (mr := zm_m15) rfl rfl (zh_put (zs_eq h2) rfl rfl) ?_
  rw [zs_set2]
  refine zy_n 2 (mr := zm_m15) rfl rfl ?_
  refine zy_h (mr := zm_m15) rfl rfl (zh_put (zs_eq h2) rfl rfl) ?_
  rw [zs_set2]
  refine zy_n 2 (mr := zm_m15) rfl rfl ?_
  refine zy_h (mr := zm_m15) rfl rfl (zh_put (zs_eq h2) rfl rfl) ?_
  rw [zs_set2]
  refine zy_n 2 (mr := zm_m15) rfl rfl ?_
  refine zy_h (mr := zm_m15) rfl rfl (zh_put (zs_eq h2) rfl rfl) ?_
  rw [zs_set2]
  refine zy_n 2 (mr := zm_m15) rfl rfl ?_
  refine zy_h (mr := zm_m15) rfl rfl (zh_put (zs_eq h2) rfl rfl) ?_
  rw [zs_set2]
  refine zy_n 2 (mr := zm_m15) rfl rfl ?_
  refine zy_h (mr := zm_m15) rfl rfl (zh_put (zs_eq h2) rfl rfl) ?_
  rw [zs_set2]
  refine zy_n 2 (mr := zm_m15) rfl rfl ?_
  refine zy_h (mr := zm_m15) rfl rfl (zh_put (zs_eq h2) rfl rfl) ?_
  rw [zs_set2]
  exact zy_r (mr := zm_m15) rfl rfl rfl ⟨rfl, rfl⟩
end XHN
end
section
/-! By hand: the three cells of a new HOUSE -/
section XHE
variable {τ : List Nat} {h : zm_H}
theorem xHI_apps {ks : List Nat} {cs : zm_H} (hH : xHI xKT xSG τ h) (hl : cs.length = ks.length) (hc : ∀ (i kd : Nat), ks[i]? = some kd → ∃ D c, xKT kd = some D ∧ cs[i]? = some c ∧ xcf (τ ++ ks) D c) : xHI xKT xSG (τ ++ ks) (h ++ cs) := by
  have hlen := hH.1
  refine ⟨by rw [List.length_append, List.length_append, hlen, hl], fun b kb hb => ?_, fun b hb => xgl (hH.2.2 b hb)⟩
  by_cases hlt : b < τ.length
  · rw [List.getElem?_append_left hlt] at hb
    obtain ⟨D', c', k1, k2, k3⟩ := hH.2.1 b kb hb
    refine ⟨D', c', k1, ?_, xcf_mono k3⟩
    rw [List.getElem?_append_left (List.getElem?_eq_some_iff.mp k2).1]
    exact k2
  · rw [List.getElem?_append_right (by omega)] at hb
    obtain ⟨D', c', k1, k2, k3⟩ := hc _ _ hb
    refine ⟨D', c', k1, ?_, k3⟩
    rw [List.getElem?_append_right (by omega), hlen]
    exact k2
def xhho (n : Nat) (s w f m r : Int32) : zm_C := Sum.inr (2, [.int s, .int w, .int f, .int m, .int r, .int 0, .ref (n + 1), .int 0, .ref (n + 2), .int 0, .long 0])
theorem xHI_house {s w f m r : Int32} (hH : xHI xKT xSG τ h) (m0 : 0 ≤ m.toInt ∧ m.toInt ≤ 60) : xHI xKT xSG (τ ++ [207, 208, 209]) (h ++ [xhho h.length s w f m r, xhc1, xhc2]) := by
  have hlen := hH.1
  refine xHI_apps hH rfl (fun i kd hk => ?_)
  have hi : i < 3 := by
    have := (List.getElem?_eq_some_iff.mp hk).1
    simpa using this
  rcases (show i = 0 ∨ i = 1 ∨ i = 2 by omega) with rfl | rfl | rfl
  · cases hk
    refine ⟨_, _, (show xKT 207 = some (.inl (2, _)) from rfl), rfl, _, rfl, rfl, fun g sp' v' c1 c2 => ?_⟩
    have hlt : g < 11 := by
      have := (List.getElem?_eq_some_iff.mp c2).1
      simpa using this
    rcases (show g = 0 ∨ g = 1 ∨ g = 2 ∨ g = 3 ∨ g = 4 ∨ g = 5 ∨ g = 6 ∨ g = 7 ∨ g = 8 ∨ g = 9 ∨ g = 10 by omega) with rfl | rfl | rfl | rfl | rfl | rfl | rfl | rfl | rfl | rfl | rfl
    · cases c1; cases c2; exact ⟨_, List.mem_cons_self, s, rfl, (xb_rng s).1, (xb_rng s).2⟩
    · cases c1; cases c2; exact ⟨_, List.mem_cons_self, w, rfl, (xb_rng w).1, (xb_rng w).2⟩
    · cases c1; cases c2; exact ⟨_, List.mem_cons_self, f, rfl, (xb_rng f).1, (xb_rng f).2⟩
    · cases c1; cases c2; exact ⟨_, List.mem_cons_self, m, rfl, m0.1, m0.2⟩
    · cases c1; cases c2; exact ⟨_, List.mem_cons_self, r, rfl, (xb_rng r).1, (xb_rng r).2⟩
    · cases c1; cases c2; exact ⟨_, List.mem_cons_self, 0, rfl, by decide, by decide⟩
    · cases c1; cases c2; exact ⟨_, List.mem_cons_self, h.length + 1, rfl, by rw [hlen, List.getElem?_append_right (by omega), Nat.add_sub_cancel_left]; rfl⟩
    · cases c1; cases c2; exact ⟨_, List.mem_cons_self, 0, rfl, by decide, by decide⟩
    · cases c1; cases c2; exact ⟨_, List.mem_cons_self, h.length + 2, rfl, by rw [hlen, List.getElem?_append_right (by omega), Nat.add_sub_cancel_left]; rfl⟩
    · cases c1; cases c2; exact ⟨_, List.mem_cons_self, 0, rfl, by decide, by decide⟩
    · cases c1; cases c2; exact ⟨_, List.mem_cons_self, 0, rfl⟩
  · cases hk
    refine ⟨_, _, (show xKT 208 = some (.inr (0, 6, _)) from rfl), rfl, _, rfl, ⟨_, rfl⟩, fun j hj => ?_⟩
    have hj : j < 6 := hj
    exact ⟨_, List.mem_cons_self, ⟨0, rfl, by decide, by decide⟩, by show (0 : Int) ≤ _; omega, by show _ ≤ (5 : Int); omega, Or.inl rfl⟩
  · cases hk
    refine ⟨_, _, (show xKT 209 = some (.inr (6, 10, _)) from rfl), rfl, _, rfl, ⟨_, rfl⟩, fun j hj => ?_⟩
    have hj : j < 10 := hj
    exact ⟨_, List.mem_cons_self, rfl, by show (0 : Int) ≤ _; omega, by show _ ≤ (9 : Int); omega, Or.inl rfl⟩
end XHE
end
section
/-! By hand: a new HOUSE keeps what the hands know -/
section XHX
variable {τ : List Nat} {h : zm_H}
theorem xlt_ap3 {q kq a b c : Nat} (hl : h.length = τ.length) (hq : (τ ++ [a, b, c])[q]? = some kq) (ka : kq ≠ a) (kb : kq ≠ b) (kc : kq ≠ c) : q < h.length ∧ τ[q]? = some kq := by
  by_cases hl2 : q < τ.length
  · rw [List.getElem?_append_left hl2] at hq
    exact ⟨by omega, hq⟩
  · rw [List.getElem?_append_right (by omega)] at hq
    have hm := List.mem_of_getElem? hq
    simp only [List.mem_cons, List.not_mem_nil, or_false] at hm
    rcases hm with e | e | e
    · exact absurd e ka
    · exact absurd e kb
    · exact absurd e kc
theorem xfd_apl {cs : zm_H} {q g : Nat} (hq : q < h.length) : xfd (h ++ cs) q g = xfd h q g := by
  unfold xfd
  rw [List.getElem?_append_left hq]
theorem xX_house {s w f m r : Int32} (hH : xHI xKT xSG τ h) (hX : xX τ h) : xX (τ ++ [207, 208, 209]) (h ++ [xhho h.length s w f m r, xhc1, xhc2]) := by
  obtain ⟨s0, sx1, sx2, sx3, sp, sl⟩ := hX
  have hlen := hH.1
  have sg : ∀ a : Nat, xSG a = true → a < h.length := fun a ha => by
    have := (List.getElem?_eq_some_iff.mp (s0 a ha)).1
    omega
  have px : ∀ {ak ok fa fc : Nat}, xPX ak ok fa fc τ h → (ok ≠ 207 ∧ ok ≠ 208 ∧ ok ≠ 209) → (ak ≠ 207 ∧ ak ≠ 208 ∧ ak ≠ 209) → xPX ak ok fa fc (τ ++ [207, 208, 209]) (h ++ [xhho h.length s w f m r, xhc1, xhc2]) := by
    intro ak ok fa fc hx n1 n2 a' b' t n i c g k1 k2 k3 k4 k5 k6 k7
    obtain ⟨la, ta⟩ := xlt_ap3 hlen k1 n1.1 n1.2.1 n1.2.2
    obtain ⟨lb, tb⟩ := xlt_ap3 hlen k2 n2.1 n2.2.1 n2.2.2
    rw [xfd_apl la] at k3 k4
    rw [List.getElem?_append_left lb] at k5
    exact hx a' b' t n i c g ta tb k3 k4 k5 k6 k7
  refine ⟨fun a ha => xgl (s0 a ha), px sx1 (by decide) (by decide), px sx2 (by decide) (by decide), ?_, ?_, ?_⟩
  · intro a' b' t n i c g k1 k2 k3 k4 k5 k6 k7
    by_cases la : a' < h.length
    · rw [xfd_apl la] at k3 k4
      rw [List.getElem?_append_left (by omega)] at k1
      obtain ⟨fs, hhA, hl, hsp⟩ := xcf_o hH k1 (show xKT 207 = some (.inl (2, _)) from rfl)
      have e3 : fs[8]? = some (.ref b') := by
        simp only [xfd, hhA] at k3
        exact k3
      obtain ⟨a8, m8, s8⟩ := hsp 8 _ _ rfl e3
      have m8 := List.mem_singleton.mp m8
      subst m8
      obtain ⟨B, e8, hB⟩ := s8
      cases e8
      have lb : b' < h.length := by
        have := (List.getElem?_eq_some_iff.mp hB).1
        omega
      rw [List.getElem?_append_left lb] at k5
      exact sx3 a' b' t n i c g k1 hB k3 k4 k5 k6 k7
    · exfalso
      have l3 := (List.getElem?_eq_some_iff.mp k1).1
      rw [List.length_append] at l3
      have l3 : a' < τ.length + 3 := l3
      rcases (show a' = h.length ∨ a' = h.length + 1 ∨ a' = h.length + 2 by omega) with e | e | e
      · subst e
        have e7 : xfd (h ++ [xhho h.length s w f m r, xhc1, xhc2]) h.length 7 = some (.int 0) := by
          unfold xfd
          rw [List.getElem?_append_right (Nat.le_refl _), Nat.sub_self]
          rfl
        rw [e7] at k4
        cases k4
        have k6 : (i : Int) < 0 := k6
        omega
      · subst e
        rw [hlen, List.getElem?_append_right (by omega), Nat.add_sub_cancel_left] at k1
        cases k1
      · subst e
        rw [hlen, List.getElem?_append_right (by omega), Nat.add_sub_cancel_left] at k1
        cases k1
  · intro n m j g1 g2 k1 k2 k3
    rw [List.getElem?_append_left (sg 4 rfl)] at k1
    rw [List.getElem?_append_left (sg 6 rfl)] at k2
    exact sp n m j g1 g2 k1 k2 k3
  · intro v g c1 c2 c3 c4 c5
    rw [xfd_apl (sg 36 rfl)] at c1 c5
    exact sl v g c1 c2 c3 c4 c5
theorem xF_apl {MS : Nat → Nat → Bool} {ks : List Nat} {cs : zm_H} : xF MS τ h (τ ++ ks) (h ++ cs) := by
  refine ⟨⟨ks, rfl⟩, fun a kd f v ha hm hv => ?_, fun a kd c ha hm hv => ?_⟩
  · rw [xfd_apl ?_]
    · exact hv
    · unfold xfd at hv
      split at hv
      · rename_i o ho
        exact (List.getElem?_eq_some_iff.mp ho).1
      · cases hv
  · exact zs_app hv
theorem xW_house {s w f m r : Int32} (h36 : 36 < h.length) : xW (h ++ [xhho h.length s w f m r, xhc1, xhc2]) ≤ xW h + 90 := by
  have e : h ++ [xhho h.length s w f m r, xhc1, xhc2] = ((h ++ [xhho h.length s w f m r]) ++ [xhc1]) ++ [xhc2] := by simp
  have hs : zm_szs (h ++ [xhho h.length s w f m r, xhc1, xhc2]) = zm_szs h + 11 + 6 + 10 := by
    rw [e, zm_szs_app, zm_szs_app, zm_szs_app]
    rfl
  unfold xW
  rw [xfd_apl h36, hs, List.length_append]
  have : [xhho h.length s w f m r, xhc1, xhc2].length = 3 := rfl
  omega
end XHX
end
section
/-! By hand: a HOUSE comes into its row, and is counted -/
section XHY
variable {τ : List Nat} {h : zm_H}
theorem xst_h {MS : Nat → Nat → Bool} {N : Nat} {c : Int32} {f : Nat → Option Nat} (hH : xHI xKT xSG τ h) (hX : xX τ h) (hm1 : MS 1 0 = true) (hh : h[1]? = some (.inl (4, 16, .inr (.inr f)))) (hN : τ[N]? = some 207) (c0 : 0 ≤ c.toInt) (c15 : c.toInt ≤ 15) : xHI xKT xSG τ (h.set 1 (.inl (4, 16, .inr (.inr (va_up f c.toNatClampNeg (some N)))))) ∧ xX τ (h.set 1 (.inl (4, 16, .inr (.inr (va_up f c.toNatClampNeg (some N)))))) ∧ xF MS τ h τ (h.set 1 (.inl (4, 16, .inr (.inr (va_up f c.toNatClampNeg (some N)))))) ∧ xW (h.set 1 (.inl (4, 16, .inr (.inr (va_up f c.toNatClampNeg (some N)))))) = xW h := by
  obtain ⟨s0, sx1, sx2, sx3, sp, sl⟩ := hX
  have ht : τ[1]? = some 1 := s0 1 rfl
  obtain ⟨kB, u1, u2, u3⟩ := xcf_a hH ht (show xKT 1 = some (.inr (4, 16, _)) from rfl)
  rw [hh] at u1
  cases u1
  have hx : ∀ q g, xfd (h.set 1 (.inl (4, 16, .inr (.inr (va_up f c.toNatClampNeg (some N)))))) q g = xfd h q g := by
    intro q g
    unfold xfd
    rw [xgs hh]
    by_cases e : 1 = q
    · rw [if_pos e, ← e, hh]
    · rw [if_neg e]
  have px : ∀ {ak ok fa fc : Nat}, xPX ak ok fa fc τ h → ak ≠ 1 → xPX ak ok fa fc τ (h.set 1 (.inl (4, 16, .inr (.inr (va_up f c.toNatClampNeg (some N)))))) := by
    intro ak ok fa fc hx0 n1 a' b' t n i c' g k1 k2 k3 k4 k5 k6 k7
    rw [hx] at k3 k4
    rw [xgs hh] at k5
    by_cases e : 1 = b'
    · subst e
      rw [ht] at k2
      cases k2
      exact absurd rfl n1
    · rw [if_neg e] at k5
      exact hx0 a' b' t n i c' g k1 k2 k3 k4 k5 k6 k7
  refine ⟨?_, ⟨s0, ?_, px sx2 (by decide), px sx3 (by decide), ?_, ?_⟩, ⟨⟨[], (List.append_nil τ).symm⟩, ?_, ?_⟩, ?_⟩
  · refine xHI_set hH hh ht (show xKT 1 = some (.inr (4, 16, _)) from rfl) ⟨_, rfl, ⟨_, rfl⟩, fun j hj => ?_⟩
    have hj : j < 16 := hj
    by_cases e : j = c.toNatClampNeg
    · have ev : zm_kv (.inr (.inr (va_up f c.toNatClampNeg (some N)))) j = .ref N := by
        show va_rf (if j = _ then _ else _) = _
        rw [if_pos e]
        rfl
      refine ⟨((4, 207, 0, 0), .ofNat 0, .ofNat 15, 0, 0), List.mem_cons_of_mem _ List.mem_cons_self, ?_, by show (0 : Int) ≤ _; omega, by show _ ≤ (15 : Int); omega, Or.inl rfl⟩
      rw [ev]
      exact ⟨N, rfl, hN⟩
    · obtain ⟨x, x1, x2, x3⟩ := u3 j hj
      have ev : zm_kv (.inr (.inr (va_up f c.toNatClampNeg (some N)))) j = zm_kv (.inr (.inr f)) j := by
        show va_rf (if j = _ then _ else _) = _
        rw [if_neg e]
        rfl
      exact ⟨x, x1, by rw [ev]; exact x2, x3⟩
  · intro a' b' t n i c' g k1 k2 k3 k4 k5 k6 k7
    rw [hx] at k3 k4
    rw [xgs hh] at k5
    by_cases e : 1 = b'
    · rw [if_pos e] at k5
      cases k5
      show (if i = c.toNatClampNeg then some N else f i) ≠ none
      by_cases ei : i = c.toNatClampNeg
      · rw [if_pos ei]; simp
      · rw [if_neg ei]
        subst e
        exact sx1 a' 1 4 16 i c' f k1 k2 k3 k4 hh k6 k7
    · rw [if_neg e] at k5
      exact sx1 a' b' t n i c' g k1 k2 k3 k4 k5 k6 k7
  · intro n m j g1 g2 k1 k2 k3
    rw [xgs hh, if_neg (by decide)] at k1 k2
    exact sp n m j g1 g2 k1 k2 k3
  · intro v g c1 c2 c3 c4 c5
    rw [hx] at c1 c5
    exact sl v g c1 c2 c3 c4 c5
  · intro a kd g v ha hm hv
    rw [hx]
    exact hv
  · intro a kd cc ha hm hv
    rw [xgs hh]
    by_cases e : 1 = a
    · subst e
      rw [ht] at ha
      cases ha
      rw [hm1] at hm
      cases hm
    · rw [if_neg e]
      exact hv
  · have w := zm_set_sz (c2 := .inl (4, 16, .inr (.inr (va_up f c.toNatClampNeg (some N))))) hh rfl
    unfold xW
    rw [hx, w.1, w.2]
end XHY
end
section
/-! By hand: fields of a known cell -/
section XHZ
variable {τ : List Nat} {h : zm_H}
theorem xF_setf {MS : Nat → Nat → Bool} {a kd ci f : Nat} {fs : List Value} {v : Value} (ht : τ[a]? = some kd) (hm : MS kd f = true) (hh : h[a]? = some (.inr (ci, fs))) : xF MS τ h τ (h.set a (.inr (ci, fs.set f v))) := by
  refine ⟨⟨[], (List.append_nil τ).symm⟩, fun b kb g w hb hn hw => ?_, fun b kb c hb hn hw => ?_⟩
  · rw [xfd_set hh ?_]
    · exact hw
    · by_cases e : b = a
      · right
        rintro rfl
        subst e
        rw [ht] at hb
        cases hb
        rw [hm] at hn
        cases hn
      · exact Or.inl e
  · rw [xgs hh]
    by_cases e : a = b
    · subst e
      rw [hh] at hw
      cases hw
    · rw [if_neg e]
      exact hw
theorem xHI_setf {a kd ci f : Nat} {sps : List (List xA)} {fs : List Value} {v : Value} (hH : xHI xKT xSG τ h) (ht : τ[a]? = some kd) (hk : xKT kd = some (.inl (ci, sps))) (hh : h[a]? = some (.inr (ci, fs))) (hv : ∀ sp, sps[f]? = some sp → ∃ x ∈ sp, xsat τ x v) : xHI xKT xSG τ (h.set a (.inr (ci, fs.set f v))) := by
  obtain ⟨fs', q1, q2, q3⟩ := xcf_o hH ht hk
  rw [hh] at q1
  cases q1
  refine xHI_set hH hh ht hk ⟨_, rfl, by rw [List.length_set]; exact q2, fun g sp w c1 c2 => ?_⟩
  by_cases e : f = g
  · subst e
    have hl : f < fs.length := by
      have := (List.getElem?_eq_some_iff.mp c2).1
      rwa [List.length_set] at this
    rw [List.getElem?_set_self hl] at c2
    cases c2
    exact hv sp c1
  · rw [List.getElem?_set_ne e] at c2
    exact q3 g sp w c1 c2
theorem xct_h {MS : Nat → Nat → Bool} {c : Int32} {fs : List Value} {f : Nat → Option Nat} (hH : xHI xKT xSG τ h) (hX : xX τ h) (hm : MS 0 1 = true) (h0 : h[0]? = some (.inr (10, fs))) (f0 : fs[0]? = some (.ref 1)) (f1 : fs[1]? = some (.int c)) (hh : h[1]? = some (.inl (4, 16, .inr (.inr f)))) (hc : f c.toNatClampNeg ≠ none) (c0 : 0 ≤ c.toInt) (c15 : c.toInt ≤ 15) : xHI xKT xSG τ (h.set 0 (.inr (10, fs.set 1 (.int (c + 1))))) ∧ xX τ (h.set 0 (.inr (10, fs.set 1 (.int (c + 1))))) ∧ xF MS τ h τ (h.set 0 (.inr (10, fs.set 1 (.int (c + 1))))) ∧ xW (h.set 0 (.inr (10, fs.set 1 (.int (c + 1))))) = xW h := by
  obtain ⟨s0, sx1, sx2, sx3, sp, sl⟩ := hX
  have ht : τ[0]? = some 0 := s0 0 rfl
  have c1 : (c + 1).toInt = c.toInt + 1 := by
    rw [Int32.toInt_add]
    have e1 : xI32a = -2147483648 := rfl
    have e2 : xI32b = 2147483647 := rfl
    exact xb_bm32 (by show xI32a ≤ c.toInt + 1; omega) (by show c.toInt + 1 ≤ xI32b; omega)
  obtain ⟨hin, hjn, hjlt⟩ := xin_ok (j := c) (n := 16) c0 (by omega)
  have hl1 : 1 < fs.length := (List.getElem?_eq_some_iff.mp f1).1
  have hx : ∀ q g, q ≠ 0 ∨ g ≠ 1 → xfd (h.set 0 (.inr (10, fs.set 1 (.int (c + 1))))) q g = xfd h q g := fun q g hne => xfd_set h0 hne
  have px : ∀ {ak ok fa fc : Nat}, xPX ak ok fa fc τ h → ok ≠ 0 → xPX ak ok fa fc τ (h.set 0 (.inr (10, fs.set 1 (.int (c + 1))))) := by
    intro ak ok fa fc hx0 n1 a' b' t n i c' g k1 k2 k3 k4 k5 k6 k7
    have ha : a' ≠ 0 := fun e => by
      subst e
      rw [ht] at k1
      cases k1
      exact n1 rfl
    rw [hx _ _ (Or.inl ha)] at k3 k4
    rw [xgs h0] at k5
    by_cases e : 0 = b'
    · rw [if_pos e] at k5; cases k5
    · rw [if_neg e] at k5
      exact hx0 a' b' t n i c' g k1 k2 k3 k4 k5 k6 k7
  refine ⟨?_, ⟨s0, ?_, px sx2 (by decide), px sx3 (by decide), ?_, ?_⟩, xF_setf ht hm h0, ?_⟩
  · refine xHI_setf hH ht (show xKT 0 = some (.inl (10, _)) from rfl) h0 (fun sp' hs => ?_)
    cases hs
    exact ⟨_, List.mem_cons_self, c + 1, rfl, by show (0 : Int) ≤ _; omega, by show _ ≤ (16 : Int); omega⟩
  · intro a' b' t n i c' g k1 k2 k3 k4 k5 k6 k7
    rw [xgs h0] at k5
    by_cases e : 0 = b'
    · rw [if_pos e] at k5; cases k5
    · rw [if_neg e] at k5
      rw [hx _ _ (Or.inr (by decide))] at k3
      by_cases ea : a' = 0
      · subst ea
        have e0 : xfd h 0 0 = some (.ref 1) := by simp only [xfd, h0]; exact f0
        rw [e0] at k3
        cases k3
        have e1 : xfd (h.set 0 (.inr (10, fs.set 1 (.int (c + 1))))) 0 1 = some (.int (c + 1)) := by
          unfold xfd
          rw [xgs h0, if_pos rfl]
          exact List.getElem?_set_self hl1
        rw [e1] at k4
        cases k4
        rw [hh] at k5
        cases k5
        by_cases ei : (i : Int) < c.toInt
        · exact sx1 0 1 4 16 i c f k1 k2 e0 (by simp only [xfd, h0]; exact f1) hh ei k7
        · have ei : i = c.toNatClampNeg := by omega
          rw [ei]
          exact hc
      · rw [hx _ _ (Or.inl ea)] at k4
        exact sx1 a' b' t n i c' g k1 k2 k3 k4 k5 k6 k7
  · intro n m j g1 g2 k1 k2 k3
    rw [xgs h0, if_neg (by decide)] at k1 k2
    exact sp n m j g1 g2 k1 k2 k3
  · intro v g c1 c2 c3 c4 c5
    rw [hx _ _ (Or.inl (by decide))] at c1 c5
    exact sl v g c1 c2 c3 c4 c5
  · have w := zm_set_sz (c2 := .inr (10, fs.set 1 (.int (c + 1)))) h0 (by show (fs.set 1 _).length = fs.length; rw [List.length_set])
    unfold xW
    rw [hx _ _ (Or.inl (by decide)), w.1, w.2]
end XHZ
end
section
/-! By hand: house, the walk behind the tests -/
section XHW
variable {τ : List Nat} {h : zm_H} {og : Nat → Option zm_C}
theorem xh_eq {X D H' c1 c2 : zm_C} (h0 : 0 < h.length) : ((((h ++ [D]).set 0 X ++ [c1]) ++ [c2]).set h.length H') = (h ++ [H', c1, c2]).set 0 X := by
  cases h with
  | nil => exact absurd h0 (by decide)
  | cons a t =>
    show X :: (((t ++ [D]) ++ [c1]) ++ [c2]).set t.length H' = X :: (t ++ [H', c1, c2])
    rw [List.append_assoc, List.append_assoc, List.set_append_right _ _ (Nat.le_refl _), Nat.sub_self]
    rfl
def xhQ (τ : List Nat) (h : zm_H) (r : Option Value) (h' : zm_H) : Prop := (∃ b : Int32, r = some (.int b)) ∧ ∃ τ', xHI xKT xSG τ' h' ∧ xX τ' h' ∧ xF (xms [(0, 1), (0, 2), (1, 0), (36, 9)]) τ h τ' h' ∧ xW h' ≤ xW h + 90
theorem zh_h49 {d : Nat} {s w f m c : Int32} {fs : List Value} (hH : xHI xKT xSG τ h) (hX : xX τ h) (h0 : h[0]? = some (.inr (10, fs))) (f1 : fs[1]? = some (.int c)) (c0 : 0 ≤ c.toInt) (c15 : c.toInt ≤ 15) (m0 : 0 ≤ m.toInt ∧ m.toInt ≤ 60) : zm_Y og (d + 1) 12 49 [(0, .ref 0), (1, .int s), (2, .int w), (3, .int f), (4, .int m)] [] h (xhQ τ h) := by
  have s0 := hX.1
  have hlen := hH.1
  have sg : ∀ a : Nat, xSG a = true → a < h.length := fun a ha => by
    have := (List.getElem?_eq_some_iff.mp (s0 a ha)).1
    omega
  obtain ⟨fs', q1, hl, hsp⟩ := xcf_o hH (s0 0 rfl) (show xKT 0 = some (.inl (10, _)) from rfl)
  rw [h0] at q1
  cases q1
  have f0 : fs[0]? = some (.ref 1) := by
    have hl2 : 0 < fs.length := by rw [hl]; decide
    have g := List.getElem?_eq_getElem hl2
    obtain ⟨a, ma, sa⟩ := hsp 0 _ _ rfl g
    have ma := List.mem_singleton.mp ma
    subst ma
    rw [g, show fs[0] = .ref 1 from sa]
  have f10 : fs[10]? = some (.ref 36) := by
    have hl2 : 10 < fs.length := by rw [hl]; decide
    have g := List.getElem?_eq_getElem hl2
    obtain ⟨a, ma, sa⟩ := hsp 10 _ _ rfl g
    have ma := List.mem_singleton.mp ma
    subst ma
    rw [g, show fs[10] = .ref 36 from sa]
  obtain ⟨r, f2⟩ : ∃ r : Int32, fs[2]? = some (.int r) := by
    have hl2 : 2 < fs.length := by rw [hl]; decide
    have g := List.getElem?_eq_getElem hl2
    obtain ⟨a, ma, sa⟩ := hsp 2 _ _ rfl g
    have ma := List.mem_singleton.mp ma
    subst ma
    obtain ⟨r, e, -, -⟩ := sa
    exact ⟨r, by rw [g, e]⟩
  obtain ⟨kB, h1, b2, -⟩ := xcf_a hH (s0 1 rfl) (show xKT 1 = some (.inr (4, 16, _)) from rfl)
  obtain ⟨g, rfl⟩ := b2
  have h1 : h[1]? = some (.inl (4, 16, .inr (.inr g))) := h1
  obtain ⟨ps, h36, hl36, -⟩ := xcf_o hH (s0 36 rfl) (show xKT 36 = some (.inl (6, _)) from rfl)
  have h36 : h[36]? = some (.inr (6, ps)) := h36
  have b2 : Nat.blt 2 fs.length = true := by rw [hl]; rfl
  refine zy_n 1 (mr := zm_m12) rfl rfl ?_
  refine zy_h (mr := zm_m12) rfl rfl (zh_get h0 f0) ?_
  refine zy_n 1 (mr := zm_m12) rfl rfl ?_
  refine zy_h (mr := zm_m12) rfl rfl (zh_get h0 f1) ?_
  refine zy_h (mr := zm_m12) rfl rfl (zh_new (n := h.length) rfl) ?_
  refine zy_n 7 (mr := zm_m12) rfl rfl ?_
  refine zy_h (mr := zm_m12) rfl rfl (zh_get (zs_app h0) f2) ?_
  refine zy_n 3 (mr := zm_m12) rfl rfl ?_
  refine zy_h (mr := zm_m12) rfl rfl (zh_put (zs_app h0) b2 rfl) ?_
  have hnew : ((h ++ [Sum.inr (2, zm_df 2)]).set 0 (Sum.inr (10, fs.set 2 (.int (r + 1)))))[h.length]? = some (.inr (2, zm_df 2)) := by
    rw [List.getElem?_set_ne (by have := sg 0 rfl; omega), List.getElem?_append_right (Nat.le_refl _), Nat.sub_self]
    rfl
  refine zy_c (mr := zm_m12) (mc := zm_m15) rfl rfl rfl rfl rfl ?_
  refine (zh_hin (s := s) (w := w) (f := f) (m := m) (r := r) hnew).mono (fun q h' hq => ?_)
  obtain ⟨rfl, rfl⟩ := hq
  have hK := xHI_house (s := s) (w := w) (f := f) (r := r) hH m0
  have hXK := xX_house (s := s) (w := w) (f := f) (m := m) (r := r) hH hX
  have hFK : xF (xms [(0, 1), (0, 2), (1, 0), (36, 9)]) τ h (τ ++ [207, 208, 209]) (h ++ [xhho h.length s w f m r, xhc1, xhc2]) := xF_apl
  have hWK := xW_house (s := s) (w := w) (f := f) (m := m) (r := r) (sg 36 rfl)
  have hN : (τ ++ [207, 208, 209])[h.length]? = some 207 := by
    rw [hlen, List.getElem?_append_right (Nat.le_refl _), Nat.sub_self]
    rfl
  have kN : (h ++ [xhho h.length s w f m r, xhc1, xhc2])[h.length]? = some (xhho h.length s w f m r) := by
    rw [List.getElem?_append_right (Nat.le_refl _), Nat.sub_self]
    rfl
  have k0 : (h ++ [xhho h.length s w f m r, xhc1, xhc2])[0]? = some (.inr (10, fs)) := zs_app h0
  have k1 : (h ++ [xhho h.length s w f m r, xhc1, xhc2])[1]? = some (.inl (4, 16, .inr (.inr g))) := zs_app h1
  have k36 : (h ++ [xhho h.length s w f m r, xhc1, xhc2])[36]? = some (.inr (6, ps)) := zs_app h36
  have t0 : (τ ++ [207, 208, 209])[0]? = some 0 := xgl (s0 0 rfl)
  have t36 : (τ ++ [207, 208, 209])[36]? = some 36 := xgl (s0 36 rfl)
  have hn0 : 0 ≠ h.length := by have := sg 0 rfl; omega
  refine xY_eq (h' := (h ++ [xhho h.length s w f m r, xhc1, xhc2]).set 0 (.inr (10, fs.set 2 (.int (r + 1))))) ?_ ?_
  · have e1 : ((h ++ [Sum.inr (2, zm_df 2)]).set 0 (Sum.inr (10, fs.set 2 (.int (r + 1))))).length = h.length + 1 := by simp
    have e2 : ((h ++ [Sum.inr (2, zm_df 2)]).set 0 (Sum.inr (10, fs.set 2 (.int (r + 1)))) ++ [xhc1]).length = h.length + 2 := by simp
    rw [e1, e2]
    exact xh_eq (sg 0 rfl)
  generalize h ++ [xhho h.length s w f m r, xhc1, xhc2] = K at *
  generalize τ ++ [207, 208, 209] = T at *
  have hH1 := xHI_setf (f := 2) (v := .int (r + 1)) hK t0 (show xKT 0 = some (.inl (10, _)) from rfl) k0 (fun sp hs => by
    cases hs
    exact ⟨_, List.mem_cons_self, r + 1, rfl, (xb_rng _).1, (xb_rng _).2⟩)
  have hX1 := xXW_ok.1 T K 0 0 10 2 fs (.int (r + 1)) hXK t0 rfl k0 (by rw [hl]; decide)
  have hF1 := xF_setf (MS := xms [(0, 1), (0, 2), (1, 0), (36, 9)]) (f := 2) (v := .int (r + 1)) t0 rfl k0
  have j0 := zs_eq (x := .inr (10, fs.set 2 (.int (r + 1)))) k0
  have j1 := zs_ne (x := .inr (10, fs.set 2 (.int (r + 1)))) k1 (show (0 : Nat) ≠ 1 by decide)
  have jN := zs_ne (x := .inr (10, fs.set 2 (.int (r + 1)))) kN hn0
  have j36 := zs_ne (x := .inr (10, fs.set 2 (.int (r + 1)))) k36 (show (0 : Nat) ≠ 36 by decide)
  generalize K.set 0 (.inr (10, fs.set 2 (.int (r + 1)))) = K1 at *
  have g0 : (fs.set 2 (.int (r + 1)))[0]? = some (.ref 1) := by rw [List.getElem?_set_ne (by decide)]; exact f0
  have g1 : (fs.set 2 (.int (r + 1)))[1]? = some (.int c) := by rw [List.getElem?_set_ne (by decide)]; exact f1
  have g10 : (fs.set 2 (.int (r + 1)))[10]? = some (.ref 36) := by rw [List.getElem?_set_ne (by decide)]; exact f10
  have gl : Nat.blt 1 (fs.set 2 (.int (r + 1))).length = true := by rw [List.length_set, hl]; rfl
  generalize fs.set 2 (.int (r + 1)) = gs at *
  obtain ⟨hin, hjn, hjlt⟩ := xin_ok (j := c) (n := 16) c0 (by omega)
  obtain ⟨hH2, hX2, hF2, hW2⟩ := xst_h (MS := xms [(0, 1), (0, 2), (1, 0), (36, 9)]) hH1 hX1.1 rfl j1 hN c0 c15
  refine zy_h (mr := zm_m12) rfl rfl (zh_aast j1 jN rfl hin) ?_
  have i0 := zs_ne (x := .inl (4, 16, .inr (.inr (va_up g c.toNatClampNeg (some h.length))))) j0 (show (1 : Nat) ≠ 0 by decide)
  have i1 := zs_eq (x := .inl (4, 16, .inr (.inr (va_up g c.toNatClampNeg (some h.length))))) j1
  have i36 := zs_ne (x := .inl (4, 16, .inr (.inr (va_up g c.toNatClampNeg (some h.length))))) j36 (show (1 : Nat) ≠ 36 by decide)
  generalize K1.set 1 (.inl (4, 16, .inr (.inr (va_up g c.toNatClampNeg (some h.length))))) = K2 at *
  refine zy_n 1 (mr := zm_m12) rfl rfl ?_
  refine zy_h (mr := zm_m12) rfl rfl (zh_get i0 g10) ?_
  refine zy_n 1 (mr := zm_m12) rfl rfl ?_
  refine zy_h (mr := zm_m12) rfl rfl (zh_put i36 (by rw [hl36]; rfl) rfl) ?_
  have hH3 := xHI_setf (f := 9) (v := .int 0) hH2 t36 (show xKT 36 = some (.inl (6, _)) from rfl) i36 (fun sp hs => by
    cases hs
    exact ⟨_, List.mem_cons_self, 0, rfl, by decide, by decide⟩)
  have hX3 := xXW_ok.1 T K2 36 36 6 9 ps (.int 0) hX2 t36 rfl i36 (by rw [hl36]; decide)
  have hF3 := xF_setf (MS := xms [(0, 1), (0, 2), (1, 0), (36, 9)]) (f := 9) (v := .int 0) t36 rfl i36
  have l0 := zs_ne (x := .inr (6, ps.set 9 (.int 0))) i0 (show (36 : Nat) ≠ 0 by decide)
  have l1 := zs_ne (x := .inr (6, ps.set 9 (.int 0))) i1 (show (36 : Nat) ≠ 1 by decide)
  generalize K2.set 36 (.inr (6, ps.set 9 (.int 0))) = K3 at *
  refine zy_n 2 (mr := zm_m12) rfl rfl ?_
  refine zy_h (mr := zm_m12) rfl rfl (zh_get l0 g1) ?_
  refine zy_n 3 (mr := zm_m12) rfl rfl ?_
  refine zy_h (mr := zm_m12) rfl rfl (zh_put l0 gl rfl) ?_
  obtain ⟨hH4, hX4, hF4, hW4⟩ := xct_h (MS := xms [(0, 1), (0, 2), (1, 0), (36, 9)]) hH3 hX3.1 rfl l0 g0 g1 l1 (by
    show (if _ = _ then some h.length else _) ≠ none
    rw [if_pos rfl]
    simp) c0 c15
  refine zy_r (mr := zm_m12) rfl rfl rfl ⟨⟨c, rfl⟩, T, hH4, hX4, xF_trans hFK (xF_trans hF1 (xF_trans hF2 (xF_trans hF3 hF4))), ?_⟩
  have e1 := hX1.2
  have e3 := hX3.2
  show xW (K3.set 0 (.inr (10, gs.set 1 (.int (c + 1))))) ≤ _
  omega
end XHW
end
section
/-! By hand: house, the contract -/
section XHJ
variable {τ : List Nat} {h : zm_H} {og : Nat → Option zm_C}
theorem zh_isw {d : Nat} {a : Int32} : zm_Y og (d + 1) 13 0 [(0, .int a)] [] h (fun r h' => h' = h ∧ ∃ b : Int32, r = some (.int b)) := by
  refine zy_n 3 (mr := zm_m13) rfl rfl ?_
  refine zy_c (mr := zm_m13) (mc := zm_m10) rfl rfl rfl rfl rfl ?_
  refine zh_within.mono (fun q h' hq => ?_)
  obtain ⟨rfl, b, rfl, hb⟩ := hq
  rcases hb with rfl | ⟨rfl, -, -⟩
  · exact zy_r (mr := zm_m13) rfl rfl rfl ⟨rfl, 0, rfl⟩
  · exact zy_r (mr := zm_m13) rfl rfl rfl ⟨rfl, 1, rfl⟩
theorem zh_isf {d : Nat} {a : Int32} : zm_Y og (d + 1) 14 0 [(0, .int a)] [] h (fun r h' => h' = h ∧ ∃ b : Int32, r = some (.int b)) := by
  refine zy_n 3 (mr := zm_m14) rfl rfl ?_
  refine zy_c (mr := zm_m14) (mc := zm_m10) rfl rfl rfl rfl rfl ?_
  refine zh_within.mono (fun q h' hq => ?_)
  obtain ⟨rfl, b, rfl, hb⟩ := hq
  rcases hb with rfl | ⟨rfl, -, -⟩
  · exact zy_r (mr := zm_m14) rfl rfl rfl ⟨rfl, 0, rfl⟩
  · exact zy_r (mr := zm_m14) rfl rfl rfl ⟨rfl, 1, rfl⟩
theorem zh_house {d : Nat} {s w f m : Int32} (hH : xHI xKT xSG τ h) (hX : xX τ h) : zm_Y og (d + 2) 12 0 [(0, .ref 0), (1, .int s), (2, .int w), (3, .int f), (4, .int m)] [] h (xhQ τ h) := by
  have fail : zm_Y og (d + 2) 12 34 [(0, .ref 0), (1, .int s), (2, .int w), (3, .int f), (4, .int m)] [] h (xhQ τ h) := by
    refine zy_n 1 (mr := zm_m12) rfl rfl ?_
    exact zy_r (mr := zm_m12) rfl rfl rfl ⟨⟨-2, rfl⟩, τ, hH, hX, xF_refl _ _ _, Nat.le_add_right _ _⟩
  refine zy_n 3 (mr := zm_m12) rfl rfl ?_
  refine zy_c (mr := zm_m12) (mc := zm_m10) rfl rfl rfl rfl rfl ?_
  refine zh_within.mono (fun q h' hq => ?_)
  obtain ⟨rfl, b, rfl, -⟩ := hq
  refine zy_b (mr := zm_m12) rfl rfl rfl ?_
  refine zi_eq (fun _ => fail) (fun _ => ?_)
  refine zy_n 1 (mr := zm_m12) rfl rfl ?_
  refine zy_c (mr := zm_m12) (mc := zm_m13) rfl rfl rfl rfl rfl ?_
  refine zh_isw.mono (fun q h' hq => ?_)
  obtain ⟨rfl, b, rfl⟩ := hq
  refine zy_b (mr := zm_m12) rfl rfl rfl ?_
  refine zi_eq (fun _ => fail) (fun _ => ?_)
  refine zy_n 1 (mr := zm_m12) rfl rfl ?_
  refine zy_c (mr := zm_m12) (mc := zm_m14) rfl rfl rfl rfl rfl ?_
  refine zh_isf.mono (fun q h' hq => ?_)
  obtain ⟨rfl, b, rfl⟩ := hq
  refine zy_b (mr := zm_m12) rfl rfl rfl ?_
  refine zi_eq (fun _ => fail) (fun _ => ?_)
  refine zy_n 3 (mr := zm_m12) rfl rfl ?_
  refine zy_c (mr := zm_m12) (mc := zm_m10) rfl rfl rfl rfl rfl ?_
  refine zh_within.mono (fun q h' hq => ?_)
  obtain ⟨rfl, b, rfl, hb⟩ := hq
  refine zy_b (mr := zm_m12) rfl rfl rfl ?_
  refine zi_ne (fun hn => ?_) (fun _ => fail)
  obtain ⟨-, m1, m2⟩ := hb.resolve_left hn
  have m1 := Int32.le_iff_toInt_le.mp m1
  have m2 := Int32.le_iff_toInt_le.mp m2
  have e1 : (1 : Int32).toInt = 1 := rfl
  have e60 : (60 : Int32).toInt = 60 := rfl
  obtain ⟨fs, h0, hl, hsp⟩ := xcf_o hH (hX.1 0 rfl) (show xKT 0 = some (.inl (10, _)) from rfl)
  obtain ⟨c, f1, c0⟩ : ∃ c : Int32, fs[1]? = some (.int c) ∧ (0 : Int) ≤ c.toInt := by
    have hl2 : 1 < fs.length := by rw [hl]; decide
    have g := List.getElem?_eq_getElem hl2
    obtain ⟨a, ma, sa⟩ := hsp 1 _ _ rfl g
    have ma := List.mem_singleton.mp ma
    subst ma
    obtain ⟨c, e, c0, -⟩ := sa
    exact ⟨c, by rw [g, e], c0⟩
  refine zy_n 1 (mr := zm_m12) rfl rfl ?_
  refine zy_h (mr := zm_m12) rfl rfl (zh_get h0 f1) ?_
  refine zy_n 1 (mr := zm_m12) rfl rfl ?_
  refine zy_b (mr := zm_m12) rfl rfl rfl ?_
  refine zc_lt (fun hc => ?_) (fun _ => ?_)
  · have hc := Int32.lt_iff_toInt_lt.mp hc
    have e16 : (16 : Int32).toInt = 16 := rfl
    exact zh_h49 (d := d + 1) hH hX h0 f1 c0 (by omega) ⟨by omega, by omega⟩
  · refine zy_n 1 (mr := zm_m12) rfl rfl ?_
    exact zy_r (mr := zm_m12) rfl rfl rfl ⟨⟨-3, rfl⟩, τ, hH, hX, xF_refl _ _ _, Nat.le_add_right _ _⟩
theorem xhouse_end {τ' : List Nat} {h' : zm_H} {ρ : List Int} {σ : List Nat} {i : Int32} (hρ : ρ.length = 4) (hσ : σ.length = 0) (hH : xHI xKT xSG τ' h') (hX : xX τ' h') (hF : xF (xms xc_57.2.2.2.1) τ h τ' h') (hW : xW h' ≤ xW h + 90) : xQc xVV xX xW xc_57 ρ σ τ h (some (.int i)) h' := by
  have hg : (ρ ++ [i.toInt])[4]? = some i.toInt := by
    rw [List.getElem?_append_right (by omega), hρ]
    rfl
  have hno : ∀ {α : Type} {P : α → Prop}, ∀ q ∈ ([] : List α), P q := fun q hq => by cases hq
  refine ⟨τ', hH, hX, hF, hW, _, List.mem_cons_self, [i.toInt], [], ⟨⟨⟨fun q hq => ?_, hno⟩, ?_⟩, ⟨?_, fun k kd hk => ?_⟩, hno, hno⟩, i, rfl, xe_sym (s := 4) hg⟩
  · have hq := List.mem_singleton.mp hq
    subst hq
    exact ⟨i.toInt, hg, (xb_rng i).1, (xb_rng i).2⟩
  · show 5 = _
    rw [List.length_append, hρ]
    rfl
  · rw [List.append_nil]
    exact hσ
  · have hk : ([] : List Nat)[k]? = some kd := hk
    simp at hk
theorem xv_57 : xV xVV xX xW og xc_57 := by
  intro ρ σ τ h lc hH hX hD hl
  have hl : ∀ q ∈ [((0 : Nat), ((3, xk 0, 0) : xv)), (1, (0, (.ofNat 0, [(0, .ofNat 1)]), 0)), (2, (0, (.ofNat 0, [(1, .ofNat 1)]), 0)), (3, (0, (.ofNat 0, [(2, .ofNat 1)]), 0)), (4, (0, (.ofNat 0, [(3, .ofNat 1)]), 0))], _ := hl
  simp only [List.forall_mem_cons] at hl
  obtain ⟨⟨v0, g0, rfl⟩, ⟨v1, g1, s, rfl, -⟩, ⟨v2, g2, w, rfl, -⟩, ⟨v3, g3, f, rfl, -⟩, ⟨v4, g4, m, rfl, -⟩, -⟩ := hl
  refine zy_sub [(0, .ref 0), (1, .int s), (2, .int w), (3, .int f), (4, .int m)] (by simp) (fun q hq => ?_) ?_
  · simp only [List.mem_cons, List.not_mem_nil, or_false] at hq
    rcases hq with rfl | rfl | rfl | rfl | rfl
    · exact g0
    · exact g1
    · exact g2
    · exact g3
    · exact g4
  · show zm_Y og (10 + 2) 12 0 _ _ _ _
    refine (zh_house hH hX).mono (fun r h' hq => ?_)
    obtain ⟨⟨i, rfl⟩, τ', k1, k2, k3, k4⟩ := hq
    exact xhouse_end hD.1.2.symm hD.2.1.1 k1 k2 k3 k4
end XHJ
end
section
/-! By hand: an ACT comes into its row -/
section XLY
variable {τ : List Nat} {h : zm_H}
theorem xst_l {MS : Nat → Nat → Bool} {N : Nat} {c : Int32} {f : Nat → Option Nat} (hH : xHI xKT xSG τ h) (hX : xX τ h) (hm1 : MS 8 0 = true) (hh : h[8]? = some (.inl (5, 12, .inr (.inr f)))) (hN : τ[N]? = some 200) (c0 : 0 ≤ c.toInt) (c11 : c.toInt ≤ 11) : xHI xKT xSG τ (h.set 8 (.inl (5, 12, .inr (.inr (va_up f c.toNatClampNeg (some N)))))) ∧ xX τ (h.set 8 (.inl (5, 12, .inr (.inr (va_up f c.toNatClampNeg (some N)))))) ∧ xF MS τ h τ (h.set 8 (.inl (5, 12, .inr (.inr (va_up f c.toNatClampNeg (some N)))))) ∧ xW (h.set 8 (.inl (5, 12, .inr (.inr (va_up f c.toNatClampNeg (some N)))))) = xW h := by
  obtain ⟨s0, sx1, sx2, sx3, sp, sl⟩ := hX
  have ht : τ[8]? = some 8 := s0 8 rfl
  obtain ⟨kB, u1, u2, u3⟩ := xcf_a hH ht (show xKT 8 = some (.inr (5, 12, _)) from rfl)
  rw [hh] at u1
  cases u1
  have hx : ∀ q g, xfd (h.set 8 (.inl (5, 12, .inr (.inr (va_up f c.toNatClampNeg (some N)))))) q g = xfd h q g := by
    intro q g
    unfold xfd
    rw [xgs hh]
    by_cases e : 8 = q
    · rw [if_pos e, ← e, hh]
    · rw [if_neg e]
  have px : ∀ {ak ok fa fc : Nat}, xPX ak ok fa fc τ h → ak ≠ 8 → xPX ak ok fa fc τ (h.set 8 (.inl (5, 12, .inr (.inr (va_up f c.toNatClampNeg (some N)))))) := by
    intro ak ok fa fc hx0 n1 a' b' t n i c' g k1 k2 k3 k4 k5 k6 k7
    rw [hx] at k3 k4
    rw [xgs hh] at k5
    by_cases e : 8 = b'
    · subst e
      rw [ht] at k2
      cases k2
      exact absurd rfl n1
    · rw [if_neg e] at k5
      exact hx0 a' b' t n i c' g k1 k2 k3 k4 k5 k6 k7
  refine ⟨?_, ⟨s0, px sx1 (by decide), ?_, px sx3 (by decide), ?_, ?_⟩, ⟨⟨[], (List.append_nil τ).symm⟩, ?_, ?_⟩, ?_⟩
  · refine xHI_set hH hh ht (show xKT 8 = some (.inr (5, 12, _)) from rfl) ⟨_, rfl, ⟨_, rfl⟩, fun j hj => ?_⟩
    have hj : j < 12 := hj
    by_cases e : j = c.toNatClampNeg
    · have ev : zm_kv (.inr (.inr (va_up f c.toNatClampNeg (some N)))) j = .ref N := by
        show va_rf (if j = _ then _ else _) = _
        rw [if_pos e]
        rfl
      refine ⟨((4, 200, 0, 0), .ofNat 0, .ofNat 11, 0, 0), List.mem_cons_of_mem _ List.mem_cons_self, ?_, by show (0 : Int) ≤ _; omega, by show _ ≤ (11 : Int); omega, Or.inl rfl⟩
      rw [ev]
      exact ⟨N, rfl, hN⟩
    · obtain ⟨x, x1, x2, x3⟩ := u3 j hj
      have ev : zm_kv (.inr (.inr (va_up f c.toNatClampNeg (some N)))) j = zm_kv (.inr (.inr f)) j := by
        show va_rf (if j = _ then _ else _) = _
        rw [if_neg e]
        rfl
      exact ⟨x, x1, by rw [ev]; exact x2, x3⟩
  · intro a' b' t n i c' g k1 k2 k3 k4 k5 k6 k7
    rw [hx] at k3 k4
    rw [xgs hh] at k5
    by_cases e : 8 = b'
    · rw [if_pos e] at k5
      cases k5
      show (if i = c.toNatClampNeg then some N else f i) ≠ none
      by_cases ei : i = c.toNatClampNeg
      · rw [if_pos ei]; simp
      · rw [if_neg ei]
        subst e
        exact sx2 a' 8 5 12 i c' f k1 k2 k3 k4 hh k6 k7
    · rw [if_neg e] at k5
      exact sx2 a' b' t n i c' g k1 k2 k3 k4 k5 k6 k7
  · intro n m j g1 g2 k1 k2 k3
    rw [xgs hh, if_neg (by decide)] at k1 k2
    exact sp n m j g1 g2 k1 k2 k3
  · intro v g c1 c2 c3 c4 c5
    rw [hx] at c1 c5
    exact sl v g c1 c2 c3 c4 c5
  · intro a kd g v ha hm hv
    rw [hx]
    exact hv
  · intro a kd cc ha hm hv
    rw [xgs hh]
    by_cases e : 8 = a
    · subst e
      rw [ht] at ha
      cases ha
      rw [hm1] at hm
      cases hm
    · rw [if_neg e]
      exact hv
  · have w := zm_set_sz (c2 := .inl (5, 12, .inr (.inr (va_up f c.toNatClampNeg (some N))))) hh rfl
    unfold xW
    rw [hx, w.1, w.2]
end XLY
end
section
/-! By hand: an ACT is counted -/
section XLZ
variable {τ : List Nat} {h : zm_H}
theorem xct_l {MS : Nat → Nat → Bool} {c : Int32} {fs : List Value} {f : Nat → Option Nat} (hH : xHI xKT xSG τ h) (hX : xX τ h) (hm : MS 7 1 = true) (h0 : h[7]? = some (.inr (3, fs))) (f0 : fs[0]? = some (.ref 8)) (f1 : fs[1]? = some (.int c)) (hh : h[8]? = some (.inl (5, 12, .inr (.inr f)))) (hc : f c.toNatClampNeg ≠ none) (c0 : 0 ≤ c.toInt) (c11 : c.toInt ≤ 11) : xHI xKT xSG τ (h.set 7 (.inr (3, fs.set 1 (.int (c + 1))))) ∧ xX τ (h.set 7 (.inr (3, fs.set 1 (.int (c + 1))))) ∧ xF MS τ h τ (h.set 7 (.inr (3, fs.set 1 (.int (c + 1))))) ∧ xW (h.set 7 (.inr (3, fs.set 1 (.int (c + 1))))) = xW h := by
  obtain ⟨s0, sx1, sx2, sx3, sp, sl⟩ := hX
  have ht : τ[7]? = some 7 := s0 7 rfl
  have c1 : (c + 1).toInt = c.toInt + 1 := by
    rw [Int32.toInt_add]
    have e1 : xI32a = -2147483648 := rfl
    have e2 : xI32b = 2147483647 := rfl
    exact xb_bm32 (by show xI32a ≤ c.toInt + 1; omega) (by show c.toInt + 1 ≤ xI32b; omega)
  obtain ⟨hin, hjn, hjlt⟩ := xin_ok (j := c) (n := 12) c0 (by omega)
  have hl1 : 1 < fs.length := (List.getElem?_eq_some_iff.mp f1).1
  have hx : ∀ q g, q ≠ 7 ∨ g ≠ 1 → xfd (h.set 7 (.inr (3, fs.set 1 (.int (c + 1))))) q g = xfd h q g := fun q g hne => xfd_set h0 hne
  have px : ∀ {ak ok fa fc : Nat}, xPX ak ok fa fc τ h → ok ≠ 7 → xPX ak ok fa fc τ (h.set 7 (.inr (3, fs.set 1 (.int (c + 1))))) := by
    intro ak ok fa fc hx0 n1 a' b' t n i c' g k1 k2 k3 k4 k5 k6 k7
    have ha : a' ≠ 7 := fun e => by
      subst e
      rw [ht] at k1
      cases k1
      exact n1 rfl
    rw [hx _ _ (Or.inl ha)] at k3 k4
    rw [xgs h0] at k5
    by_cases e : 7 = b'
    · rw [if_pos e] at k5; cases k5
    · rw [if_neg e] at k5
      exact hx0 a' b' t n i c' g k1 k2 k3 k4 k5 k6 k7
  refine ⟨?_, ⟨s0, px sx1 (by decide), ?_, px sx3 (by decide), ?_, ?_⟩, xF_setf ht hm h0, ?_⟩
  · refine xHI_setf hH ht (show xKT 7 = some (.inl (3, _)) from rfl) h0 (fun sp' hs => ?_)
    cases hs
    exact ⟨_, List.mem_cons_self, c + 1, rfl, by show (0 : Int) ≤ _; omega, by show _ ≤ (12 : Int); omega⟩
  · intro a' b' t n i c' g k1 k2 k3 k4 k5 k6 k7
    rw [xgs h0] at k5
    by_cases e : 7 = b'
    · rw [if_pos e] at k5; cases k5
    · rw [if_neg e] at k5
      rw [hx _ _ (Or.inr (by decide))] at k3
      by_cases ea : a' = 7
      · subst ea
        have e0 : xfd h 7 0 = some (.ref 8) := by simp only [xfd, h0]; exact f0
        rw [e0] at k3
        cases k3
        have e1 : xfd (h.set 7 (.inr (3, fs.set 1 (.int (c + 1))))) 7 1 = some (.int (c + 1)) := by
          unfold xfd
          rw [xgs h0, if_pos rfl]
          exact List.getElem?_set_self hl1
        rw [e1] at k4
        cases k4
        rw [hh] at k5
        cases k5
        by_cases ei : (i : Int) < c.toInt
        · exact sx2 7 8 5 12 i c f k1 k2 e0 (by simp only [xfd, h0]; exact f1) hh ei k7
        · have ei : i = c.toNatClampNeg := by omega
          rw [ei]
          exact hc
      · rw [hx _ _ (Or.inl ea)] at k4
        exact sx2 a' b' t n i c' g k1 k2 k3 k4 k5 k6 k7
  · intro n m j g1 g2 k1 k2 k3
    rw [xgs h0, if_neg (by decide)] at k1 k2
    exact sp n m j g1 g2 k1 k2 k3
  · intro v g c1 c2 c3 c4 c5
    rw [hx _ _ (Or.inl (by decide))] at c1 c5
    exact sl v g c1 c2 c3 c4 c5
  · have w := zm_set_sz (c2 := .inr (3, fs.set 1 (.int (c + 1)))) h0 (by show (fs.set 1 _).length = fs.length; rw [List.length_set])
    unfold xW
    rw [hx _ _ (Or.inl (by decide)), w.1, w.2]
end XLZ
end
section
/-! By hand: the constructor of a TEXT -/
section XTN
variable {k : zm_H} {og : Nat → Option zm_C}
def xtc1 : zm_C := Sum.inl (0, 300, zm_zero 0)
def xtc2 : zm_C := Sum.inl (0, 12, zm_zero 0)
theorem zh_tin {d N : Nat} {v0 v1 v2 v3 v4 v5 v6 v7 v8 v9 : Value} (hh : k[N]? = some (.inr (9, [v0, v1, v2, v3, v4, v5, v6, v7, v8, v9]))) : zm_Y og d 3 0 [(0, .ref N), (1, .int 300), (2, .int 12)] [] k (fun q h' => q = none ∧ h' = ((((((k ++ [xtc1]) ++ [xtc2]) ++ [xtc2]) ++ [xtc2]) ++ [xtc2]) ++ [xtc2]).set N (.inr (9, [.ref k.length, .int 0, .ref (k ++ [xtc1]).length, .ref ((k ++ [xtc1]) ++ [xtc2]).length, .ref (((k ++ [xtc1]) ++ [xtc2]) ++ [xtc2]).length, .ref ((((k ++ [xtc1]) ++ [xtc2]) ++ [xtc2]) ++ [xtc2]).length, .ref (((((k ++ [xtc1]) ++ [xtc2]) ++ [xtc2]) ++ [xtc2]) ++ [xtc2]).length, .int 0, .int 0, .null]))) := by
  have n0 : N < k.length := (List.getElem?_eq_some_iff.mp hh).1
  have n1 : N < (k ++ [xtc1]).length := xlt_app n0
  have h1 : (k ++ [xtc1])[N]? = some (.inr (9, [v0, v1, v2, v3, v4, v5, v6, v7, v8, v9])) := zs_app hh
  have n2 : N < ((k ++ [xtc1]) ++ [xtc2]).length := xlt_app n1
  have h2 : ((k ++ [xtc1]) ++ [xtc2])[N]? = some (.inr (9, [v0, v1, v2, v3, v4, v5, v6, v7, v8, v9])) := zs_app h1
  have n3 : N < (((k ++ [xtc1]) ++ [xtc2]) ++ [xtc2]).length := xlt_app n2
  have h3 : (((k ++ [xtc1]) ++ [xtc2]) ++ [xtc2])[N]? = some (.inr (9, [v0, v1, v2, v3, v4, v5, v6, v7, v8, v9])) := zs_app h2
  have n4 : N < ((((k ++ [xtc1]) ++ [xtc2]) ++ [xtc2]) ++ [xtc2]).length := xlt_app n3
  have h4 : ((((k ++ [xtc1]) ++ [xtc2]) ++ [xtc2]) ++ [xtc2])[N]? = some (.inr (9, [v0, v1, v2, v3, v4, v5, v6, v7, v8, v9])) := zs_app h3
  have n5 : N < (((((k ++ [xtc1]) ++ [xtc2]) ++ [xtc2]) ++ [xtc2]) ++ [xtc2]).length := xlt_app n4
  have h5 : (((((k ++ [xtc1]) ++ [xtc2]) ++ [xtc2]) ++ [xtc2]) ++ [xtc2])[N]? = some (.inr (9, [v0, v1, v2, v3, v4, v5, v6, v7, v8, v9])) := zs_app h4
  have n6 : N < ((((((k ++ [xtc1]) ++ [xtc2]) ++ [xtc2]) ++ [xtc2]) ++ [xtc2]) ++ [xtc2]).length := xlt_app n5
  have h6 : ((((((k ++ [xtc1]) ++ [xtc2]) ++ [xtc2]) ++ [xtc2]) ++ [xtc2]) ++ [xtc2])[N]? = some (.inr (9, [v0, v1, v2, v3, v4, v5, v6, v7, v8, v9])) := zs_app h5
  refine zy_n 1 (mr := zm_m3) rfl rfl ?_
  refine zy_h (mr := zm_m3) rfl rfl zh_oinit ?_
  refine zy_n 2 (mr := zm_m3) rfl rfl ?_
  refine zy_h (mr := zm_m3) rfl rfl (zh_put hh rfl rfl) ?_
  refine zy_n 2 (mr := zm_m3) rfl rfl ?_
  refine zy_h (mr := zm_m3) rfl rfl (zh_put (zs_eq hh) rfl rfl) ?_
  rw [zs_set2]
  refine zy_n 2 (mr := zm_m3) rfl rfl ?_
  refine zy_h (mr := zm_m3) rfl rfl (zh_put (zs_eq hh) rfl rfl) ?_
  rw [zs_set2]
  refine zy_n 2 (mr := zm_m3) rfl rfl ?_
  refine zy_h (mr := zm_m3) rfl rfl (zh_put (zs_eq hh) rfl rfl) ?_
  rw [zs_set2]
  refine zy_n 2 (mr := zm_m3) rfl rfl ?_
  refine zy_h (mr := zm_m3) rfl rfl (zh_newa (n := k.length) (by rw [List.length_set]) rfl rfl) ?_
  refine xY_eq (xset_app0 (a := xtc1) n0) ?_
  refine zy_h (mr := zm_m3) rfl rfl (zh_put (zs_eq h1) rfl rfl) ?_
  rw [zs_set2]
  refine zy_n 2 (mr := zm_m3) rfl rfl ?_
  refine zy_h (mr := zm_m3) rfl rfl (zh_newa (n := (k ++ [xtc1]).length) (by rw [List.length_set]) rfl rfl) ?_
  refine xY_eq (xset_app0 (a := xtc2) n1) ?_
  refine zy_h (mr := zm_m3) rfl rfl (zh_put (zs_eq h2) rfl rfl) ?_
  rw [zs_set2]
  refine zy_n 2 (mr := zm_m3) rfl rfl ?_
  refine zy_h (mr := zm_m3) rfl rfl (zh_newa (n := ((k ++ [xtc1]) ++ [xtc2]).length) (by rw [List.length_set]) rfl rfl) ?_
  refine xY_eq (xset_app0 (a := xtc2) n2) ?_
  refine zy_h (mr := zm_m3) rfl rfl (zh_put (zs_eq h3) rfl rfl) ?_
  rw [zs_set2]
  refine zy_n 2 (mr := zm_m3) rfl rfl ?_
  refine zy_h (mr := zm_m3) rfl rfl (zh_newa (n := (((k ++ [xtc1]) ++ [xtc2]) ++ [xtc2]).length) (by rw [List.length_set]) rfl rfl) ?_
  refine xY_eq (xset_app0 (a := xtc2) n3) ?_
  refine zy_h (mr := zm_m3) rfl rfl (zh_put (zs_eq h4) rfl rfl) ?_
  rw [zs_set2]
  refine zy_n 2 (mr := zm_m3) rfl rfl ?_
  refine zy_h (mr := zm_m3) rfl rfl (zh_newa (n := ((((k ++ [xtc1]) ++ [xtc2]) ++ [xtc2]) ++ [xtc2]).length) (by rw [List.length_set]) rfl rfl) ?_
  refine xY_eq (xset_app0 (a := xtc2) n4) ?_
  refine zy_h (mr := zm_m3) rfl rfl (zh_put (zs_eq h5) rfl rfl) ?_
  rw [zs_set2]
  refine zy_n 2 (mr := zm_m3) rfl rfl ?_
  refine zy_h (mr := zm_m3) rfl rfl (zh_newa (n := (((((k ++ [xtc1]) ++ [xtc2]) ++ [xtc2]) ++ [xtc2]) ++ [xtc2]).length) (by rw [List.length_set]) rfl rfl) ?_
  refine xY_eq (xset_app0 (a := xtc2) n5) ?_
  refine zy_h (mr := zm_m3) rfl rfl (zh_put (zs_eq h6) rfl rfl) ?_
  rw [zs_set2]
  exact zy_r (mr := zm_m3) rfl rfl rfl ⟨rfl, rfl⟩
end XTN
end
section
/-! By hand: the seven cells of a new TEXT -/
section XTE
variable {τ : List Nat} {h : zm_H}
def xtho (n : Nat) : zm_C := Sum.inr (9, [.ref (n + 1), .int 0, .ref (n + 2), .ref (n + 3), .ref (n + 4), .ref (n + 5), .ref (n + 6), .int 0, .int 0, .null])
def xtcs (n : Nat) : zm_H := [xtho n, xtc1, xtc2, xtc2, xtc2, xtc2, xtc2]
theorem xHI_text (hH : xHI xKT xSG τ h) : xHI xKT xSG (τ ++ [200, 201, 202, 203, 204, 205, 206]) (h ++ xtcs h.length) := by
  have hlen := hH.1
  refine xHI_apps hH rfl (fun i kd hk => ?_)
  have hi : i < 7 := by
    have := (List.getElem?_eq_some_iff.mp hk).1
    simpa using this
  rcases (show i = 0 ∨ i = 1 ∨ i = 2 ∨ i = 3 ∨ i = 4 ∨ i = 5 ∨ i = 6 by omega) with rfl | rfl | rfl | rfl | rfl | rfl | rfl
  · cases hk
    refine ⟨_, _, (show xKT 200 = some (.inl (9, _)) from rfl), rfl, _, rfl, rfl, fun g sp' v' c1 c2 => ?_⟩
    have hlt : g < 10 := by
      have := (List.getElem?_eq_some_iff.mp c2).1
      simpa using this
    rcases (show g = 0 ∨ g = 1 ∨ g = 2 ∨ g = 3 ∨ g = 4 ∨ g = 5 ∨ g = 6 ∨ g = 7 ∨ g = 8 ∨ g = 9 by omega) with rfl | rfl | rfl | rfl | rfl | rfl | rfl | rfl | rfl | rfl
    · cases c1; cases c2; exact ⟨_, List.mem_cons_self, h.length + 1, rfl, by rw [hlen, List.getElem?_append_right (by omega), Nat.add_sub_cancel_left]; rfl⟩
    · cases c1; cases c2; exact ⟨_, List.mem_cons_self, 0, rfl, by decide, by decide⟩
    · cases c1; cases c2; exact ⟨_, List.mem_cons_self, h.length + 2, rfl, by rw [hlen, List.getElem?_append_right (by omega), Nat.add_sub_cancel_left]; rfl⟩
    · cases c1; cases c2; exact ⟨_, List.mem_cons_self, h.length + 3, rfl, by rw [hlen, List.getElem?_append_right (by omega), Nat.add_sub_cancel_left]; rfl⟩
    · cases c1; cases c2; exact ⟨_, List.mem_cons_self, h.length + 4, rfl, by rw [hlen, List.getElem?_append_right (by omega), Nat.add_sub_cancel_left]; rfl⟩
    · cases c1; cases c2; exact ⟨_, List.mem_cons_self, h.length + 5, rfl, by rw [hlen, List.getElem?_append_right (by omega), Nat.add_sub_cancel_left]; rfl⟩
    · cases c1; cases c2; exact ⟨_, List.mem_cons_self, h.length + 6, rfl, by rw [hlen, List.getElem?_append_right (by omega), Nat.add_sub_cancel_left]; rfl⟩
    · cases c1; cases c2; exact ⟨_, List.mem_cons_self, 0, rfl, by decide, by decide⟩
    · cases c1; cases c2; exact ⟨_, List.mem_cons_self, 0, rfl, by decide, by decide⟩
    · cases c1; cases c2; exact ⟨_, List.mem_cons_self, rfl⟩
  · cases hk
    refine ⟨_, _, (show xKT 201 = some (.inr (0, 300, _)) from rfl), rfl, _, rfl, ⟨_, rfl⟩, fun j hj => ?_⟩
    have hj : j < 300 := hj
    exact ⟨_, List.mem_cons_self, ⟨0, rfl, by decide, by decide⟩, by show (0 : Int) ≤ _; omega, by show _ ≤ (299 : Int); omega, Or.inl rfl⟩
  · cases hk
    refine ⟨_, _, (show xKT 202 = some (.inr (0, 12, _)) from rfl), rfl, _, rfl, ⟨_, rfl⟩, fun j hj => ?_⟩
    have hj : j < 12 := hj
    exact ⟨_, List.mem_cons_self, ⟨0, rfl, by decide, by decide⟩, by show (0 : Int) ≤ _; omega, by show _ ≤ (11 : Int); omega, Or.inl rfl⟩
  · cases hk
    refine ⟨_, _, (show xKT 203 = some (.inr (0, 12, _)) from rfl), rfl, _, rfl, ⟨_, rfl⟩, fun j hj => ?_⟩
    have hj : j < 12 := hj
    exact ⟨_, List.mem_cons_self, ⟨0, rfl, by decide, by decide⟩, by show (0 : Int) ≤ _; omega, by show _ ≤ (11 : Int); omega, Or.inl rfl⟩
  · cases hk
    refine ⟨_, _, (show xKT 204 = some (.inr (0, 12, _)) from rfl), rfl, _, rfl, ⟨_, rfl⟩, fun j hj => ?_⟩
    have hj : j < 12 := hj
    exact ⟨_, List.mem_cons_self, ⟨0, rfl, by decide, by decide⟩, by show (0 : Int) ≤ _; omega, by show _ ≤ (11 : Int); omega, Or.inl rfl⟩
  · cases hk
    refine ⟨_, _, (show xKT 205 = some (.inr (0, 12, _)) from rfl), rfl, _, rfl, ⟨_, rfl⟩, fun j hj => ?_⟩
    have hj : j < 12 := hj
    exact ⟨_, List.mem_cons_self, ⟨0, rfl, by decide, by decide⟩, by show (0 : Int) ≤ _; omega, by show _ ≤ (11 : Int); omega, Or.inl rfl⟩
  · cases hk
    refine ⟨_, _, (show xKT 206 = some (.inr (0, 12, _)) from rfl), rfl, _, rfl, ⟨_, rfl⟩, fun j hj => ?_⟩
    have hj : j < 12 := hj
    exact ⟨_, List.mem_cons_self, ⟨0, rfl, by decide, by decide⟩, by show (0 : Int) ≤ _; omega, by show _ ≤ (11 : Int); omega, Or.inl rfl⟩
end XTE
end
section
/-! By hand: a new TEXT keeps what the hands know -/
section XTX
variable {τ : List Nat} {h : zm_H}
theorem xlt_aps {q kq : Nat} {ks : List Nat} (hl : h.length = τ.length) (hq : (τ ++ ks)[q]? = some kq) (ka : kq ∉ ks) : q < h.length ∧ τ[q]? = some kq := by
  by_cases hl2 : q < τ.length
  · rw [List.getElem?_append_left hl2] at hq
    exact ⟨by omega, hq⟩
  · rw [List.getElem?_append_right (by omega)] at hq
    exact absurd (List.mem_of_getElem? hq) ka
theorem xX_text {cs : zm_H} (hH : xHI xKT xSG τ h) (hX : xX τ h) : xX (τ ++ [200, 201, 202, 203, 204, 205, 206]) (h ++ cs) := by
  obtain ⟨s0, sx1, sx2, sx3, sp, sl⟩ := hX
  have hlen := hH.1
  have sg : ∀ a : Nat, xSG a = true → a < h.length := fun a ha => by
    have := (List.getElem?_eq_some_iff.mp (s0 a ha)).1
    omega
  have px : ∀ {ak ok fa fc : Nat}, xPX ak ok fa fc τ h → ok ∉ [200, 201, 202, 203, 204, 205, 206] → ak ∉ [200, 201, 202, 203, 204, 205, 206] → xPX ak ok fa fc (τ ++ [200, 201, 202, 203, 204, 205, 206]) (h ++ cs) := by
    intro ak ok fa fc hx n1 n2 a' b' t n i c g k1 k2 k3 k4 k5 k6 k7
    obtain ⟨la, ta⟩ := xlt_aps hlen k1 n1
    obtain ⟨lb, tb⟩ := xlt_aps hlen k2 n2
    rw [xfd_apl la] at k3 k4
    rw [List.getElem?_append_left lb] at k5
    exact hx a' b' t n i c g ta tb k3 k4 k5 k6 k7
  refine ⟨fun a ha => xgl (s0 a ha), px sx1 (by decide) (by decide), px sx2 (by decide) (by decide), px sx3 (by decide) (by decide), ?_, ?_⟩
  · intro n m j g1 g2 k1 k2 k3
    rw [List.getElem?_append_left (sg 4 rfl)] at k1
    rw [List.getElem?_append_left (sg 6 rfl)] at k2
    exact sp n m j g1 g2 k1 k2 k3
  · intro v g c1 c2 c3 c4 c5
    rw [xfd_apl (sg 36 rfl)] at c1 c5
    exact sl v g c1 c2 c3 c4 c5
theorem xW_text (h36 : 36 < h.length) : xW (h ++ xtcs h.length) ≤ xW h + 500 := by
  have hs : zm_szs (h ++ xtcs h.length) = zm_szs h + 370 := by
    rw [zm_szs_app2]
    rfl
  unfold xW
  rw [xfd_apl h36, hs, List.length_append]
  have : (xtcs h.length).length = 7 := rfl
  omega
end XTX
end
section
/-! By hand: enactSpare, the end of the walk -/
section XEU
variable {τ : List Nat} {h : zm_H} {og : Nat → Option zm_C}
theorem xt_eq {D H' a b c d e g : zm_C} : ((((((((h ++ [D]) ++ [a]) ++ [b]) ++ [c]) ++ [d]) ++ [e]) ++ [g]).set h.length H') = h ++ [H', a, b, c, d, e, g] := by
  simp only [List.append_assoc]
  rw [List.set_append_right _ _ (Nat.le_refl _), Nat.sub_self]
  rfl
def xeQ (τ : List Nat) (h : zm_H) (r : Option Value) (h' : zm_H) : Prop := (∃ b : Int32, r = some (.int b) ∧ 0 ≤ b.toInt ∧ b.toInt ≤ 12) ∧ ∃ τ', xHI xKT xSG τ' h' ∧ xX τ' h' ∧ xF (xms [(7, 0), (7, 1), (7, 2), (8, 0), (200, 8)]) τ h τ' h' ∧ xW h' ≤ xW h + 500
theorem zh_e103 {d S : Nat} {x k : Int32} {τ' : List Nat} {h' : zm_H} (hH : xHI xKT xSG τ' h') (hX : xX τ' h') (hF : xF (xms [(7, 0), (7, 1), (7, 2), (8, 0), (200, 8)]) τ h τ' h') (hW : xW h' ≤ xW h + 500) (hS : τ'[S]? = some 200) : zm_Y og d 72 103 [(3, .int k), (2, .ref S), (0, .ref 7), (1, .int x)] [] h' (xeQ τ h) := by
  obtain ⟨fs, hh, hl, hsp⟩ := xcf_o hH hS (show xKT 200 = some (.inl (9, _)) from rfl)
  have hl2 : 7 < fs.length := by rw [hl]; decide
  have g := List.getElem?_eq_getElem hl2
  obtain ⟨a, ma, sa⟩ := hsp 7 _ _ rfl g
  have ma := List.mem_singleton.mp ma
  subst ma
  obtain ⟨c, e, c0, c1⟩ := sa
  rw [e] at g
  refine zy_n 1 (mr := zm_m72) rfl rfl ?_
  refine zy_h (mr := zm_m72) rfl rfl (zh_get hh g) ?_
  exact zy_r (mr := zm_m72) rfl rfl rfl ⟨⟨c, rfl, c0, c1⟩, τ', hH, hX, hF, hW⟩
end XEU
end
section
/-! By hand: enactSpare, a new ACT -/
section XEV
variable {τ : List Nat} {h : zm_H} {og : Nat → Option zm_C}
theorem zh_e88 {d S : Nat} {x k : Int32} (τ0 : List Nat) (h0 : zm_H) (hH : xHI xKT xSG τ h) (hX : xX τ h) (hF : xF (xms [(7, 0), (7, 1), (7, 2), (8, 0), (200, 8)]) τ0 h0 τ h) (hW : xW h ≤ xW h0) (hS : τ[S]? = some 200) : zm_Y og (d + 1) 72 88 [(3, .int k), (2, .ref S), (0, .ref 7), (1, .int x)] [.ref 7] h (xeQ τ0 h0) := by
  have s0 := hX.1
  have hlen := hH.1
  have l36 : 36 < h.length := by
    have := (List.getElem?_eq_some_iff.mp (s0 36 rfl)).1
    omega
  obtain ⟨fs, h7, hl, -⟩ := xcf_o hH (s0 7 rfl) (show xKT 7 = some (.inl (3, _)) from rfl)
  have h7 : h[7]? = some (.inr (3, fs)) := h7
  have hnew : (h ++ [Sum.inr (9, zm_df 9)])[h.length]? = some (.inr (9, zm_df 9)) := by
    rw [List.getElem?_append_right (Nat.le_refl _), Nat.sub_self]
    rfl
  refine zy_h (mr := zm_m72) rfl rfl (zh_new (n := h.length) rfl) ?_
  refine zy_n 3 (mr := zm_m72) rfl rfl ?_
  refine zy_c (mr := zm_m72) (mc := zm_m3) rfl rfl rfl rfl rfl ?_
  refine (zh_tin hnew).mono (fun q h' hq => ?_)
  obtain ⟨rfl, rfl⟩ := hq
  refine xY_eq (h' := h ++ xtcs h.length) ?_ ?_
  · simp only [List.length_append, List.length_singleton]
    exact xt_eq
  have hK := xHI_text hH
  have hXK := xX_text (cs := xtcs h.length) hH hX
  have k7 : (h ++ xtcs h.length)[7]? = some (.inr (3, fs)) := zs_app h7
  have t7 : (τ ++ [200, 201, 202, 203, 204, 205, 206])[7]? = some 7 := xgl (s0 7 rfl)
  have hN : (τ ++ [200, 201, 202, 203, 204, 205, 206])[h.length]? = some 200 := by
    rw [hlen, List.getElem?_append_right (Nat.le_refl _), Nat.sub_self]
    rfl
  have hWK := xW_text l36
  refine zy_h (mr := zm_m72) rfl rfl (zh_put k7 (by rw [hl]; rfl) rfl) ?_
  have hH1 := xHI_setf (f := 2) (v := .ref h.length) hK t7 (show xKT 7 = some (.inl (3, _)) from rfl) k7 (fun sp hs => by
    cases hs
    exact ⟨_, List.mem_cons_self, h.length, rfl, hN⟩)
  have hX1 := xXW_ok.1 _ _ 7 7 3 2 fs (.ref h.length) hXK t7 rfl k7 (by rw [hl]; decide)
  have hF1 := xF_setf (MS := xms [(7, 0), (7, 1), (7, 2), (8, 0), (200, 8)]) (f := 2) (v := .ref h.length) t7 rfl k7
  exact zh_e103 hH1 hX1.1 (xF_trans hF (xF_trans xF_apl hF1)) (by rw [hX1.2]; omega) (xgl hS)
end XEV
end
section
/-! By hand: enactSpare behind its loop -/
section XEW
variable {τ : List Nat} {h : zm_H} {og : Nat → Option zm_C}
theorem zh_e61 {d S : Nat} {x k : Int32} (τ0 : List Nat) (h0 : zm_H) (hH : xHI xKT xSG τ h) (hX : xX τ h) (hF : xF (xms [(7, 0), (7, 1), (7, 2), (8, 0), (200, 8)]) τ0 h0 τ h) (hW : xW h ≤ xW h0) (hS : τ[S]? = some 200) : zm_Y og (d + 1) 72 61 [(3, .int k), (2, .ref S), (0, .ref 7), (1, .int x)] [] h (xeQ τ0 h0) := by
  have s0 := hX.1
  obtain ⟨fs, h7, hl, hsp⟩ := xcf_o hH (s0 7 rfl) (show xKT 7 = some (.inl (3, _)) from rfl)
  have h7 : h[7]? = some (.inr (3, fs)) := h7
  have f0 : fs[0]? = some (.ref 8) := xone hl hsp rfl
  obtain ⟨a, f1, a0⟩ : ∃ c : Int32, fs[1]? = some (.int c) ∧ (0 : Int) ≤ c.toInt := by
    have hl2 : 1 < fs.length := by rw [hl]; decide
    have g := List.getElem?_eq_getElem hl2
    obtain ⟨a, ma, sa⟩ := hsp 1 _ _ rfl g
    have ma := List.mem_singleton.mp ma
    subst ma
    obtain ⟨c, e, c0, -⟩ := sa
    exact ⟨c, by rw [g, e], c0⟩
  obtain ⟨kB, h8, b2, -⟩ := xcf_a hH (s0 8 rfl) (show xKT 8 = some (.inr (5, 12, _)) from rfl)
  obtain ⟨g, rfl⟩ := b2
  have h8 : h[8]? = some (.inl (5, 12, .inr (.inr g))) := h8
  obtain ⟨ts, hhS, -, -⟩ := xcf_o hH hS (show xKT 200 = some (.inl (9, _)) from rfl)
  have hhS : h[S]? = some (.inr (9, ts)) := hhS
  have hS7 : 7 ≠ S := fun e => by rw [← e, s0 7 rfl] at hS; cases hS
  refine zy_n 1 (mr := zm_m72) rfl rfl ?_
  refine zy_h (mr := zm_m72) rfl rfl (zh_get h7 f1) ?_
  refine zy_n 1 (mr := zm_m72) rfl rfl ?_
  refine zy_b (mr := zm_m72) rfl rfl rfl ?_
  refine zc_ge (fun _ => zh_e103 hH hX hF (Nat.le_trans hW (Nat.le_add_right _ _)) hS) (fun hc => ?_)
  have e12 : (12 : Int32).toInt = 12 := rfl
  have a11 : a.toInt ≤ 11 := by
    have : ¬ (12 : Int32).toInt ≤ a.toInt := fun q => hc (Int32.le_iff_toInt_le.mpr q)
    omega
  obtain ⟨hin, hjn, hjlt⟩ := xin_ok (j := a) (n := 12) a0 (by omega)
  refine zy_n 1 (mr := zm_m72) rfl rfl ?_
  refine zy_h (mr := zm_m72) rfl rfl (zh_get h7 f0) ?_
  refine zy_n 2 (mr := zm_m72) rfl rfl ?_
  refine zy_h (mr := zm_m72) rfl rfl (zh_get h7 f1) ?_
  refine zy_n 3 (mr := zm_m72) rfl rfl ?_
  refine zy_h (mr := zm_m72) rfl rfl (zh_put h7 (by rw [hl]; rfl) rfl) ?_
  refine zy_n 1 (mr := zm_m72) rfl rfl ?_
  refine zy_h (mr := zm_m72) rfl rfl (zh_aast (zs_ne h8 (show (7 : Nat) ≠ 8 by decide)) (zs_ne hhS hS7) rfl hin) ?_
  refine zy_n 1 (mr := zm_m72) rfl rfl ?_
  refine xY_eq (List.set_comm _ _ (show (7 : Nat) ≠ 8 by decide)) ?_
  obtain ⟨hH1, hX1, hF1, hW1⟩ := xst_l (MS := xms [(7, 0), (7, 1), (7, 2), (8, 0), (200, 8)]) hH hX rfl h8 hS a0 a11
  have i7 := zs_ne (x := .inl (5, 12, .inr (.inr (va_up g a.toNatClampNeg (some S))))) h7 (show (8 : Nat) ≠ 7 by decide)
  have i8 := zs_eq (x := .inl (5, 12, .inr (.inr (va_up g a.toNatClampNeg (some S))))) h8
  obtain ⟨hH2, hX2, hF2, hW2⟩ := xct_l (MS := xms [(7, 0), (7, 1), (7, 2), (8, 0), (200, 8)]) hH1 hX1 rfl i7 f0 f1 i8 (by
    show (if _ = _ then some S else _) ≠ none
    rw [if_pos rfl]
    simp) a0 a11
  exact zh_e88 τ0 h0 hH2 hX2 (xF_trans hF (xF_trans hF1 hF2)) (by rw [hW2, hW1]; exact hW) hS
end XEW
end
section
/-! By hand: enactSpare, its loop -/
section XEX
variable {τ : List Nat} {h : zm_H} {og : Nat → Option zm_C}
theorem zh_e50 {d S : Nat} {x k : Int32} {τ' : List Nat} {h' : zm_H} (hH : xHI xKT xSG τ' h') (hX : xX τ' h') (hF : xF (xms [(7, 0), (7, 1), (7, 2), (8, 0), (200, 8)]) τ h τ' h') (hW : xW h' ≤ xW h + 500) (hS : τ'[S]? = some 200) : zm_Y og d 72 50 [(3, .int k), (2, .ref S), (0, .ref 7), (1, .int x)] [] h' (xeQ τ h) := by
  obtain ⟨fs, hh, hl, hsp⟩ := xcf_o hH hS (show xKT 200 = some (.inl (9, _)) from rfl)
  have hl2 : 7 < fs.length := by rw [hl]; decide
  have g := List.getElem?_eq_getElem hl2
  obtain ⟨a, ma, sa⟩ := hsp 7 _ _ rfl g
  have ma := List.mem_singleton.mp ma
  subst ma
  obtain ⟨c, e, c0, c1⟩ := sa
  rw [e] at g
  refine zy_n 1 (mr := zm_m72) rfl rfl ?_
  refine zy_h (mr := zm_m72) rfl rfl (zh_get hh g) ?_
  exact zy_r (mr := zm_m72) rfl rfl rfl ⟨⟨c, rfl, c0, c1⟩, τ', hH, hX, hF, hW⟩
theorem zh_e33 {d S T : Nat} {x k : Int32} {g : Nat → Option Nat} (τ0 : List Nat) (h0 : zm_H) (hH : xHI xKT xSG τ h) (hX : xX τ h) (hF : xF (xms [(7, 0), (7, 1), (7, 2), (8, 0), (200, 8)]) τ0 h0 τ h) (hW : xW h ≤ xW h0) (hS : τ[S]? = some 200) (h8 : h[8]? = some (.inl (5, 12, .inr (.inr g)))) (k0 : 0 ≤ k.toInt) (k11 : k.toInt ≤ 11) (hg : g k.toNatClampNeg = some T) (hT : τ[T]? = some 200) : zm_Y og d 72 33 [(3, .int k), (2, .ref S), (0, .ref 7), (1, .int x)] [] h (xeQ τ0 h0) := by
  have s0 := hX.1
  obtain ⟨fs, h7, hl, hsp⟩ := xcf_o hH (s0 7 rfl) (show xKT 7 = some (.inl (3, _)) from rfl)
  have h7 : h[7]? = some (.inr (3, fs)) := h7
  have f0 : fs[0]? = some (.ref 8) := xone hl hsp rfl
  have g0 : (fs.set 2 (.ref T))[0]? = some (.ref 8) := by rw [List.getElem?_set_ne (by decide)]; exact f0
  obtain ⟨ts, hhS, -, -⟩ := xcf_o hH hS (show xKT 200 = some (.inl (9, _)) from rfl)
  have hhS : h[S]? = some (.inr (9, ts)) := hhS
  have hS7 : 7 ≠ S := fun e => by rw [← e, s0 7 rfl] at hS; cases hS
  obtain ⟨hin, hjn, hjlt⟩ := xin_ok (j := k) (n := 12) k0 (by omega)
  refine zy_n 2 (mr := zm_m72) rfl rfl ?_
  refine zy_h (mr := zm_m72) rfl rfl (zh_get h7 f0) ?_
  refine zy_n 1 (mr := zm_m72) rfl rfl ?_
  refine zy_h (mr := zm_m72) rfl rfl (zh_aald h8 rfl hin hg) ?_
  refine zy_h (mr := zm_m72) rfl rfl (zh_put h7 (by rw [hl]; rfl) rfl) ?_
  refine zy_n 1 (mr := zm_m72) rfl rfl ?_
  refine zy_h (mr := zm_m72) rfl rfl (zh_get (zs_eq h7) g0) ?_
  refine zy_n 2 (mr := zm_m72) rfl rfl ?_
  have i8 := zs_ne (x := .inr (3, fs.set 2 (.ref T))) h8 (show (7 : Nat) ≠ 8 by decide)
  refine zy_h (mr := zm_m72) rfl rfl (zh_aast i8 (zs_ne hhS hS7) rfl hin) ?_
  have hH1 := xHI_setf (f := 2) (v := .ref T) hH (s0 7 rfl) (show xKT 7 = some (.inl (3, _)) from rfl) h7 (fun sp hs => by
    cases hs
    exact ⟨_, List.mem_cons_self, T, rfl, hT⟩)
  have hX1 := xXW_ok.1 _ _ 7 7 3 2 fs (.ref T) hX (s0 7 rfl) rfl h7 (by rw [hl]; decide)
  have hF1 := xF_setf (MS := xms [(7, 0), (7, 1), (7, 2), (8, 0), (200, 8)]) (f := 2) (v := .ref T) (s0 7 rfl) rfl h7
  obtain ⟨hH2, hX2, hF2, hW2⟩ := xst_l (MS := xms [(7, 0), (7, 1), (7, 2), (8, 0), (200, 8)]) hH1 hX1.1 rfl i8 hS k0 k11
  exact zh_e50 hH2 hX2 (xF_trans hF (xF_trans hF1 hF2)) (Nat.le_trans (Nat.le_of_eq (hW2.trans hX1.2)) (Nat.le_trans hW (Nat.le_add_right _ _))) hS
end XEX
end
section
/-! By hand: enactSpare, its loop -/
section XEY
variable {τ : List Nat} {h : zm_H} {og : Nat → Option zm_C}
theorem zh_e12 {d S : Nat} {x : Int32} (τ0 : List Nat) (h0 : zm_H) (hH : xHI xKT xSG τ h) (hX : xX τ h) (hF : xF (xms [(7, 0), (7, 1), (7, 2), (8, 0), (200, 8)]) τ0 h0 τ h) (hW : xW h ≤ xW h0) (hS : τ[S]? = some 200) : ∀ (n : Nat) (k : Int32), 0 ≤ k.toInt → k.toInt + n = 12 → zm_Y og (d + 1) 72 12 [(3, .int k), (2, .ref S), (0, .ref 7), (1, .int x)] [] h (xeQ τ0 h0) := by
  have s0 := hX.1
  obtain ⟨fs, h7, hl, hsp⟩ := xcf_o hH (s0 7 rfl) (show xKT 7 = some (.inl (3, _)) from rfl)
  have h7 : h[7]? = some (.inr (3, fs)) := h7
  have f0 : fs[0]? = some (.ref 8) := xone hl hsp rfl
  obtain ⟨a, f1, a0, a12⟩ : ∃ c : Int32, fs[1]? = some (.int c) ∧ (0 : Int) ≤ c.toInt ∧ c.toInt ≤ (12 : Int) := by
    have hl2 : 1 < fs.length := by rw [hl]; decide
    have g := List.getElem?_eq_getElem hl2
    obtain ⟨a, ma, sa⟩ := hsp 1 _ _ rfl g
    have ma := List.mem_singleton.mp ma
    subst ma
    obtain ⟨c, e, c0, c1⟩ := sa
    exact ⟨c, by rw [g, e], c0, c1⟩
  obtain ⟨kB, h8, b2, b3⟩ := xcf_a hH (s0 8 rfl) (show xKT 8 = some (.inr (5, 12, _)) from rfl)
  obtain ⟨g, rfl⟩ := b2
  have h8 : h[8]? = some (.inl (5, 12, .inr (.inr g))) := h8
  intro n
  induction n with
  | zero =>
    intro k k0 kn
    refine zy_n 2 (mr := zm_m72) rfl rfl ?_
    refine zy_h (mr := zm_m72) rfl rfl (zh_get h7 f1) ?_
    refine zy_b (mr := zm_m72) rfl rfl rfl ?_
    refine zc_ge (fun _ => zh_e61 τ0 h0 hH hX hF hW hS) (fun hc => ?_)
    exact absurd (Int32.le_iff_toInt_le.mpr (by omega)) hc
  | succ n ih =>
    intro k k0 kn
    refine zy_n 2 (mr := zm_m72) rfl rfl ?_
    refine zy_h (mr := zm_m72) rfl rfl (zh_get h7 f1) ?_
    refine zy_b (mr := zm_m72) rfl rfl rfl ?_
    refine zc_ge (fun _ => zh_e61 τ0 h0 hH hX hF hW hS) (fun hc => ?_)
    have hka : k.toInt < a.toInt := by
      have : ¬ a.toInt ≤ k.toInt := fun q => hc (Int32.le_iff_toInt_le.mpr q)
      omega
    obtain ⟨hin, hjn, hjlt⟩ := xin_ok (j := k) (n := 12) k0 (by omega)
    have hne := hX.2.2.1 7 8 5 12 k.toNatClampNeg a g (s0 7 rfl) (s0 8 rfl) (by simp only [xfd, h7]; exact f0) (by simp only [xfd, h7]; exact f1) h8 (by omega) (by omega)
    obtain ⟨T, hT⟩ := Option.ne_none_iff_exists'.mp hne
    obtain ⟨y, y1, y2, -⟩ := b3 k.toNatClampNeg (by show _ < 12; omega)
    have ev : zm_kv (.inr (.inr g)) k.toNatClampNeg = .ref T := by
      show va_rf (g _) = _
      rw [hT]
      rfl
    rw [ev] at y2
    have tT : τ[T]? = some 200 := by
      simp only [List.mem_cons, List.not_mem_nil, or_false] at y1
      rcases y1 with rfl | rfl
      · cases y2
      · obtain ⟨T', e, q⟩ := y2
        cases e
        exact q
    obtain ⟨ts, hhT, tl, tsp⟩ := xcf_o hH tT (show xKT 200 = some (.inl (9, _)) from rfl)
    have hhT : h[T]? = some (.inr (9, ts)) := hhT
    obtain ⟨w, f8⟩ : ∃ c : Int32, ts[8]? = some (.int c) := by
      have hl2 : 8 < ts.length := by rw [tl]; decide
      have g := List.getElem?_eq_getElem hl2
      obtain ⟨a, ma, sa⟩ := tsp 8 _ _ rfl g
      have ma := List.mem_singleton.mp ma
      subst ma
      obtain ⟨c, e, -, -⟩ := sa
      exact ⟨c, by rw [g, e]⟩
    refine zy_n 1 (mr := zm_m72) rfl rfl ?_
    refine zy_h (mr := zm_m72) rfl rfl (zh_get h7 f0) ?_
    refine zy_n 1 (mr := zm_m72) rfl rfl ?_
    refine zy_h (mr := zm_m72) rfl rfl (zh_aald h8 rfl hin hT) ?_
    refine zy_h (mr := zm_m72) rfl rfl (zh_get hhT f8) ?_
    refine zy_n 1 (mr := zm_m72) rfl rfl ?_
    refine zy_b (mr := zm_m72) rfl rfl rfl ?_
    refine zc_ne (fun _ => ?_) (fun _ => zh_e33 τ0 h0 hH hX hF hW hS h8 k0 (by omega) hT tT)
    have k1 : (k + 1).toInt = k.toInt + 1 := by
      rw [Int32.toInt_add]
      have e1 : xI32a = -2147483648 := rfl
      have e2 : xI32b = 2147483647 := rfl
      exact xb_bm32 (by show xI32a ≤ k.toInt + 1; omega) (by show k.toInt + 1 ≤ xI32b; omega)
    refine zy_n 2 (mr := zm_m72) rfl rfl ?_
    exact ih (k + 1) (by omega) (by omega)
end XEY
end
section
/-! By hand: enactSpare, the contract -/
section XEZ
variable {τ : List Nat} {h : zm_H} {og : Nat → Option zm_C}
theorem zh_es {d : Nat} {x : Int32} (hH : xHI xKT xSG τ h) (hX : xX τ h) (x0 : 0 ≤ x.toInt ∧ x.toInt ≤ 99) : zm_Y og (d + 1) 72 0 [(0, .ref 7), (1, .int x)] [] h (xeQ τ h) := by
  have s0 := hX.1
  obtain ⟨fs, h7, hl, hsp⟩ := xcf_o hH (s0 7 rfl) (show xKT 7 = some (.inl (3, _)) from rfl)
  have h7 : h[7]? = some (.inr (3, fs)) := h7
  obtain ⟨S, f2, hS⟩ : ∃ S : Nat, fs[2]? = some (.ref S) ∧ τ[S]? = some 200 := by
    have hl2 : 2 < fs.length := by rw [hl]; decide
    have g := List.getElem?_eq_getElem hl2
    obtain ⟨a, ma, sa⟩ := hsp 2 _ _ rfl g
    have ma := List.mem_singleton.mp ma
    subst ma
    obtain ⟨c, e, c0⟩ := sa
    exact ⟨c, by rw [g, e], c0⟩
  obtain ⟨ts, hhS, tl, -⟩ := xcf_o hH hS (show xKT 200 = some (.inl (9, _)) from rfl)
  have hhS : h[S]? = some (.inr (9, ts)) := hhS
  refine zy_n 1 (mr := zm_m72) rfl rfl ?_
  refine zy_h (mr := zm_m72) rfl rfl (zh_get h7 f2) ?_
  refine zy_n 3 (mr := zm_m72) rfl rfl ?_
  refine zy_h (mr := zm_m72) rfl rfl (zh_put hhS (by rw [tl]; rfl) rfl) ?_
  have hH1 := xHI_setf (f := 8) (v := .int x) hH hS (show xKT 200 = some (.inl (9, _)) from rfl) hhS (fun sp hs => by
    cases hs
    exact ⟨_, List.mem_cons_self, x, rfl, x0.1, x0.2⟩)
  have hX1 := xXW_ok.1 _ _ S 200 9 8 ts (.int x) hX hS rfl hhS (by rw [tl]; decide)
  have hF1 := xF_setf (MS := xms [(7, 0), (7, 1), (7, 2), (8, 0), (200, 8)]) (f := 8) (v := .int x) hS rfl hhS
  refine zy_n 2 (mr := zm_m72) rfl rfl ?_
  exact zh_e12 τ h hH1 hX1.1 hF1 (Nat.le_of_eq hX1.2) hS 12 0 (by decide) (by decide)
theorem xes_end {τ' : List Nat} {h' : zm_H} {ρ : List Int} {σ : List Nat} {i : Int32} (hρ : ρ.length = 1) (hσ : σ.length = 0) (hi : 0 ≤ i.toInt ∧ i.toInt ≤ 12) (hH : xHI xKT xSG τ' h') (hX : xX τ' h') (hF : xF (xms xc_59.2.2.2.1) τ h τ' h') (hW : xW h' ≤ xW h + 500) : xQc xVV xX xW xc_59 ρ σ τ h (some (.int i)) h' := by
  have hg : (ρ ++ [i.toInt])[1]? = some i.toInt := by
    rw [List.getElem?_append_right (by omega), hρ]
    rfl
  have hno : ∀ {α : Type} {P : α → Prop}, ∀ q ∈ ([] : List α), P q := fun q hq => by cases hq
  refine ⟨τ', hH, hX, hF, hW, _, List.mem_cons_self, [i.toInt], [], ⟨⟨⟨fun q hq => ?_, hno⟩, ?_⟩, ⟨?_, fun k kd hk => ?_⟩, hno, hno⟩, i, rfl, xe_sym (s := 1) hg⟩
  · have hq := List.mem_singleton.mp hq
    subst hq
    exact ⟨i.toInt, hg, hi.1, hi.2⟩
  · show 2 = _
    rw [List.length_append, hρ]
    rfl
  · rw [List.append_nil]
    exact hσ
  · have hk : ([] : List Nat)[k]? = some kd := hk
    simp at hk
theorem xv_59 : xV xVV xX xW og xc_59 := by
  intro ρ σ τ h lc hH hX hD hl
  have hl : ∀ q ∈ [((0 : Nat), ((3, xk 0, 7) : xv)), (1, (0, (.ofNat 0, [(0, .ofNat 1)]), 0))], _ := hl
  simp only [List.forall_mem_cons] at hl
  obtain ⟨⟨v0, g0, rfl⟩, ⟨v1, g1, x, rfl, e1⟩, -⟩ := hl
  obtain ⟨x5, y5, z5, u5⟩ := hD.1.1.1 (0, .ofNat 0, .ofNat 99) (by simp [xc_59])
  have q5 : xe ρ (xsym 0) = some x5 := xe_sym y5
  have r5 : x.toInt = x5 := by
    have q9 : xe ρ (xsym 0) = some x.toInt := e1
    rw [q5] at q9
    exact (Option.some.inj q9).symm
  have z5 : (0 : Int) ≤ x5 := z5
  have u5 : x5 ≤ (99 : Int) := u5
  refine zy_sub [(0, .ref 7), (1, .int x)] (by simp) (fun q hq => ?_) ?_
  · simp only [List.mem_cons, List.not_mem_nil, or_false] at hq
    rcases hq with rfl | rfl
    · exact g0
    · exact g1
  · show zm_Y og (11 + 1) 72 0 _ _ _ _
    refine (zh_es hH hX ⟨by omega, by omega⟩).mono (fun r h' hq => ?_)
    obtain ⟨⟨i, rfl, i0, i1⟩, τ', k1, k2, k3, k4⟩ := hq
    exact xes_end hD.1.2.symm hD.2.1.1 ⟨i0, i1⟩ k1 k2 k3 k4
end XEZ
end
section
/-! By hand: String.length, String.charAt -/
section XSTR
variable {og : Nat → Option zm_C} {h : zm_H} {d : Nat}
theorem zh_sget {i j f : Nat} {c : Nat} {w v : Value} {ps : List Nat} {st : List Value} (hv : zm_sf j f = some v) : zm_hp zm_df og (.getfield i) (41, f, c, w, ps) (.retAddr j :: st) h = some (v :: st, h) := by
  have e : zm_of 41 j f = some v := hv
  simp only [zm_hp, e]
theorem zh_coder {j : Nat} {l : List Int32} (hl : zm_sb j = some l) : zm_Y og d 287 0 [(0, .retAddr j)] [] h (fun r h' => r = some (.int 0) ∧ h' = h) := by
  refine zy_h (mr := zm_m287) rfl rfl (show _ = some ([.int 1], h) from rfl) ?_
  refine zy_b (mr := zm_m287) rfl rfl (show _ = some (6, []) from rfl) ?_
  refine zy_n 1 (mr := zm_m287) rfl (show _ = some (7, [(0, .retAddr j)], [.retAddr j]) from rfl) ?_
  refine zy_h (mr := zm_m287) rfl rfl (zh_sget (v := .int 0) (by simp only [zm_sf, hl])) ?_
  refine zy_n 1 (mr := zm_m287) rfl (show _ = some (14, [(0, .retAddr j)], [.int 0]) from rfl) ?_
  exact zy_r (mr := zm_m287) rfl rfl (show _ = some (some (.int 0)) from rfl) ⟨rfl, rfl⟩
theorem zh_latin {j : Nat} {l : List Int32} (hl : zm_sb j = some l) : zm_Y og d 289 0 [(0, .retAddr j)] [] h (fun r h' => r = some (.int 1) ∧ h' = h) := by
  refine zy_h (mr := zm_m289) rfl rfl (show _ = some ([.int 1], h) from rfl) ?_
  refine zy_b (mr := zm_m289) rfl rfl (show _ = some (6, []) from rfl) ?_
  refine zy_n 1 (mr := zm_m289) rfl (show _ = some (7, [(0, .retAddr j)], [.retAddr j]) from rfl) ?_
  refine zy_h (mr := zm_m289) rfl rfl (zh_sget (v := .int 0) (by simp only [zm_sf, hl])) ?_
  refine zy_b (mr := zm_m289) rfl rfl (show _ = some (13, []) from rfl) ?_
  refine zy_n 2 (mr := zm_m289) rfl (show _ = some (18, [(0, .retAddr j)], [.int 1]) from rfl) ?_
  exact zy_r (mr := zm_m289) rfl rfl (show _ = some (some (.int 1)) from rfl) ⟨rfl, rfl⟩
theorem zh_scall {k m c b j : Nat} {l : List Int32} {w : Value} {ps : List Nat} {rest : List Value} (hl : zm_sb j = some l) (h8 : zm_cat rest ≤ 8) : zm_call (.invokevirtual k) (m, 0, 41, w, ps) (.retAddr j :: rest) h = some (m, [.retAddr j], rest) := by
  have e : (zm_sb j).isSome = true := by rw [hl]; rfl
  simp only [zm_call, List.drop_zero, List.take_zero, List.reverse_nil, e, Nat.beq_refl, Bool.and_self, Nat.ble_eq_true_of_le h8, cond_true]
theorem zh_slen {j : Nat} {l : List Int32} (hl : zm_sb j = some l) : zm_Y og (d + 1) 286 0 [(0, .retAddr j)] [] h (fun r h' => r = some (.int (Int32.ofNat l.length)) ∧ h' = h) := by
  refine zy_n 1 (mr := zm_m286) rfl (show _ = some (1, [(0, .retAddr j)], [.retAddr j]) from rfl) ?_
  refine zy_h (mr := zm_m286) rfl rfl (zh_sget (v := .retAddr (j + 100)) (by simp only [zm_sf, hl])) ?_
  refine zy_h (mr := zm_m286) rfl rfl (show _ = some ([.int (Int32.ofNat l.length)], h) from by simp only [zm_hp, zm_rd, xba hl]) ?_
  refine zy_n 1 (mr := zm_m286) rfl (show _ = some (6, [(0, .retAddr j)], [.retAddr j, .int (Int32.ofNat l.length)]) from rfl) ?_
  refine zy_c (mr := zm_m286) (mc := zm_m287) rfl rfl (zh_scall (b := 0) (c := 0) hl (show zm_cat [.int (Int32.ofNat l.length)] ≤ 8 by show 1 ≤ 8; omega)) rfl rfl ?_
  refine (zh_coder hl).mono (fun r h' hq => ?_)
  obtain ⟨rfl, rfl⟩ := hq
  refine zy_n 1 (mr := zm_m286) rfl (show _ = some (10, [(0, .retAddr j)], [.int (Int32.ofNat l.length >>> ((0 : Int32) &&& 31))]) from rfl) ?_
  have e : Int32.ofNat l.length >>> ((0 : Int32) &&& 31) = Int32.ofNat l.length := by
    apply Int32.toBitVec_inj.mp
    simp [Int32.toBitVec_shiftRight]
  rw [e]
  exact zy_r (mr := zm_m286) rfl rfl (show _ = some (some (.int (Int32.ofNat l.length))) from rfl) ⟨rfl, rfl⟩
theorem zh_pre {i n : Int32} {v : Value} (hv : v.category = 1) (h0 : ¬ i < 0) (h1 : i < n) : zm_Y og d 292 0 [(0, .int i), (1, .int n), (2, v)] [] h (fun r h' => r = some (.int i) ∧ h' = h) := by
  refine zy_n 1 (mr := zm_m292) rfl (show _ = some (1, [(0, .int i), (1, .int n), (2, v)], [.int i]) from rfl) ?_
  refine zy_b (mr := zm_m292) rfl rfl (show _ = some (zm_if .lt i 9 4, []) from rfl) ?_
  refine zi_lt (fun e => absurd e h0) (fun _ => ?_)
  refine zy_n 2 (mr := zm_m292) rfl (show _ = some (6, [(0, .int i), (1, .int n), (2, v)], [.int n, .int i]) from rfl) ?_
  refine zy_b (mr := zm_m292) rfl rfl (show _ = some (zm_ic .lt i n 16 9, []) from rfl) ?_
  refine zc_lt (fun _ => ?_) (fun e => absurd h1 e)
  refine zy_n 1 (mr := zm_m292) rfl (show _ = some (17, [(0, .int i), (1, .int n), (2, v)], [.int i]) from rfl) ?_
  exact zy_r (mr := zm_m292) rfl rfl (show _ = some (some (.int i)) from rfl) ⟨rfl, rfl⟩
theorem zm_gs_cat (og : Nat → Option zm_C) : (zm_gs og (.retAddr 95)).category = 1 := by
  unfold zm_gs
  cases og 95 <;> rfl
theorem zh_chk {i n : Int32} (h0 : ¬ i < 0) (h1 : i < n) : zm_Y og (d + 1) 291 0 [(0, .int i), (1, .int n)] [] h (fun r h' => r = none ∧ h' = h) := by
  refine zy_n 2 (mr := zm_m291) rfl (show _ = some (2, [(0, .int i), (1, .int n)], [.int n, .int i]) from rfl) ?_
  refine zy_h (mr := zm_m291) rfl rfl zh_gets ?_
  have hc := zm_gs_cat og
  generalize zm_gs og (.retAddr 95) = v at hc
  have hcat : Nat.ble (zm_cat [.int i, .int n, v]) 3 = true := by
    show Nat.ble (1 + (1 + (v.category + 0))) 3 = true
    rw [hc]
    rfl
  refine zy_c (mr := zm_m291) (mc := zm_m292) rfl rfl (show _ = some (292, [.int i, .int n, v], []) from rfl) rfl hcat ?_
  have el : lv_args 0 [.int i, .int n, v] = [(0, .int i), (1, .int n), (2, v)] := rfl
  show zm_Y og d 292 0 (lv_args 0 [.int i, .int n, v]) [] h _
  rw [el]
  refine (zh_pre hc h0 h1).mono (fun r h' hq => ?_)
  obtain ⟨rfl, rfl⟩ := hq
  refine zy_n 1 (mr := zm_m291) rfl (show _ = some (9, [(0, .int i), (1, .int n)], []) from rfl) ?_
  exact zy_r (mr := zm_m291) rfl rfl (show _ = some none from rfl) ⟨rfl, rfl⟩
theorem zh_lat {j : Nat} {l : List Int32} {i : Int32} (hl : zm_sb j = some l) (h0 : ¬ i < 0) (h1 : i < Int32.ofNat l.length) (hin : zm_in i l.length = true) : zm_Y og (d + 2) 290 0 [(0, .retAddr (j + 100)), (1, .int i)] [] h (fun r h' => (∃ z : Int32, r = some (.int z) ∧ 0 ≤ z.toInt ∧ z.toInt ≤ 65535) ∧ h' = h) := by
  refine zy_n 2 (mr := zm_m290) rfl (show _ = some (2, [(0, .retAddr (j + 100)), (1, .int i)], [.retAddr (j + 100), .int i]) from rfl) ?_
  refine zy_h (mr := zm_m290) rfl rfl (show _ = some ([.int (Int32.ofNat l.length), .int i], h) from by simp only [zm_hp, zm_rd, xba hl]) ?_
  refine zy_c (mr := zm_m290) (mc := zm_m291) rfl rfl (show _ = some (291, [.int i, .int (Int32.ofNat l.length)], []) from rfl) rfl rfl ?_
  refine (zh_chk h0 h1).mono (fun r h' hq => ?_)
  obtain ⟨rfl, rfl⟩ := hq
  refine zy_n 2 (mr := zm_m290) rfl (show _ = some (8, [(0, .retAddr (j + 100)), (1, .int i)], [.int i, .retAddr (j + 100)]) from rfl) ?_
  refine zy_h (mr := zm_m290) rfl rfl (show _ = some ([.int (l.getD i.toNatClampNeg 0)], h') from by simp only [zm_hp, zm_ald, zm_rd, xba hl, zm_lds, hin, Nat.beq_refl, Bool.true_or, Bool.and_self, cond_true, zm_kv]) ?_
  have hr := (xs_ok hl).2 i.toNatClampNeg
  generalize l.getD i.toNatClampNeg 0 = b at hr
  refine zy_n 3 (mr := zm_m290) rfl (show _ = some (14, [(0, .retAddr (j + 100)), (1, .int i)], [.int ((b &&& 255).toUInt32 % 65536).toInt32]) from rfl) ?_
  have hz : 0 ≤ ((b &&& 255).toUInt32 % 65536).toInt32.toInt ∧ ((b &&& 255).toUInt32 % 65536).toInt32.toInt ≤ 65535 := ⟨(xb_i2c (b &&& 255)).1, (xb_i2c (b &&& 255)).2.1⟩
  generalize ((b &&& 255).toUInt32 % 65536).toInt32 = z at hz
  have e : zm_ret zm_m290.1.2.2.2 .ireturn [.int z] = some (some (.int z)) := by
    have e2 : ((z.toUInt32.toUInt16.toUInt32.toInt32 == z) && (decide (0 ≤ z) && decide (z ≤ 65535))) = true := by
      simp only [Bool.and_eq_true, beq_iff_eq, decide_eq_true_eq]
      exact ⟨xch hz.1 hz.2, Int32.le_iff_toInt_le.mpr hz.1, Int32.le_iff_toInt_le.mpr hz.2⟩
    show (bif ((z.toUInt32.toUInt16.toUInt32.toInt32 == z) && (decide (0 ≤ z) && decide (z ≤ 65535))) then _ else _) = _
    rw [e2]
    rfl
  exact zy_r (mr := zm_m290) rfl rfl e ⟨⟨z, rfl, hz⟩, rfl⟩
theorem zh_char {j : Nat} {l : List Int32} {i : Int32} (hl : zm_sb j = some l) (h0 : ¬ i < 0) (h1 : i < Int32.ofNat l.length) (hin : zm_in i l.length = true) : zm_Y og (d + 3) 288 0 [(0, .retAddr j), (1, .int i)] [] h (fun r h' => (∃ z : Int32, r = some (.int z) ∧ 0 ≤ z.toInt ∧ z.toInt ≤ 65535) ∧ h' = h) := by
  refine zy_n 1 (mr := zm_m288) rfl (show _ = some (1, [(0, .retAddr j), (1, .int i)], [.retAddr j]) from rfl) ?_
  refine zy_c (mr := zm_m288) (mc := zm_m289) rfl rfl (zh_scall (b := 0) (c := 0) hl (show zm_cat [] ≤ 8 by show 0 ≤ 8; omega)) rfl rfl ?_
  refine (zh_latin hl).mono (fun r h' hq => ?_)
  obtain ⟨rfl, rfl⟩ := hq
  refine zy_b (mr := zm_m288) rfl rfl (show _ = some (7, []) from rfl) ?_
  refine zy_n 1 (mr := zm_m288) rfl (show _ = some (8, [(0, .retAddr j), (1, .int i)], [.retAddr j]) from rfl) ?_
  refine zy_h (mr := zm_m288) rfl rfl (zh_sget (v := .retAddr (j + 100)) (by simp only [zm_sf, hl])) ?_
  refine zy_n 1 (mr := zm_m288) rfl (show _ = some (12, [(0, .retAddr j), (1, .int i)], [.int i, .retAddr (j + 100)]) from rfl) ?_
  refine zy_c (mr := zm_m288) (mc := zm_m290) rfl rfl (show _ = some (290, [.retAddr (j + 100), .int i], []) from rfl) rfl rfl ?_
  refine (zh_lat hl h0 h1 hin).mono (fun r h' hq => ?_)
  obtain ⟨⟨z, rfl, hz⟩, rfl⟩ := hq
  have e : zm_ret zm_m288.1.2.2.2 .ireturn [.int z] = some (some (.int z)) := by
    have e2 : ((z.toUInt32.toUInt16.toUInt32.toInt32 == z) && (decide (0 ≤ z) && decide (z ≤ 65535))) = true := by
      simp only [Bool.and_eq_true, beq_iff_eq, decide_eq_true_eq]
      exact ⟨xch hz.1 hz.2, Int32.le_iff_toInt_le.mpr hz.1, Int32.le_iff_toInt_le.mpr hz.2⟩
    show (bif ((z.toUInt32.toUInt16.toUInt32.toInt32 == z) && (decide (0 ≤ z) && decide (z ≤ 65535))) then _ else _) = _
    rw [e2]
    rfl
  exact zy_r (mr := zm_m288) rfl rfl e ⟨⟨z, rfl, hz⟩, rfl⟩
theorem xv_900 : xV xVV xX xW og xc_900 := by
  intro ρ σ τ h lc hH hX hD hl
  have hlen : ρ.length = 1 := hD.1.2.symm
  obtain ⟨v, hv, n, j, he, hs, rfl⟩ := hl _ List.mem_cons_self
  obtain ⟨l, hb, rfl⟩ := xsl_ok hs
  have h6 := (xs_ok hb).1
  refine zy_sub [(0, .retAddr j)] (by simp) (fun q hq => by rw [List.mem_singleton.mp hq]; exact hv) ?_
  refine (zh_slen (d := 11) hb).mono (fun r h' hq => ?_)
  obtain ⟨rfl, rfl⟩ := hq
  have hi : (Int32.ofNat l.length).toInt = (l.length : Int) := Int32.toInt_ofNat_of_lt (by omega)
  have hno : ∀ {α : Type} {P : α → Prop}, ∀ q ∈ ([] : List α), P q := fun q hq => by cases hq
  refine ⟨τ, hH, hX, xF_refl _ _ _, by omega, _, List.mem_cons_self, [], [], ?_, _, rfl, ?_⟩
  · refine ⟨⟨⟨hno, hno⟩, ?_⟩, ?_, hno, hno⟩
    · show 1 = _
      rw [List.append_nil, hlen]
    · rw [List.append_nil]
      exact hD.2.1
  · rw [List.append_nil, hi]
    exact he
theorem xv_901 : xV xVV xX xW og xc_901 := by
  intro ρ σ τ h lc hH hX hD hl
  have hlen : ρ.length = 2 := hD.1.2.symm
  obtain ⟨v, hv, n, j, he, hs, rfl⟩ := hl _ List.mem_cons_self
  obtain ⟨v1, hv1, i, rfl, hi⟩ := hl _ (List.mem_cons_of_mem _ List.mem_cons_self)
  obtain ⟨l, hb, rfl⟩ := xsl_ok hs
  have h6 := (xs_ok hb).1
  have he : xe ρ (.ofNat 0, [(0, .ofNat 1)]) = some (l.length : Int) := he
  have hi : xe ρ (.ofNat 0, [(1, .ofNat 1)]) = some i.toInt := hi
  have hn := hD.1.1
  have c1 : 0 ≤ (l.length : Int) - 1 - i.toInt := by
    have hc := hn.2 _ List.mem_cons_self
    obtain ⟨z, hz, hz0⟩ := hc
    have e2 : xe ρ (.negSucc 0, [(1, .negSucc 0), (0, .ofNat 1)]) = some ((l.length : Int) - 1 - i.toInt) := by
      have a0 : ρ[0]? = some (l.length : Int) := by
        match ρ, hlen with
        | [p, q], _ =>
          simp only [xe, xt] at he
          simp at he
          simp [he]
      have a1 : ρ[1]? = some i.toInt := by
        match ρ, hlen with
        | [p, q], _ =>
          simp only [xe, xt] at hi
          simp at hi
          simp [hi]
      simp only [xe, xt, a0, a1]
      congr 1
      show (-1 : Int) + (-1 * i.toInt + (1 * (l.length : Int) + 0)) = _
      omega
    have hz : xe ρ (.negSucc 0, [(1, .negSucc 0), (0, .ofNat 1)]) = some z := hz
    rw [e2] at hz
    cases hz
    exact hz0
  have c0 : 0 ≤ i.toInt := by
    obtain ⟨z, hz, hz0, -⟩ := hn.1 _ (List.mem_cons_of_mem _ List.mem_cons_self)
    have hz : ρ[1]? = some z := hz
    have e2 : i.toInt = z := by
      match ρ, hlen with
      | [p, q], _ =>
        simp only [xe, xt] at hi
        simp at hi
        simp at hz
        omega
    have hz0 : 0 ≤ z := hz0
    omega
  have hL : (Int32.ofNat l.length).toInt = (l.length : Int) := Int32.toInt_ofNat_of_lt (by omega)
  obtain ⟨hin, -, -⟩ := xin_ok (j := i) (n := l.length) c0 (by omega)
  refine zy_sub [(0, .retAddr j), (1, .int i)] (by simp) (fun q hq => by
    rcases List.mem_cons.mp hq with rfl | hq
    · exact hv
    · rw [List.mem_singleton.mp hq]; exact hv1) ?_
  refine (zh_char (d := 9) hb (xnng c0).1 (Int32.lt_iff_toInt_lt.mpr (by rw [hL]; omega)) hin).mono (fun r h' hq => ?_)
  obtain ⟨⟨z, rfl, hz⟩, rfl⟩ := hq
  have hg : (ρ ++ [z.toInt])[2]? = some z.toInt := by
    rw [List.getElem?_append_right (by omega), hlen]
    rfl
  have hno : ∀ {α : Type} {P : α → Prop}, ∀ q ∈ ([] : List α), P q := fun q hq => by cases hq
  refine ⟨τ, hH, hX, xF_refl _ _ _, by omega, _, List.mem_cons_self, [z.toInt], [], ?_, z, rfl, xe_sym (s := 2) hg⟩
  refine ⟨⟨⟨?_, hno⟩, ?_⟩, ?_, hno, hno⟩
  · intro q hq
    have hq := List.mem_singleton.mp hq
    subst hq
    exact ⟨z.toInt, hg, hz.1, hz.2⟩
  · show 3 = _
    rw [List.length_append, hlen]
    rfl
  · rw [List.append_nil]
    exact hD.2.1
end XSTR
end
