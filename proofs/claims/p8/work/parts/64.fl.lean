/-! What is ruled out when a place is read is ruled out rightly -/
section XFL
variable {ρ : List Int} {σ τ : List Nat} {h : zm_H} {D : xD}
theorem xc_ad {b : xv} {w : Value} {ad : Nat} (h1 : xad σ b = some ad) (h2 : xc ρ σ b w) : w = .ref ad := by
  obtain ⟨t, e, n⟩ := b
  unfold xad at h1
  split at h1
  · rename_i h7; have h7 : t = 3 := h7; subst h7
    cases h1
    exact h2
  · rename_i h7; have h7 : t = 4 := h7; subst h7
    obtain ⟨b', a4, a5⟩ := h2
    have h1 : σ[n]? = some ad := h1
    have a4 : σ[n]? = some b' := a4
    rw [h1] at a4
    cases a4
    exact a5
  · cases h1
theorem xfln_ok {b : xv} {e : xl} {ad j ok fa fc : Nat} (hH : xHI xKT xSG τ h) (hD : xdok ρ σ τ h D) (hb : xad σ b = some ad) (he : xe ρ e = some (j : Int)) : ∀ {M : xM}, (∀ q ∈ M, q ∈ D.2.2.1) → xfln D b e ok fa fc M = true → ∃ (o : Nat) (c : Int32), τ[o]? = some ok ∧ xfd h o fa = some (.ref ad) ∧ xfd h o fc = some (.int c) ∧ (j : Int) < c.toInt
  | [], _, hx => by cases hx
  | q :: t, hM, hx => by
    simp only [xfln] at hx
    rcases xbif hx with ⟨h1, -⟩ | ⟨-, hx⟩
    · simp only [Bool.and_eq_true] at h1
      obtain ⟨⟨⟨h2, h3, h4⟩, h5⟩, h6⟩ := h1
      obtain ⟨o, w, a1, a2, a3⟩ := hD.2.2.1 q (hM q List.mem_cons_self)
      split at h5
      · rename_i k hk
        have ht := xkd_ad hH hD.2.1 a1 hk
        rw [Nat.eq_of_beq_eq_true h5] at ht
        split at h6
        · rename_i c hc
          simp only [Bool.and_eq_true] at h6
          obtain ⟨w2, b1, b2⟩ := xlkf_ok a1 hD.2.2.1 hc
          obtain ⟨ci, rfl, b3⟩ := xc_i b2 h6.1
          have hd := xpv_ok hD.1.1.1 hD.1.1.2 8 (xe_m1 (xe_add (k := .negSucc 0) b3 he)) h6.2
          have e2 : ci.toInt + Int.negSucc 0 * (j : Int) = ci.toInt - j := by show ci.toInt + (-1) * (j : Int) = _; omega
          refine ⟨o, ci, ht, ?_, b1, by omega⟩
          rw [Nat.eq_of_beq_eq_true h2] at a2
          rw [a2]
          have hq := xad_same (σ := σ) (b := b) (c := q.2.2) (by rw [Nat.eq_of_beq_eq_true h3]; exact Nat.beq_refl _) (by rw [Nat.eq_of_beq_eq_true h4]; exact Nat.beq_refl _) hb
          rw [xc_ad hq a3]
        · cases h6
      · cases h5
    · exact xfln_ok hH hD hb he (fun q hq => hM q (List.mem_cons_of_mem _ hq)) hx
theorem xPX_use {b : xv} {e : xl} {ad j ak ok fa fc : Nat} {a : xA} {v : Value} {dk : Nat × Nat × List xJ} (hP : xPX ak ok fa fc τ h) (hK : xKT ak = some (.inr dk)) (hd : 4 ≤ dk.1) (hH : xHI xKT xSG τ h) (hD : xdok ρ σ τ h D) (hb : xad σ b = some ad) (ht : τ[ad]? = some ak) (he : xe ρ e = some (j : Int)) (hv : xar h ad j = some v) (hs : xsat τ a v) : ∃ a', (bif Nat.beq a.1 2 && xfln D b e ok fa fc D.2.2.1 then none else some a) = some a' ∧ xsat τ a' v := by
  cases hc : Nat.beq a.1 2 && xfln D b e ok fa fc D.2.2.1 with
  | false => exact ⟨a, rfl, hs⟩
  | true =>
    simp only [Bool.and_eq_true] at hc
    obtain ⟨o, c, h1, h2, h3, h4⟩ := xfln_ok hH hD hb he (fun q hq => hq) hc.2
    obtain ⟨k, h5, h6, -⟩ := xcf_a hH ht hK
    obtain ⟨t0, n0, js⟩ := dk
    have hd : 4 ≤ t0 := hd
    have h6 : ∃ f, k = .inr (.inr f) := by
      unfold xka at h6
      split at h6
      · rename_i e0; have e0 : t0 = 0 := e0; omega
      · rename_i e0; have e0 : t0 = 1 := e0; omega
      · rename_i e0; have e0 : t0 = 2 := e0; omega
      · rename_i e0; have e0 : t0 = 3 := e0; omega
      · exact h6
    obtain ⟨f, rfl⟩ := h6
    have hj : j < n0 ∧ v = va_rf (f j) := by
      unfold xar at hv
      rw [h5] at hv
      simp only at hv
      split at hv
      · rename_i hlt; cases hv; exact ⟨hlt, rfl⟩
      · cases hv
    have hne := hP o ad t0 n0 j c f h1 ht h2 h3 h5 h4 hj.1
    obtain ⟨ta, na, lo, hi⟩ := a
    have h7 : ta = 2 := Nat.eq_of_beq_eq_true hc.1
    subst h7
    have hs : v = .null := hs
    rw [hj.2] at hs
    cases hf : f j with
    | none => exact absurd hf hne
    | some b' => rw [hf] at hs; cases hs
theorem xclip_ok {lo hi : Int} {a : xA} {v : Value} (hs : xsat τ a v) (hv : ∀ i : Int32, v = .int i → lo ≤ i.toInt ∧ i.toInt ≤ hi) : xsat τ (xclip lo hi a) v := by
  unfold xclip
  cases hc : Nat.beq a.1 0 with
  | false => exact hs
  | true =>
    obtain ⟨t, n, l, u⟩ := a
    have h1 : t = 0 := Nat.eq_of_beq_eq_true hc
    subst h1
    obtain ⟨i, rfl, h2, h3⟩ := hs
    obtain ⟨h4, h5⟩ := hv i rfl
    exact ⟨i, rfl, xmax_ok h2 h4, xmin_ok h3 h5⟩
theorem xar_int {ad j n : Nat} {v : Value} {i : Int32} {k : zm_K} (hh : h[ad]? = some (.inl (0, n, k))) (hk : xka 0 k) (hv : xar h ad j = some v) (hi : v = .int i) : ∃ f, k = .inl f ∧ f j = i ∧ j < n := by
  obtain ⟨f, rfl⟩ := hk
  unfold xar at hv
  rw [hh] at hv
  simp only at hv
  split at hv
  · rename_i hlt
    cases hv
    have hi : Value.int (f j) = .int i := hi
    cases hi
    exact ⟨f, rfl, rfl, hlt⟩
  · cases hv
theorem xFl_good : xFl_ok xVV xX := by
  intro ρ σ τ h D b kd e a ad j v hH hX hD hb ht he hv hs
  have hH : xHI xKT xSG τ h := hH
  obtain ⟨h0, h1, h2, h3, h4, -⟩ := hX
  show ∃ a', xflt D b kd e a = some a' ∧ xsat τ a' v
  unfold xflt
  split
  · exact xPX_use h1 (show xKT 1 = some (.inr _) from rfl) (by decide) hH hD hb ht he hv hs
  · exact xPX_use h2 (show xKT 8 = some (.inr _) from rfl) (by decide) hH hD hb ht he hv hs
  · exact xPX_use h3 (show xKT 209 = some (.inr _) from rfl) (by decide) hH hD hb ht he hv hs
  · cases hb6 : !(Nat.beq b.1 3 && Nat.beq b.2.2 6) with
    | true => exact ⟨a, rfl, hs⟩
    | false =>
     simp only [cond_false]
     simp only [Bool.not_eq_false', Bool.and_eq_true] at hb6
     split
     · rename_i w hw
       have had4 : xad σ (3, xk 0, 4) = some 4 := rfl
       obtain ⟨j', u, p1, p2, p3⟩ := xlka_ok had4 hD.2.2.2 hw
       rw [he] at p1
       have ej : j = j' := by have := Option.some.inj p1; omega
       subst ej
       have had : ad = 6 := by
         obtain ⟨t, ee, n⟩ := b
         have e1 : t = 3 := Nat.eq_of_beq_eq_true hb6.1
         have e2 : n = 6 := Nat.eq_of_beq_eq_true hb6.2
         subst e1
         subst e2
         have hb : some 6 = some ad := hb
         cases hb
         rfl
       subst had
       obtain ⟨k4, c1, c2, -⟩ := xcf_a hH (h0 4 rfl) (show xKT 4 = some (.inr (0, 301, _)) from rfl)
       obtain ⟨k6, d1, d2, -⟩ := xcf_a hH (h0 6 rfl) (show xKT 6 = some (.inr (0, 301, _)) from rfl)
       have hP : ∀ (z i : Int32), u = .int z → v = .int i → (z.toInt = 1 → -1 ≤ i.toInt ∧ i.toInt ≤ 35) ∧ (z.toInt = 2 → 0 ≤ i.toInt ∧ i.toInt ≤ 10000) := by
         intro z i hz hi
         obtain ⟨f, rfl, f1, f2⟩ := xar_int c1 c2 p2 hz
         obtain ⟨g, rfl, g1, g2⟩ := xar_int d1 d2 hv hi
         have := h4 301 301 j f g c1 d1 f2
         rw [f1, g1] at this
         exact this
       cases q1 : Nat.beq w.1 0 && xbt D.1.1.1 1 1 w.2.1 with
       | true =>
         simp only [Bool.and_eq_true] at q1
         obtain ⟨z, rfl, z1⟩ := xc_i p3 q1.1
         obtain ⟨z2, z3⟩ := xbt_ok hD.1.1.1 q1.2 z1
         exact ⟨_, rfl, xclip_ok hs (fun i hi => (hP z i rfl hi).1 (by omega))⟩
       | false =>
         simp only [cond_false]
         cases q2 : Nat.beq w.1 0 && xbt D.1.1.1 2 2 w.2.1 with
         | true =>
           simp only [Bool.and_eq_true] at q2
           obtain ⟨z, rfl, z1⟩ := xc_i p3 q2.1
           obtain ⟨z2, z3⟩ := xbt_ok hD.1.1.1 q2.2 z1
           exact ⟨_, rfl, xclip_ok hs (fun i hi => (hP z i rfl hi).2 (by omega))⟩
         | false => exact ⟨a, rfl, hs⟩
     · exact ⟨a, rfl, hs⟩
  · exact ⟨a, rfl, hs⟩
end XFL
