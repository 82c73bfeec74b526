/-! An instance is one -/
theorem xlist {α : Type} {P : Nat → α → Prop} : ∀ n : Nat, (∀ k, k < n → ∃ x, P k x) → ∃ l : List α, l.length = n ∧ ∀ k x, l[k]? = some x → P k x
  | 0, _ => ⟨[], rfl, fun k x h => by simp at h⟩
  | n + 1, h => by
    obtain ⟨l, h1, h2⟩ := xlist n (fun k hk => h k (by omega))
    obtain ⟨x, hx⟩ := h n (by omega)
    refine ⟨l ++ [x], by simp [h1], fun k y hy => ?_⟩
    by_cases hlt : k < l.length
    · rw [List.getElem?_append_left hlt] at hy
      exact h2 k y hy
    · have hl := (List.getElem?_eq_some_iff.mp hy).1
      rw [List.length_append, List.length_singleton] at hl
      have e : k = l.length := by omega
      subst e
      have hy : x = y := by simpa using hy
      subst hy
      rw [h1]
      exact hx
theorem xlu_mem : ∀ {θ : xTh} {k : Nat} {t : xl}, xlu θ k = some t → (k, t) ∈ θ
  | [], k, t, h => by cases h
  | q :: r, k, t, h => by
    simp only [xlu] at h
    cases h1 : Nat.beq q.1 k with
    | true =>
      rw [h1] at h
      cases h
      have e := Nat.eq_of_beq_eq_true h1
      rw [← e]
      exact List.mem_cons_self
    | false =>
      rw [h1] at h
      exact List.mem_cons_of_mem _ (xlu_mem h)
theorem xlr_mem : ∀ {φ : xPh} {k n : Nat}, xlr φ k = some n → (k, n) ∈ φ
  | [], k, n, h => by cases h
  | q :: r, k, n, h => by
    simp only [xlr] at h
    cases h1 : Nat.beq q.1 k with
    | true =>
      rw [h1] at h
      cases h
      have e := Nat.eq_of_beq_eq_true h1
      rw [← e]
      exact List.mem_cons_self
    | false =>
      rw [h1] at h
      exact List.mem_cons_of_mem _ (xlr_mem h)
section XIN
variable {ρ ρc : List Int} {σ σc τ : List Nat} {θ : xTh} {φ : xPh} {h : zm_H} {n : xN}
theorem xcov_ok {iv : xI} (hi : xiok ρ iv) : ∀ {m : Nat}, xcov θ iv m = true → ∀ k, k < m → ∃ x : Int, ∃ t, xlu θ k = some t ∧ xe ρ t = some x
  | 0, _, k, hk => by omega
  | m + 1, hc, k, hk => by
    simp only [xcov, Bool.and_eq_true] at hc
    by_cases e : k = m
    · subst e
      have h1 := hc.1
      split at h1
      · rename_i t ht
        obtain ⟨z, hz⟩ := Option.isSome_iff_exists.mp h1
        obtain ⟨x, hx, -⟩ := xlo_ok hi hz
        exact ⟨x, t, ht, hx⟩
      · cases h1
    · exact xcov_ok hi hc.2 k (by omega)
theorem xiK_ok {rk : List Nat} (hr : xrk σ τ rk) : ∀ {l : List Nat} {k0 : Nat}, xiK φ rk k0 l = true → ∀ k kd, l[k]? = some kd → ∃ b : Nat, ∃ m, xlr φ (k0 + k) = some m ∧ σ[m]? = some b ∧ τ[b]? = some kd
  | [], k0, _, k, kd, hk => by simp at hk
  | kd0 :: t, k0, hc, k, kd, hk => by
    simp only [xiK, Bool.and_eq_true] at hc
    cases k with
    | zero =>
      simp only [List.getElem?_cons_zero, Option.some.injEq] at hk
      subst hk
      have h1 := hc.1
      split at h1
      · rename_i m hm
        split at h1
        · rename_i kd' hkd
          have e := Nat.eq_of_beq_eq_true h1
          subst e
          obtain ⟨b, h2, h3⟩ := hr.2 m _ hkd
          exact ⟨b, m, hm, h2, h3⟩
        · cases h1
      · cases h1
    | succ k =>
      rw [List.getElem?_cons_succ] at hk
      obtain ⟨b, m, h1, h2, h3⟩ := xiK_ok hr hc.2 k kd hk
      exact ⟨b, m, by rw [show k0 + (k + 1) = k0 + 1 + k by omega]; exact h1, h2, h3⟩
theorem xsubv_df (hb : xbok ρ σ θ φ ρc σc) {q a : xv} (hs : xsubv θ φ q = some a) : xlin a = true → ∃ z, xe ρ a.2.1 = some z := by
  intro hl
  unfold xsubv at hs
  cases h1 : xlin q with
  | true =>
    rw [h1] at hs
    simp only [cond_true] at hs
    split at hs
    · rename_i e he
      cases hs
      obtain ⟨z, -, h2⟩ := xsub_ok hb he
      exact ⟨z, h2⟩
    · cases hs
  | false =>
    rw [h1] at hs
    simp only [cond_false] at hs
    cases h4 : Nat.beq q.1 4 with
    | true =>
      rw [h4] at hs
      simp only [cond_true] at hs
      split at hs
      · cases hs; cases hl
      · cases hs
    | false =>
      rw [h4] at hs
      simp only [cond_false, Option.some.injEq] at hs
      subst hs
      rw [h1] at hl
      cases hl
theorem xiL_ok {ls : xLS} {lc : zm_L} (hb : xbok ρ σ θ φ ρc σc) (hn : xnok ρ n) (hl : xlk ρ σ ls lc) : ∀ {T : xLS}, xiL θ φ n ls T = true → xlk ρc σc T lc
  | [], _ => fun q hq => by cases hq
  | p :: t, hc => by
    simp only [xiL, Bool.and_eq_true] at hc
    intro q hq
    rcases List.mem_cons.mp hq with rfl | hq
    · have h1 := hc.1
      split at h1
      · rename_i b a hb2 ha
        obtain ⟨v, h2, h3⟩ := xget_ok hl hb2
        exact ⟨v, h2, (xsubv_ok hb ha).mp (xsame_ok hn h3 (xsubv_df hb ha) h1)⟩
      · cases h1
    · exact xiL_ok hb hn hl hc.2 q hq
theorem xiS_ok (hb : xbok ρ σ θ φ ρc σc) (hn : xnok ρ n) : ∀ {st T : List xv} {sc : List Value}, xsk ρ σ st sc → xiS θ φ n st T = true → xsk ρc σc T sc
  | [], [], sc, hs, _ => by rw [xsk_nil hs]; trivial
  | [], _ :: _, _, _, h => by cases h
  | _ :: _, [], _, _, h => by cases h
  | b :: s, q :: t, sc, hs, hc => by
    obtain ⟨v, s', rfl, h1, h2⟩ := xsk_cons hs
    simp only [xiS, Bool.and_eq_true] at hc
    have h3 := hc.1
    split at h3
    · rename_i a ha
      exact ⟨(xsubv_ok hb ha).mp (xsame_ok hn h1 (xsubv_df hb ha) h3), xiS_ok hb hn h2 hc.2⟩
    · cases h3
theorem xiM_ok {m : xM} (hb : xbok ρ σ θ φ ρc σc) (hn : xnok ρ n) (hm : xmo ρ σ h m) : ∀ {T : xM}, xiM θ φ n m T = true → (∀ q ∈ T, ∀ b, xsubv θ φ q.1 = some b → ∃ ad, xad σ b = some ad) → xmo ρc σc h T
  | [], _, _ => fun q hq => by cases hq
  | p :: t, hc, hd => by
    simp only [xiM, Bool.and_eq_true] at hc
    intro q hq
    rcases List.mem_cons.mp hq with rfl | hq
    · have h1 := hc.1
      split at h1
      · rename_i b a hb2 ha
        split at h1
        · rename_i v hv
          obtain ⟨ad, had⟩ := hd q List.mem_cons_self b hb2
          obtain ⟨w, h2, h3⟩ := xlkf_ok had hm hv
          exact ⟨ad, w, xsubv_ad hb hb2 had, h2, (xsubv_ok hb ha).mp (xsame_ok hn h3 (xsubv_df hb ha) h1)⟩
        · cases h1
      · cases h1
    · exact xiM_ok hb hn hm hc.2 (fun q hq => hd q (List.mem_cons_of_mem _ hq)) q hq
theorem xlkf_ad {m : xM} {b v : xv} {f : Nat} (hm : xmo ρ σ h m) (hl : xlkf m b f = some v) : ∃ ad, xad σ b = some ad := by
  induction m with
  | nil => cases hl
  | cons q t ih =>
    simp only [xlkf] at hl
    cases hc : Nat.beq q.2.1 f && (Nat.beq q.1.1 b.1 && Nat.beq q.1.2.2 b.2.2) with
    | false => rw [hc] at hl; exact ih (fun q hq => hm q (List.mem_cons_of_mem _ hq)) hl
    | true =>
      simp only [Bool.and_eq_true] at hc
      obtain ⟨ad, w, h1, -, -⟩ := hm q List.mem_cons_self
      exact ⟨ad, xad_same hc.2.1 hc.2.2 h1⟩
theorem xlka_ad {m : xMA} {b v : xv} {e : xl} (hm : xmao ρ σ h m) (hl : xlka m b e = some v) : ∃ ad, xad σ b = some ad := by
  induction m with
  | nil => cases hl
  | cons q t ih =>
    simp only [xlka] at hl
    cases hc : (Nat.beq q.1.1 b.1 && Nat.beq q.1.2.2 b.2.2) && xeq q.2.1 e with
    | false => rw [hc] at hl; exact ih (fun q hq => hm q (List.mem_cons_of_mem _ hq)) hl
    | true =>
      simp only [Bool.and_eq_true] at hc
      obtain ⟨ad, j, w, h1, -, -, -⟩ := hm q List.mem_cons_self
      exact ⟨ad, xad_same hc.1.1 hc.1.2 h1⟩
theorem xiM_ok2 {m : xM} (hb : xbok ρ σ θ φ ρc σc) (hn : xnok ρ n) (hm : xmo ρ σ h m) : ∀ {T : xM}, xiM θ φ n m T = true → xmo ρc σc h T
  | [], _ => fun q hq => by cases hq
  | p :: t, hc => by
    simp only [xiM, Bool.and_eq_true] at hc
    intro q hq
    rcases List.mem_cons.mp hq with rfl | hq
    · have h1 := hc.1
      split at h1
      · rename_i b a hb2 ha
        split at h1
        · rename_i v hv
          obtain ⟨ad, had⟩ := xlkf_ad hm hv
          obtain ⟨w, h2, h3⟩ := xlkf_ok had hm hv
          exact ⟨ad, w, xsubv_ad hb hb2 had, h2, (xsubv_ok hb ha).mp (xsame_ok hn h3 (xsubv_df hb ha) h1)⟩
        · cases h1
      · cases h1
    · exact xiM_ok2 hb hn hm hc.2 q hq
theorem xiA_ok {m : xMA} (hb : xbok ρ σ θ φ ρc σc) (hn : xnok ρ n) (hm : xmao ρ σ h m) : ∀ {T : xMA}, xiA θ φ n m T = true → xmao ρc σc h T
  | [], _ => fun q hq => by cases hq
  | p :: t, hc => by
    simp only [xiA, Bool.and_eq_true] at hc
    intro q hq
    rcases List.mem_cons.mp hq with rfl | hq
    · have h1 := hc.1
      split at h1
      · rename_i b e a hb2 he ha
        split at h1
        · rename_i v hv
          obtain ⟨ad, had⟩ := xlka_ad hm hv
          obtain ⟨j, w, h2, h3, h4⟩ := xlka_ok had hm hv
          obtain ⟨z, h5, h6⟩ := xsub_ok hb he
          rw [h2] at h6
          cases h6
          exact ⟨ad, j, w, xsubv_ad hb hb2 had, h5, h3, (xsubv_ok hb ha).mp (xsame_ok hn h4 (xsubv_df hb ha) h1)⟩
        · cases h1
      · cases h1
    · exact xiA_ok hb hn hm hc.2 q hq
theorem xiI_ok (hb : xbok ρ σ θ φ ρc σc) (hn : xnok ρ n) : ∀ {T : xI}, xiI θ n T = true → xiok ρc T
  | [], _ => fun q hq => by cases hq
  | p :: t, hc => by
    simp only [xiI, Bool.and_eq_true] at hc
    intro q hq
    rcases List.mem_cons.mp hq with rfl | hq
    · have h1 := hc.1
      split at h1
      · rename_i e he
        simp only [Bool.and_eq_true] at h1
        obtain ⟨x, h2, h3⟩ := hb.1 _ _ he
        have k1 := xpv_ok hn.1 hn.2 8 (xe_pl (-q.2.1) h3) h1.1
        have k2 := xpv_ok hn.1 hn.2 8 (xe_pl q.2.2 (xe_ng h3)) h1.2
        exact ⟨x, h2, by omega, by omega⟩
      · cases h1
    · exact xiI_ok hb hn hc.2 q hq
theorem xiC_ok (hb : xbok ρ σ θ φ ρc σc) (hn : xnok ρ n) : ∀ {T : List xl}, xiC θ n T = true → xcok ρc T
  | [], _ => fun q hq => by cases hq
  | p :: t, hc => by
    simp only [xiC, Bool.and_eq_true] at hc
    intro q hq
    rcases List.mem_cons.mp hq with rfl | hq
    · have h1 := hc.1
      split at h1
      · rename_i e he
        obtain ⟨z, h2, h3⟩ := xsub_ok hb he
        exact ⟨z, h2, xpv_ok hn.1 hn.2 8 h3 h1⟩
      · cases h1
    · exact xiC_ok hb hn hc.2 q hq
theorem xinst_ok {ls : xLS} {st : List xv} {D : xD} {T : xT} {lc : zm_L} {sc : List Value} (hD : xdok ρ σ τ h D) (hl : xlk ρ σ ls lc) (hs : xsk ρ σ st sc) (hx : xinst θ φ ls st D T = true) : ∃ ρc σc, xbok ρ σ θ φ ρc σc ∧ xdok ρc σc τ h T.2.2 ∧ xlk ρc σc T.1 lc ∧ xsk ρc σc T.2.1 sc := by
  unfold xinst at hx
  simp only [Bool.and_eq_true] at hx
  obtain ⟨h1, h2, h3, h4, h5, h6, h7, h8, h9, h10⟩ := hx
  have hn := hD.1.1
  obtain ⟨ρc, r1, r2⟩ := xlist T.2.2.1.2 (xcov_ok hn.1 h3)
  obtain ⟨σc, s1, s2⟩ := xlist (P := fun k b => ∃ m, xlr φ k = some m ∧ σ[m]? = some b ∧ τ[b]? = T.2.2.2.1[k]?) T.2.2.2.1.length (fun k hk => by
    obtain ⟨b, m, a1, a2, a3⟩ := xiK_ok hD.2.1 h4 k _ (List.getElem?_eq_getElem hk)
    rw [Nat.zero_add] at a1
    exact ⟨b, m, a1, a2, by rw [a3, List.getElem?_eq_getElem hk]⟩)
  have hb : xbok ρ σ θ φ ρc σc := by
    constructor
    · intro k t hk
      have hlt := List.all_eq_true.mp h1 _ (xlu_mem hk)
      have hlt : k < T.2.2.1.2 := by simpa using hlt
      have hg : ρc[k]? = some ρc[k] := List.getElem?_eq_getElem (by omega)
      obtain ⟨t', e1, e2⟩ := r2 k _ hg
      rw [hk] at e1
      cases e1
      exact ⟨_, hg, e2⟩
    · intro k m hk
      have hlt := List.all_eq_true.mp h2 _ (xlr_mem hk)
      have hlt : k < T.2.2.2.1.length := by simpa using hlt
      have hg : σc[k]? = some σc[k] := List.getElem?_eq_getElem (by omega)
      obtain ⟨m', e1, e2, -⟩ := s2 k _ hg
      rw [hk] at e1
      cases e1
      exact ⟨_, hg, e2⟩
  refine ⟨ρc, σc, hb, ⟨⟨⟨xiI_ok hb hn h7, xiC_ok hb hn h8⟩, r1.symm⟩, ⟨s1, fun k kd hk => ?_⟩, xiM_ok2 hb hn hD.2.2.1 h9, xiA_ok hb hn hD.2.2.2 h10⟩, xiL_ok hb hn hl h5, xiS_ok hb hn hs h6⟩
  have hlt := (List.getElem?_eq_some_iff.mp hk).1
  have hg : σc[k]? = some σc[k] := List.getElem?_eq_getElem (by omega)
  obtain ⟨m, e1, e2, e3⟩ := s2 k _ hg
  exact ⟨_, hg, by rw [e3]; exact hk⟩
end XIN
