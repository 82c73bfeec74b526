/-! Thirteenth part: contracts, and what a call brings -/
abbrev xPo : Type := Option xv × xD
abbrev xCo : Type := Nat × xT × List xPo × List (Nat × Nat) × Nat × Nat
def xbare (e : xl) : Option Nat := match e.1, e.2 with
  | .ofNat 0, [q] => (match q.2 with
    | .ofNat 1 => some q.1
    | _ => none)
  | _, _ => none
def xb1 (b a : xv) (q : xTh × xPh) : xTh × xPh := bif xlin a then (match xbare a.2.1 with
  | some k => (match xlu q.1 k with
    | none => ((k, bif Nat.beq b.1 5 then (match xsl b.2.2 with
      | some m => xk (.ofNat m)
      | none => b.2.1) else b.2.1) :: q.1, q.2)
    | some _ => q)
  | none => q) else bif Nat.beq a.1 4 then (match xlr q.2 a.2.2 with
  | none => (q.1, (a.2.2, b.2.2) :: q.2)
  | some _ => q) else q
def xbL (ls : xLS) : xLS → xTh × xPh → xTh × xPh
  | [], q => q
  | p :: t, q => xbL ls t (match xget ls p.1 with
    | some b => xb1 b p.2 q
    | none => q)
def xbS : List xv → List xv → xTh × xPh → xTh × xPh
  | b :: s, a :: t, q => xbS s t (xb1 b a q)
  | _, _, q => q
def xbM (m : xM) : xM → xTh × xPh → xTh × xPh
  | [], q => q
  | p :: t, q => xbM m t (match xsubv q.1 q.2 p.1 with
    | some b => (match xlkf m b p.2.1 with
      | some v => xb1 v p.2.2 q
      | none => q)
    | none => q)
def xbA (m : xMA) : xMA → xTh × xPh → xTh × xPh
  | [], q => q
  | p :: t, q => xbA m t (match xsubv q.1 q.2 p.1, xsub q.1 p.2.1 with
    | some b, some e => (match xlka m b e with
      | some v => xb1 v p.2.2 q
      | none => q)
    | _, _ => q)
/-- a guess of the bindings -/
def xbind (q : xTh × xPh) (ls : xLS) (st : List xv) (D : xD) (T : xT) : xTh × xPh := xbA D.2.2.2.1 T.2.2.2.2.2.1 (xbM D.2.2.1 T.2.2.2.2.1 (xbS st T.2.1 (xbL ls T.1 q)))
/-! a field that a template wants and that nobody has read yet -/
def xpre1 (V : xEnv) (D : xD) (b : xv) (f : Nat) : xD := bif Nat.beq b.1 3 then (match xkd V.2.1 D.2.1 b with
  | some kd => (match V.1 kd with
    | some (.inl d) => (match xgf V (d.1, f, 0, .null, []) D [b] with
      | some [s] => s.1
      | _ => D)
    | _ => D)
  | none => D) else D
def xprel (V : xEnv) : xM → xD → xD
  | [], D => D
  | q :: t, D => xprel V t (xpre1 V D q.1 q.2.1)
def xms (l : List (Nat × Nat)) (k f : Nat) : Bool := l.any (fun q => Nat.beq q.1 k && Nat.beq q.2 f)
def xkM (V : xEnv) (rk : List Nat) (ms : List (Nat × Nat)) (m : xM) : xM := m.filter (fun q => match xkd V.2.1 rk q.1 with
  | some k => !(xms ms k q.2.1)
  | none => false)
def xkA (V : xEnv) (rk : List Nat) (ms : List (Nat × Nat)) (m : xMA) : xMA := m.filter (fun q => match xkd V.2.1 rk q.1 with
  | some k => !(xms ms k 0)
  | none => false)
def xnsy (np nx : Nat) : Nat → xTh → xTh
  | 0, θ => θ
  | m + 1, θ => (np + m, xsym (nx + m)) :: xnsy np nx m θ
def xnrf (nrp nr : Nat) : Nat → xPh → xPh
  | 0, φ => φ
  | m + 1, φ => (nrp + m, nr + m) :: xnrf nrp nr m φ
/-- none: it can't be told; some none: it can't be so -/
def xpI (θ : xTh) (np nx : Nat) : xI → xN → Option (Option xN)
  | [], n => some (some n)
  | q :: t, n => bif Nat.ble np q.1 then xpI θ np nx t ((nx + (q.1 - np), q.2.1, q.2.2) :: n.1, n.2) else (match xlu θ q.1 with
    | none => none
    | some e => (match xas n (xpl (-q.2.1) e) with
      | none => some none
      | some n1 => (match xas n1 (xpl q.2.2 (xng e)) with
        | none => some none
        | some n2 => xpI θ np nx t n2)))
def xpC (θ : xTh) : List xl → xN → Option (Option xN)
  | [], n => some (some n)
  | c :: t, n => (match xsub θ c with
    | none => none
    | some e => (match xas n e with
      | none => some none
      | some n1 => xpC θ t n1))
def xpM (θ : xTh) (φ : xPh) : xM → xM → Option xM
  | [], m => some m
  | q :: t, m => (match xsubv θ φ q.1, xsubv θ φ q.2.2, xpM θ φ t m with
    | some b, some v, some l => some ((b, q.2.1, v) :: l)
    | _, _, _ => none)
def xpA (θ : xTh) (φ : xPh) : xMA → xMA → Option xMA
  | [], m => some m
  | q :: t, m => (match xsubv θ φ q.1, xsub θ q.2.1, xsubv θ φ q.2.2, xpA θ φ t m with
    | some b, some e, some v, some l => some ((b, e, v) :: l)
    | _, _, _, _ => none)
def xpV (θ : xTh) (φ : xPh) (o : Option xv) : Option (Option xv) := match o with
  | none => some none
  | some a => (match xsubv θ φ a with
    | some b => some (some b)
    | none => none)
/-- one way in which a call may end -/
def xpost (V : xEnv) (c : xCo) (θ : xTh) (φ : xPh) (D : xD) (p : xPo) : Option (Option (xD × Option xv)) :=
  let np := c.2.1.2.2.1.2
  let nrp := c.2.1.2.2.2.1.length
  let m := p.2.1.2 - np
  let mr := p.2.2.1.length - nrp
  let θ' := xnsy np D.1.2 m θ
  let φ' := xnrf nrp D.2.1.length mr φ
  match xpI θ' np D.1.2 p.2.1.1.1 D.1.1 with
  | none => none
  | some none => some none
  | some (some n1) => (match xpC θ' p.2.1.1.2 n1 with
    | none => none
    | some none => some none
    | some (some n2) => (match xpM θ' φ' p.2.2.2.1 (xkM V D.2.1 c.2.2.2.1 D.2.2.1), xpA θ' φ' p.2.2.2.2.1 (xkA V D.2.1 c.2.2.2.1 D.2.2.2.1), xpV θ' φ' p.1 with
      | some M, some A, some v => some (some (((n2, D.1.2 + m), D.2.1 ++ p.2.2.1.drop nrp, M, A, D.2.2.2.2 + c.2.2.2.2.1), v))
      | _, _, _ => none))
def xposts (V : xEnv) (c : xCo) (θ : xTh) (φ : xPh) (D : xD) : List xPo → Option (List (xD × Option xv))
  | [] => some []
  | p :: t => (match xposts V c θ φ D t, xpost V c θ φ D p with
    | some l, some (some s) => some (s :: l)
    | some l, some none => some l
    | _, _ => none)
def xrs (ρ : List Int) (σ : List Nat) (o : Option xv) (r : Option Value) : Prop := match o, r with
  | none, none => True
  | some a, some v => xc ρ σ a v
  | _, _ => False
/-- what a contract says -/
def xQc (V : xEnv) (X : List Nat → zm_H → Prop) (W : zm_H → Nat) (c : xCo) (ρ : List Int) (σ τ : List Nat) (h : zm_H) (r : Option Value) (h' : zm_H) : Prop := ∃ τ', xHI V.1 V.2.1 τ' h' ∧ X τ' h' ∧ xF (xms c.2.2.2.1) τ h τ' h' ∧ W h' ≤ W h + c.2.2.2.2.1 ∧ ∃ p ∈ c.2.2.1, ∃ r' s', xdok (ρ ++ r') (σ ++ s') τ' h' p.2 ∧ xrs (ρ ++ r') (σ ++ s') p.1 r
def xV (V : xEnv) (X : List Nat → zm_H → Prop) (W : zm_H → Nat) (og : Nat → Option zm_C) (c : xCo) : Prop := ∀ (ρ : List Int) (σ τ : List Nat) (h : zm_H) (lc : zm_L), xHI V.1 V.2.1 τ h → X τ h → xdok ρ σ τ h c.2.1.2.2 → xlk ρ σ c.2.1.1 lc → zm_Y og c.2.2.2.2.2 c.1 0 lc [] h (xQc V X W c ρ σ τ h)
section XCN
variable {ρ ρc r' : List Int} {σ σc s' τ τ' : List Nat} {θ : xTh} {φ : xPh} {h h' : zm_H} {V : xEnv} {X : List Nat → zm_H → Prop} {W : zm_H → Nat} {D : xD} {c : xCo} {p : xPo}
theorem xnsy_ok {np nx : Nat} (h1 : ρc.length = np) (h2 : ρ.length = nx) (hb : ∀ k t, xlu θ k = some t → ∃ x, ρc[k]? = some x ∧ xe ρ t = some x) : ∀ {m : Nat}, m ≤ r'.length → ∀ k t, xlu (xnsy np nx m θ) k = some t → ∃ x, (ρc ++ r')[k]? = some x ∧ xe (ρ ++ r') t = some x
  | 0, _, k, t, hk => by
    obtain ⟨x, a, b⟩ := hb k t hk
    refine ⟨x, ?_, xe_mono b⟩
    rw [List.getElem?_append_left (List.getElem?_eq_some_iff.mp a).1]
    exact a
  | m + 1, hm, k, t, hk => by
    simp only [xnsy, xlu] at hk
    cases hc : Nat.beq (np + m) k with
    | true =>
      rw [hc] at hk
      cases hk
      have e : np + m = k := Nat.eq_of_beq_eq_true hc
      subst e
      have hg : r'[m]? = some r'[m] := List.getElem?_eq_getElem (by omega)
      refine ⟨r'[m], ?_, xe_sym ?_⟩
      · rw [List.getElem?_append_right (by omega), h1, Nat.add_sub_cancel_left]
        exact hg
      · rw [List.getElem?_append_right (by omega), h2, Nat.add_sub_cancel_left]
        exact hg
    | false =>
      rw [hc] at hk
      exact xnsy_ok h1 h2 hb (by omega) k t hk
theorem xnrf_ok {nrp nr : Nat} (h1 : σc.length = nrp) (h2 : σ.length = nr) (hb : ∀ k n, xlr φ k = some n → ∃ b, σc[k]? = some b ∧ σ[n]? = some b) : ∀ {m : Nat}, m ≤ s'.length → ∀ k n, xlr (xnrf nrp nr m φ) k = some n → ∃ b, (σc ++ s')[k]? = some b ∧ (σ ++ s')[n]? = some b
  | 0, _, k, n, hk => by
    obtain ⟨b, a1, a2⟩ := hb k n hk
    exact ⟨b, xgl a1, xgl a2⟩
  | m + 1, hm, k, n, hk => by
    simp only [xnrf, xlr] at hk
    cases hc : Nat.beq (nrp + m) k with
    | true =>
      rw [hc] at hk
      cases hk
      have e : nrp + m = k := Nat.eq_of_beq_eq_true hc
      subst e
      have hg : s'[m]? = some s'[m] := List.getElem?_eq_getElem (by omega)
      refine ⟨s'[m], ?_, ?_⟩
      · rw [List.getElem?_append_right (by omega), h1, Nat.add_sub_cancel_left]
        exact hg
      · rw [List.getElem?_append_right (by omega), h2, Nat.add_sub_cancel_left]
        exact hg
    | false =>
      rw [hc] at hk
      exact xnrf_ok h1 h2 hb (by omega) k n hk
theorem xpI_ok {θ' : xTh} {np nx : Nat} (h1 : ρc.length = np) (h2 : ρ.length = nx) (hb : ∀ k t, xlu θ' k = some t → ∃ x, (ρc ++ r')[k]? = some x ∧ xe (ρ ++ r') t = some x) : ∀ {I : xI} {n : xN} {o : Option xN}, xnok (ρ ++ r') n → xiok (ρc ++ r') I → xpI θ' np nx I n = some o → ∃ n', o = some n' ∧ xnok (ρ ++ r') n'
  | [], n, o, hn, _, hx => by cases hx; exact ⟨n, rfl, hn⟩
  | q :: t, n, o, hn, hi, hx => by
    simp only [xpI] at hx
    obtain ⟨x, hq, h3, h4⟩ := hi q List.mem_cons_self
    have hi' : xiok (ρc ++ r') t := fun q hq => hi q (List.mem_cons_of_mem _ hq)
    cases hc : Nat.ble np q.1 with
    | true =>
      rw [hc] at hx
      have hle := Nat.le_of_ble_eq_true hc
      simp only [cond_true] at hx
      refine xpI_ok (n := ((nx + (q.1 - np), q.2.1, q.2.2) :: n.1, n.2)) h1 h2 hb ⟨fun p hp => ?_, hn.2⟩ hi' hx
      rcases List.mem_cons.mp hp with rfl | hp
      · refine ⟨x, ?_, h3, h4⟩
        rw [List.getElem?_append_right (by omega), h1] at hq
        show (ρ ++ r')[nx + (q.1 - np)]? = some x
        rw [List.getElem?_append_right (by omega), h2, Nat.add_sub_cancel_left]
        exact hq
      · exact hn.1 p hp
    | false =>
      rw [hc] at hx
      simp only [cond_false] at hx
      split at hx
      · cases hx
      · rename_i e he
        obtain ⟨x', a1, a2⟩ := hb _ _ he
        rw [hq] at a1
        cases a1
        obtain ⟨n1, b1, b2⟩ := xas_ok hn (xe_pl (-q.2.1) a2) (by omega)
        rw [b1] at hx
        obtain ⟨n2, c1, c2⟩ := xas_ok b2 (xe_pl q.2.2 (xe_ng a2)) (by omega)
        simp only [c1] at hx
        exact xpI_ok h1 h2 hb c2 hi' hx
theorem xpC_ok {ρ1 ρ2 : List Int} {σ1 σ2 : List Nat} (hb : xbok ρ1 σ1 θ φ ρ2 σ2) : ∀ {I : List xl} {n : xN} {o : Option xN}, xnok ρ1 n → xcok ρ2 I → xpC θ I n = some o → ∃ n', o = some n' ∧ xnok ρ1 n'
  | [], n, o, hn, _, hx => by cases hx; exact ⟨n, rfl, hn⟩
  | q :: t, n, o, hn, hi, hx => by
    simp only [xpC] at hx
    split at hx
    · cases hx
    · rename_i e he
      obtain ⟨z, h1, h2⟩ := xsub_ok hb he
      obtain ⟨x, h3, h4⟩ := hi q List.mem_cons_self
      rw [h1] at h3
      cases h3
      obtain ⟨n1, b1, b2⟩ := xas_ok hn h2 h4
      rw [b1] at hx
      exact xpC_ok hb b2 (fun q hq => hi q (List.mem_cons_of_mem _ hq)) hx
theorem xpM_ok {ρ1 ρ2 : List Int} {σ1 σ2 : List Nat} (hb : xbok ρ1 σ1 θ φ ρ2 σ2) {m : xM} (hm : xmo ρ1 σ1 h m) : ∀ {I M : xM}, xmo ρ2 σ2 h I → xpM θ φ I m = some M → xmo ρ1 σ1 h M
  | [], M, _, hx => by cases hx; exact hm
  | q :: t, M, hi, hx => by
    simp only [xpM] at hx
    split at hx
    · rename_i b v l h1 h2 h3
      cases hx
      intro p hp
      rcases List.mem_cons.mp hp with rfl | hp
      · obtain ⟨ad, w, a1, a2, a3⟩ := hi q List.mem_cons_self
        exact ⟨ad, w, xsubv_ad2 hb h1 a1, a2, (xsubv_ok hb h2).mpr a3⟩
      · exact xpM_ok hb hm (fun q hq => hi q (List.mem_cons_of_mem _ hq)) h3 p hp
    · cases hx
theorem xpA_ok {ρ1 ρ2 : List Int} {σ1 σ2 : List Nat} (hb : xbok ρ1 σ1 θ φ ρ2 σ2) {m : xMA} (hm : xmao ρ1 σ1 h m) : ∀ {I M : xMA}, xmao ρ2 σ2 h I → xpA θ φ I m = some M → xmao ρ1 σ1 h M
  | [], M, _, hx => by cases hx; exact hm
  | q :: t, M, hi, hx => by
    simp only [xpA] at hx
    split at hx
    · rename_i b e v l h1 h4 h2 h3
      cases hx
      intro p hp
      rcases List.mem_cons.mp hp with rfl | hp
      · obtain ⟨ad, j, w, a1, a2, a3, a4⟩ := hi q List.mem_cons_self
        obtain ⟨z, b1, b2⟩ := xsub_ok hb h4
        rw [a2] at b1
        cases b1
        exact ⟨ad, j, w, xsubv_ad2 hb h1 a1, b2, a3, (xsubv_ok hb h2).mpr a4⟩
      · exact xpA_ok hb hm (fun q hq => hi q (List.mem_cons_of_mem _ hq)) h3 p hp
    · cases hx
theorem xpV_ok {ρ1 ρ2 : List Int} {σ1 σ2 : List Nat} (hb : xbok ρ1 σ1 θ φ ρ2 σ2) {o o' : Option xv} {r : Option Value} (h1 : xpV θ φ o = some o') (h2 : xrs ρ2 σ2 o r) : xrs ρ1 σ1 o' r := by
  cases o with
  | none =>
    cases h1
    cases r with
    | none => trivial
    | some v => cases h2
  | some a =>
    simp only [xpV] at h1
    split at h1
    · rename_i b hb2
      cases h1
      cases r with
      | none => cases h2
      | some v => exact (xsubv_ok hb hb2).mpr h2
    · cases h1
theorem xkM_ok (hH : xHI V.1 V.2.1 τ h) (hD : xdok ρ σ τ h D) {ms : List (Nat × Nat)} (hf : xF (xms ms) τ h τ' h') : xmo ρ σ h' (xkM V D.2.1 ms D.2.2.1) := by
  intro q hq
  obtain ⟨h1, h2⟩ := List.mem_filter.mp hq
  obtain ⟨ad, v, a1, a2, a3⟩ := hD.2.2.1 q h1
  split at h2
  · rename_i k hk
    have ht := xkd_ad hH hD.2.1 a1 hk
    exact ⟨ad, v, a1, hf.2.1 ad k _ v ht (by simpa using h2) a2, a3⟩
  · cases h2
theorem xkA_ok (hH : xHI V.1 V.2.1 τ h) (hD : xdok ρ σ τ h D) {ms : List (Nat × Nat)} (hf : xF (xms ms) τ h τ' h') : xmao ρ σ h' (xkA V D.2.1 ms D.2.2.2.1) := by
  intro q hq
  obtain ⟨h1, h2⟩ := List.mem_filter.mp hq
  obtain ⟨ad, j, v, a1, a2, a3, a4⟩ := hD.2.2.2 q h1
  split at h2
  · rename_i k hk
    have ht := xkd_ad hH hD.2.1 a1 hk
    refine ⟨ad, j, v, a1, a2, ?_, a4⟩
    unfold xar at a3 ⊢
    split at a3
    · rename_i cc hcc
      rw [hf.2.2 ad k cc ht (by simpa using h2) hcc]
      exact a3
    · cases a3
  · cases h2
theorem xpost_ok {o : Option (xD × Option xv)} {r : Option Value} (hH : xHI V.1 V.2.1 τ h) (hD : xdok ρ σ τ h D) (hb : xbok ρ σ θ φ ρc σc) (hc1 : ρc.length = c.2.1.2.2.1.2) (hc2 : σc.length = c.2.1.2.2.2.1.length) (hf : xF (xms c.2.2.2.1) τ h τ' h') (hp : xdok (ρc ++ r') (σc ++ s') τ' h' p.2) (hr : xrs (ρc ++ r') (σc ++ s') p.1 r) (hx : xpost V c θ φ D p = some o) : ∃ s, o = some s ∧ xdok (ρ ++ r') (σ ++ s') τ' h' s.1 ∧ xrs (ρ ++ r') (σ ++ s') s.2 r ∧ s.1.2.2.2.2 = D.2.2.2.2 + c.2.2.2.2.1 := by
  have hnx := hD.1.2
  have hrl := hD.2.1.1
  have hpx := hp.1.2
  have hprl := hp.2.1.1
  rw [List.length_append] at hpx hprl
  have em : p.2.1.2 - c.2.1.2.2.1.2 = r'.length := by omega
  have er : p.2.2.1.length - c.2.1.2.2.2.1.length = s'.length := by omega
  unfold xpost at hx
  simp only [em, er] at hx
  have hθ := xnsy_ok (r' := r') hc1 (show ρ.length = D.1.2 by omega) hb.1 (Nat.le_refl r'.length)
  have hφ := xnrf_ok (s' := s') hc2 (show σ.length = D.2.1.length by omega) hb.2 (Nat.le_refl s'.length)
  have hb' : xbok (ρ ++ r') (σ ++ s') (xnsy c.2.1.2.2.1.2 D.1.2 r'.length θ) (xnrf c.2.1.2.2.2.1.length D.2.1.length s'.length φ) (ρc ++ r') (σc ++ s') := ⟨hθ, hφ⟩
  split at hx
  · cases hx
  · rename_i h1
    obtain ⟨n', e, -⟩ := xpI_ok hc1 (show ρ.length = D.1.2 by omega) hθ (xnok_mono hD.1.1) hp.1.1.1 h1
    cases e
  · rename_i n1 h1
    obtain ⟨n1', e, hn1⟩ := xpI_ok hc1 (show ρ.length = D.1.2 by omega) hθ (xnok_mono hD.1.1) hp.1.1.1 h1
    cases e
    split at hx
    · cases hx
    · rename_i h2
      obtain ⟨n', e, -⟩ := xpC_ok hb' hn1 hp.1.1.2 h2
      cases e
    · rename_i n2 h2
      obtain ⟨n2', e, hn2⟩ := xpC_ok hb' hn1 hp.1.1.2 h2
      cases e
      split at hx
      · rename_i M A v hM hA hv
        cases hx
        refine ⟨_, rfl, ⟨⟨hn2, ?_⟩, ⟨?_, fun k kd hk => ?_⟩, xpM_ok hb' (xmo_mono (xkM_ok hH hD hf)) hp.2.2.1 hM, xpA_ok hb' (xmao_mono (xkA_ok hH hD hf)) hp.2.2.2 hA⟩, xpV_ok hb' hv hr, rfl⟩
        · show D.1.2 + r'.length = _
          rw [List.length_append]
          omega
        · show (σ ++ s').length = (D.2.1 ++ p.2.2.1.drop _).length
          rw [List.length_append, List.length_append, List.length_drop]
          omega
        · have hk : (D.2.1 ++ p.2.2.1.drop c.2.1.2.2.2.1.length)[k]? = some kd := hk
          obtain ⟨sx, hsx⟩ := hf.1
          by_cases hlt : k < D.2.1.length
          · rw [List.getElem?_append_left hlt] at hk
            obtain ⟨b, a1, a2⟩ := hD.2.1.2 k kd hk
            exact ⟨b, xgl a1, by rw [hsx]; exact xgl a2⟩
          · rw [List.getElem?_append_right (by omega), List.getElem?_drop] at hk
            obtain ⟨b, a1, a2⟩ := hp.2.1.2 _ kd hk
            refine ⟨b, ?_, a2⟩
            rw [List.getElem?_append_right (by omega)] at a1 ⊢
            rw [← a1]
            congr 1
            omega
      · cases hx
theorem xposts_ok {r : Option Value} (hH : xHI V.1 V.2.1 τ h) (hD : xdok ρ σ τ h D) (hb : xbok ρ σ θ φ ρc σc) (hc1 : ρc.length = c.2.1.2.2.1.2) (hc2 : σc.length = c.2.1.2.2.2.1.length) (hf : xF (xms c.2.2.2.1) τ h τ' h') (hp : xdok (ρc ++ r') (σc ++ s') τ' h' p.2) (hr : xrs (ρc ++ r') (σc ++ s') p.1 r) : ∀ {P : List xPo} {l : List (xD × Option xv)}, p ∈ P → xposts V c θ φ D P = some l → ∃ s ∈ l, xdok (ρ ++ r') (σ ++ s') τ' h' s.1 ∧ xrs (ρ ++ r') (σ ++ s') s.2 r ∧ s.1.2.2.2.2 = D.2.2.2.2 + c.2.2.2.2.1
  | [], l, hm, _ => by cases hm
  | q :: t, l, hm, hx => by
    simp only [xposts] at hx
    split at hx
    · rename_i l' s h1 h2
      cases hx
      rcases List.mem_cons.mp hm with rfl | hm
      · obtain ⟨s0, e, a⟩ := xpost_ok hH hD hb hc1 hc2 hf hp hr h2
        cases e
        exact ⟨s, List.mem_cons_self, a⟩
      · obtain ⟨s0, a1, a2⟩ := xposts_ok hH hD hb hc1 hc2 hf hp hr hm h1
        exact ⟨s0, List.mem_cons_of_mem _ a1, a2⟩
    · rename_i l' h1 h2
      cases hx
      rcases List.mem_cons.mp hm with rfl | hm
      · obtain ⟨s0, e, a⟩ := xpost_ok hH hD hb hc1 hc2 hf hp hr h2
        cases e
      · exact xposts_ok hH hD hb hc1 hc2 hf hp hr hm h1
    · cases hx
theorem xpre1_ok {b : xv} {f : Nat} (hH : xHI V.1 V.2.1 τ h) (hD : xdok ρ σ τ h D) : ∃ r s, xdok (ρ ++ r) (σ ++ s) τ h (xpre1 V D b f) ∧ (xpre1 V D b f).2.2.2.2 = D.2.2.2.2 := by
  have hid : ∃ r s, xdok (ρ ++ r) (σ ++ s) τ h D ∧ D.2.2.2.2 = D.2.2.2.2 := ⟨[], [], by rw [List.append_nil, List.append_nil]; exact hD, rfl⟩
  unfold xpre1
  cases hb : Nat.beq b.1 3 with
  | false => exact hid
  | true =>
    simp only [cond_true]
    split
    · split
      · rename_i d hd
        split
        · rename_i s hs
          have h3 : b.1 = 3 := Nat.eq_of_beq_eq_true hb
          have hc : xc ρ σ b (.ref b.2.2) := by
            obtain ⟨t, e, n⟩ := b
            have h3 : t = 3 := h3
            subst h3
            rfl
          obtain ⟨sc, -, s', hm, r, s2, h4, -, h6⟩ := xgf_ok (df := zm_df) (og := fun _ => none) (i := 0) hH hD (show xsk ρ σ [b] [.ref b.2.2] from ⟨hc, trivial⟩) hs
          have e := List.mem_singleton.mp hm
          subst e
          exact ⟨r, s2, h4, h6⟩
        · exact hid
      · exact hid
    · exact hid
theorem xprel_ok (hH : xHI V.1 V.2.1 τ h) : ∀ {M : xM} {ρ : List Int} {σ : List Nat} {D : xD}, xdok ρ σ τ h D → ∃ r s, xdok (ρ ++ r) (σ ++ s) τ h (xprel V M D) ∧ (xprel V M D).2.2.2.2 = D.2.2.2.2
  | [], ρ, σ, D, hD => ⟨[], [], by rw [List.append_nil, List.append_nil]; exact hD, rfl⟩
  | q :: t, ρ, σ, D, hD => by
    obtain ⟨r, s, h1, h2⟩ := xpre1_ok (b := q.1) (f := q.2.1) hH hD
    obtain ⟨r2, s2, h3, h4⟩ := xprel_ok hH (M := t) h1
    exact ⟨r ++ r2, s ++ s2, by rw [← List.append_assoc, ← List.append_assoc]; exact h3, by rw [show xprel V (q :: t) D = xprel V t (xpre1 V D q.1 q.2.1) from rfl, h4, h2]⟩
end XCN
