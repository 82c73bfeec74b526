/-! Twelfth part: templates, and when a state is an instance of one -/
abbrev xTh : Type := List (Nat × xl)
abbrev xPh : Type := List (Nat × Nat)
abbrev xT : Type := xLS × List xv × xD
def xlu : xTh → Nat → Option xl
  | [], _ => none
  | q :: t, k => bif Nat.beq q.1 k then some q.2 else xlu t k
def xlr : xPh → Nat → Option Nat
  | [], _ => none
  | q :: t, k => bif Nat.beq q.1 k then some q.2 else xlr t k
def xsubt (θ : xTh) : List (Nat × Int) → Option xl
  | [] => some (xk 0)
  | q :: t => match xlu θ q.1, xsubt θ t with
    | some e, some s => some (xadd q.2 s e)
    | _, _ => none
def xsub (θ : xTh) (e : xl) : Option xl := match xsubt θ e.2 with
  | some s => some (xpl e.1 s)
  | none => none
def xlin (a : xv) : Bool := match a.1 with
  | 0 => true
  | 1 => true
  | 6 => true
  | 7 => true
  | 8 => true
  | _ => false
def xsubv (θ : xTh) (φ : xPh) (a : xv) : Option xv := bif xlin a then (match xsub θ a.2.1 with
  | some e => some (a.1, e, a.2.2)
  | none => none) else bif Nat.beq a.1 4 then (match xlr φ a.2.2 with
  | some n => some (4, a.2.1, n)
  | none => none) else some a
/-- the bindings say of the other's symbols what they stand for -/
def xbok (ρ : List Int) (σ : List Nat) (θ : xTh) (φ : xPh) (ρc : List Int) (σc : List Nat) : Prop := (∀ k t, xlu θ k = some t → ∃ x, ρc[k]? = some x ∧ xe ρ t = some x) ∧ ∀ k n, xlr φ k = some n → ∃ b, σc[k]? = some b ∧ σ[n]? = some b
section XTM
variable {ρ ρc : List Int} {σ σc τ : List Nat} {θ : xTh} {φ : xPh} {h : zm_H}
theorem xsubt_ok (hb : xbok ρ σ θ φ ρc σc) : ∀ {l : List (Nat × Int)} {s : xl}, xsubt θ l = some s → ∃ z, xt ρc l = some z ∧ xe ρ s = some z
  | [], s, hs => by
    simp only [xsubt] at hs
    cases hs
    exact ⟨0, rfl, xe_k 0⟩
  | q :: t, s, hs => by
    simp only [xsubt] at hs
    split at hs
    · rename_i e s' he hs'
      cases hs
      obtain ⟨z, h1, h2⟩ := xsubt_ok hb hs'
      obtain ⟨x, h3, h4⟩ := hb.1 _ _ he
      refine ⟨q.2 * x + z, xt_cons.mpr ⟨x, z, h3, h1, rfl⟩, ?_⟩
      rw [xe_add h2 h4]
      congr 1
      omega
    · cases hs
theorem xsub_ok (hb : xbok ρ σ θ φ ρc σc) {e e' : xl} (hs : xsub θ e = some e') : ∃ z, xe ρc e = some z ∧ xe ρ e' = some z := by
  unfold xsub at hs
  split at hs
  · rename_i s hs'
    cases hs
    obtain ⟨z, h1, h2⟩ := xsubt_ok hb hs'
    refine ⟨e.1 + z, ?_, ?_⟩
    · simp only [xe, h1]
    · rw [xe_pl e.1 h2]
      congr 1
      omega
  · cases hs
/-- what the substituted value stands for, the value itself stands for -/
theorem xsubv_ok (hb : xbok ρ σ θ φ ρc σc) {a a' : xv} {v : Value} (hs : xsubv θ φ a = some a') : xc ρ σ a' v ↔ xc ρc σc a v := by
  obtain ⟨t, e, n⟩ := a
  unfold xsubv at hs
  cases hl : xlin (t, e, n) with
  | true =>
    rw [hl] at hs
    simp only [cond_true] at hs
    split at hs
    · rename_i e' he
      cases hs
      obtain ⟨z, h1, h2⟩ := xsub_ok hb he
      unfold xlin at hl
      split at hl
      · rename_i h; have h : t = 0 := h; subst h
        show (∃ i : Int32, v = .int i ∧ xe ρ e' = some i.toInt) ↔ ∃ i : Int32, v = .int i ∧ xe ρc e = some i.toInt
        rw [h1, h2]
      · rename_i h; have h : t = 1 := h; subst h
        show (∃ i : Int64, v = .long i ∧ xe ρ e' = some i.toInt) ↔ ∃ i : Int64, v = .long i ∧ xe ρc e = some i.toInt
        rw [h1, h2]
      · rename_i h; have h : t = 6 := h; subst h
        show (∃ x, v = .int (xsgn x) ∧ xe ρ e' = some x) ↔ ∃ x, v = .int (xsgn x) ∧ xe ρc e = some x
        rw [h1, h2]
      · rename_i h; have h : t = 7 := h; subst h
        show (∃ (x j : Nat), xe ρ e' = some (x : Int) ∧ xwh[x]? = some j ∧ v = .retAddr j) ↔ ∃ (x j : Nat), xe ρc e = some (x : Int) ∧ xwh[x]? = some j ∧ v = .retAddr j
        rw [h1, h2]
      · rename_i h; have h : t = 8 := h; subst h
        show (∃ (x j : Nat), xe ρ e' = some (x : Int) ∧ xsl j = some x ∧ v = .retAddr j) ↔ ∃ (x j : Nat), xe ρc e = some (x : Int) ∧ xsl j = some x ∧ v = .retAddr j
        rw [h1, h2]
      · cases hl
    · cases hs
  | false =>
    rw [hl] at hs
    simp only [cond_false] at hs
    cases h4 : Nat.beq t 4 with
    | true =>
      have h4' : t = 4 := Nat.eq_of_beq_eq_true h4
      subst h4'
      simp only [cond_true, Nat.beq_refl] at hs
      split at hs
      · rename_i m hm
        cases hs
        obtain ⟨b, h1, h2⟩ := hb.2 _ _ hm
        show (∃ b, σ[m]? = some b ∧ v = .ref b) ↔ ∃ b, σc[n]? = some b ∧ v = .ref b
        have h1 : σc[n]? = some b := h1
        rw [h1, h2]
      · cases hs
    | false =>
      simp only [h4, cond_false, Option.some.injEq] at hs
      subst hs
      unfold xc
      split
      · rename_i hq; have hq : t = 0 := hq; subst hq; cases hl
      · rename_i hq; have hq : t = 1 := hq; subst hq; cases hl
      · exact Iff.rfl
      · exact Iff.rfl
      · rename_i hq; have hq : t = 4 := hq; subst hq; cases h4
      · exact Iff.rfl
      · rename_i hq; have hq : t = 6 := hq; subst hq; cases hl
      · rename_i hq; have hq : t = 7 := hq; subst hq; cases hl
      · rename_i hq; have hq : t = 8 := hq; subst hq; cases hl
      · exact Iff.rfl
theorem xsubv_ad (hb : xbok ρ σ θ φ ρc σc) {a a' : xv} {ad : Nat} (hs : xsubv θ φ a = some a') (ha : xad σ a' = some ad) : xad σc a = some ad := by
  obtain ⟨t, e, n⟩ := a
  unfold xsubv at hs
  cases hl : xlin (t, e, n) with
  | true =>
    rw [hl] at hs
    simp only [cond_true] at hs
    split at hs
    · cases hs
      unfold xad at ha
      split at ha
      · rename_i h; have h : t = 3 := h; subst h; cases hl
      · rename_i h; have h : t = 4 := h; subst h; cases hl
      · cases ha
    · cases hs
  | false =>
    rw [hl] at hs
    simp only [cond_false] at hs
    cases h4 : Nat.beq t 4 with
    | true =>
      have h4' : t = 4 := Nat.eq_of_beq_eq_true h4
      subst h4'
      simp only [cond_true, Nat.beq_refl] at hs
      split at hs
      · rename_i m hm
        cases hs
        obtain ⟨b, h1, h2⟩ := hb.2 _ _ hm
        have ha : σ[m]? = some ad := ha
        rw [h2] at ha
        cases ha
        exact h1
      · cases hs
    | false =>
      simp only [h4, cond_false, Option.some.injEq] at hs
      subst hs
      unfold xad at ha ⊢
      split at ha
      · exact ha
      · rename_i hq; have hq : t = 4 := hq; subst hq; cases h4
      · cases ha
theorem xsubv_ad2 (hb : xbok ρ σ θ φ ρc σc) {a a' : xv} {ad : Nat} (hs : xsubv θ φ a = some a') (ha : xad σc a = some ad) : xad σ a' = some ad := by
  obtain ⟨t, e, n⟩ := a
  unfold xad at ha
  split at ha
  · rename_i h; have h : t = 3 := h; subst h
    cases ha
    unfold xsubv at hs
    cases hs
    rfl
  · rename_i h; have h : t = 4 := h; subst h
    unfold xsubv at hs
    have hs : (match xlr φ n with
      | some m => some ((4 : Nat), e, m)
      | none => none) = some a' := hs
    split at hs
    · rename_i m hm
      cases hs
      obtain ⟨b, h1, h2⟩ := hb.2 _ _ hm
      have ha : σc[n]? = some ad := ha
      rw [h1] at ha
      cases ha
      exact h2
    · cases hs
  · cases ha
/-! an actual value as a wanted one -/
def xeql (n : xN) (e f : xl) : Bool := bif xeq e f then true else (let d := xadd (.negSucc 0) e f; xpv n.1 n.2 8 d && xpv n.1 n.2 8 (xng d))
theorem xeql_ok {n : xN} {e f : xl} {x y : Int} (hn : xnok ρ n) (he : xe ρ e = some x) (hf : xe ρ f = some y) (h : xeql n e f = true) : x = y := by
  unfold xeql at h
  cases h1 : xeq e f with
  | true =>
    have e1 := of_decide_eq_true h1
    rw [e1, hf] at he
    cases he
    rfl
  | false =>
    rw [h1] at h
    simp only [cond_false, Bool.and_eq_true] at h
    have hd := xe_add (k := .negSucc 0) he hf
    have k1 := xpv_ok hn.1 hn.2 8 hd h.1
    have k2 := xpv_ok hn.1 hn.2 8 (xe_ng hd) h.2
    have e2 : x + Int.negSucc 0 * y = x - y := by show x + (-1) * y = _; omega
    omega
def xsame (n : xN) (b a : xv) : Bool := bif Nat.beq a.1 b.1 then (bif xlin a then xeql n a.2.1 b.2.1 else Nat.beq a.1 2 || Nat.beq a.2.2 b.2.2) else Nat.beq a.1 8 && (Nat.beq b.1 5 && (match xsl b.2.2 with
  | some m => xeql n a.2.1 (xk (.ofNat m))
  | none => false))
theorem xsame_ok {n : xN} {b a : xv} {v : Value} (hn : xnok ρ n) (hb : xc ρ σ b v) (hd : xlin a = true → ∃ z, xe ρ a.2.1 = some z) (h : xsame n b a = true) : xc ρ σ a v := by
  obtain ⟨t, e, k⟩ := a
  obtain ⟨t', e', k'⟩ := b
  unfold xsame at h
  cases h1 : Nat.beq t t' with
  | true =>
    have e1 : t = t' := Nat.eq_of_beq_eq_true h1
    subst e1
    have h : (bif Nat.beq t t then (bif xlin (t, e, k) then xeql n e e' else Nat.beq t 2 || Nat.beq k k') else _) = true := h
    rw [Nat.beq_refl] at h
    simp only [cond_true] at h
    cases hl : xlin (t, e, k) with
    | true =>
      rw [hl] at h
      simp only [cond_true] at h
      obtain ⟨z, hz⟩ := hd hl
      have hz : xe ρ e = some z := hz
      have key : ∀ y, xe ρ e' = some y → xe ρ e = some y := fun y hy => by
        rw [hz, xeql_ok hn hz hy h]
      unfold xlin at hl
      split at hl
      · rename_i h; have h : t = 0 := h; subst h; obtain ⟨i, h5, h6⟩ := hb; exact ⟨i, h5, key _ h6⟩
      · rename_i h; have h : t = 1 := h; subst h; obtain ⟨i, h5, h6⟩ := hb; exact ⟨i, h5, key _ h6⟩
      · rename_i h; have h : t = 6 := h; subst h; obtain ⟨i, h5, h6⟩ := hb; exact ⟨i, h5, key _ h6⟩
      · rename_i h; have h : t = 7 := h; subst h; obtain ⟨i, j, h5, h6⟩ := hb; exact ⟨i, j, key _ h5, h6⟩
      · rename_i h; have h : t = 8 := h; subst h; obtain ⟨i, j, h5, h6⟩ := hb; exact ⟨i, j, key _ h5, h6⟩
      · cases hl
    | false =>
      rw [hl] at h
      simp only [cond_false, Bool.or_eq_true] at h
      rcases h with h | h
      · have h : t = 2 := Nat.eq_of_beq_eq_true h
        subst h
        exact hb
      · have h : k = k' := Nat.eq_of_beq_eq_true h
        subst h
        unfold xc at hb
        split at hb
        · rename_i hq; have hq : t = 0 := hq; subst hq; cases hl
        · rename_i hq; have hq : t = 1 := hq; subst hq; cases hl
        · rename_i hq; have hq : t = 2 := hq; subst hq; exact hb
        · rename_i hq; have hq : t = 3 := hq; subst hq; exact hb
        · rename_i hq; have hq : t = 4 := hq; subst hq; exact hb
        · rename_i hq; have hq : t = 5 := hq; subst hq; exact hb
        · rename_i hq; have hq : t = 6 := hq; subst hq; cases hl
        · rename_i hq; have hq : t = 7 := hq; subst hq; cases hl
        · rename_i hq; have hq : t = 8 := hq; subst hq; cases hl
        · cases hb
  | false =>
    have h : (bif Nat.beq t t' then _ else Nat.beq t 8 && (Nat.beq t' 5 && (match xsl k' with
      | some m => xeql n e (xk (.ofNat m))
      | none => false))) = true := h
    rw [h1] at h
    simp only [cond_false, Bool.and_eq_true] at h
    have e1 : t = 8 := Nat.eq_of_beq_eq_true h.1
    have e2 : t' = 5 := Nat.eq_of_beq_eq_true h.2.1
    subst e1
    subst e2
    have hb : v = .retAddr k' := hb
    obtain ⟨-, -, h3⟩ := h
    split at h3
    · rename_i m hm
      obtain ⟨z, hz⟩ := hd rfl
      have hz : xe ρ e = some z := hz
      have := xeql_ok hn hz (xe_k (.ofNat m)) h3
      subst this
      exact ⟨m, k', hz, hm, hb⟩
    · cases h3
end XTM
/-! the check of an instance -/
def xiL (θ : xTh) (φ : xPh) (n : xN) (ls : xLS) : xLS → Bool
  | [] => true
  | q :: t => (match xget ls q.1, xsubv θ φ q.2 with
    | some b, some a => xsame n b a
    | _, _ => false) && xiL θ φ n ls t
def xiS (θ : xTh) (φ : xPh) (n : xN) : List xv → List xv → Bool
  | [], [] => true
  | b :: s, q :: t => (match xsubv θ φ q with
    | some a => xsame n b a
    | none => false) && xiS θ φ n s t
  | _, _ => false
def xiM (θ : xTh) (φ : xPh) (n : xN) (m : xM) : xM → Bool
  | [] => true
  | q :: t => (match xsubv θ φ q.1, xsubv θ φ q.2.2 with
    | some b, some a => (match xlkf m b q.2.1 with
      | some v => xsame n v a
      | none => false)
    | _, _ => false) && xiM θ φ n m t
def xiA (θ : xTh) (φ : xPh) (n : xN) (m : xMA) : xMA → Bool
  | [] => true
  | q :: t => (match xsubv θ φ q.1, xsub θ q.2.1, xsubv θ φ q.2.2 with
    | some b, some e, some a => (match xlka m b e with
      | some v => xsame n v a
      | none => false)
    | _, _, _ => false) && xiA θ φ n m t
def xiI (θ : xTh) (n : xN) : xI → Bool
  | [] => true
  | q :: t => (match xlu θ q.1 with
    | some e => xpv n.1 n.2 8 (xpl (-q.2.1) e) && xpv n.1 n.2 8 (xpl q.2.2 (xng e))
    | none => false) && xiI θ n t
def xiC (θ : xTh) (n : xN) : List xl → Bool
  | [] => true
  | c :: t => (match xsub θ c with
    | some e => xpv n.1 n.2 8 e
    | none => false) && xiC θ n t
def xiK (φ : xPh) (rk : List Nat) : Nat → List Nat → Bool
  | _, [] => true
  | k, kd :: t => (match xlr φ k with
    | some m => (match rk[m]? with
      | some kd' => Nat.beq kd kd'
      | none => false)
    | none => false) && xiK φ rk (k + 1) t
def xcov (θ : xTh) (iv : xI) : Nat → Bool
  | 0 => true
  | k + 1 => (match xlu θ k with
    | some e => (xlo iv e).isSome
    | none => false) && xcov θ iv k
/-- the state (locals, stack, data) is an instance of the template -/
def xinst (θ : xTh) (φ : xPh) (ls : xLS) (st : List xv) (D : xD) (T : xT) : Bool :=
  θ.all (fun q => Nat.blt q.1 T.2.2.1.2) && (φ.all (fun q => Nat.blt q.1 T.2.2.2.1.length) && (xcov θ D.1.1.1 T.2.2.1.2 && (xiK φ D.2.1 0 T.2.2.2.1 && (xiL θ φ D.1.1 ls T.1 && (xiS θ φ D.1.1 st T.2.1 && (xiI θ D.1.1 T.2.2.1.1.1 && (xiC θ D.1.1 T.2.2.1.1.2 && (xiM θ φ D.1.1 D.2.2.1 T.2.2.2.2.1 && xiA θ φ D.1.1 D.2.2.2.1 T.2.2.2.2.2.1))))))))
