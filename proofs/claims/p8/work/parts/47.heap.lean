/-! Seventh part: cells and what is known of them -/
def xsat (τ : List Nat) (a : xA) (v : Value) : Prop := match a.1 with
  | 0 => ∃ i : Int32, v = .int i ∧ a.2.2.1 ≤ i.toInt ∧ i.toInt ≤ a.2.2.2
  | 1 => ∃ i : Int64, v = .long i
  | 2 => v = .null
  | 3 => v = .ref a.2.1
  | 4 => ∃ b, v = .ref b ∧ τ[b]? = some a.2.1
  | 5 => ∃ x j : Nat, xwh[x]? = some j ∧ v = .retAddr j
  | _ => False
def xjok (q : xJ) (j : Nat) : Prop := q.2.1 ≤ (j : Int) ∧ (j : Int) ≤ q.2.2.1 ∧ (q.2.2.2.1 = 0 ∨ j % q.2.2.2.1 = q.2.2.2.2)
def xka (t : Nat) (k : zm_K) : Prop := match t with
  | 0 => ∃ f, k = .inl f
  | 1 => ∃ f, k = .inr (.inl f)
  | 2 => ∃ f, k = .inl f
  | 3 => ∃ f, k = .inl f
  | _ => ∃ f, k = .inr (.inr f)
def xcf (τ : List Nat) (D : xKD) (c : zm_C) : Prop := match D with
  | .inl d => ∃ fs, c = .inr (d.1, fs) ∧ fs.length = d.2.length ∧ ∀ (f : Nat) (sp : List xA) (v : Value), d.2[f]? = some sp → fs[f]? = some v → ∃ a ∈ sp, xsat τ a v
  | .inr d => ∃ k, c = .inl (d.1, d.2.1, k) ∧ xka d.1 k ∧ ∀ j : Nat, j < d.2.1 → ∃ q ∈ d.2.2, xsat τ q.1 (zm_kv k j) ∧ xjok q j
theorem xsat_mono {τ s : List Nat} {a : xA} {v : Value} (h : xsat τ a v) : xsat (τ ++ s) a v := by
  obtain ⟨t, n, lo, hi⟩ := a
  unfold xsat at h ⊢
  split at h
  · exact h
  · exact h
  · exact h
  · exact h
  · obtain ⟨b, h1, h2⟩ := h
    refine ⟨b, h1, ?_⟩
    rw [List.getElem?_append_left (List.getElem?_eq_some_iff.mp h2).1]
    exact h2
  · exact h
  · cases h
theorem xcf_mono {τ s : List Nat} {D : xKD} {c : zm_C} (h : xcf τ D c) : xcf (τ ++ s) D c := by
  cases D with
  | inl d =>
    obtain ⟨fs, h1, h2, h3⟩ := h
    refine ⟨fs, h1, h2, fun f sp v a b => ?_⟩
    obtain ⟨x, hx, hs⟩ := h3 f sp v a b
    exact ⟨x, hx, xsat_mono hs⟩
  | inr d =>
    obtain ⟨k, h1, h2, h3⟩ := h
    refine ⟨k, h1, h2, fun j hj => ?_⟩
    obtain ⟨x, hx, hs, ho⟩ := h3 j hj
    exact ⟨x, hx, xsat_mono hs, ho⟩
def xfd (h : zm_H) (a f : Nat) : Option Value := match h[a]? with
  | some (.inr o) => o.2[f]?
  | _ => none
def xar (h : zm_H) (a j : Nat) : Option Value := match h[a]? with
  | some (.inl c) => if j < c.2.1 then some (zm_kv c.2.2 j) else none
  | _ => none
/-- the cells keep to their kinds -/
def xHI (KT : Nat → Option xKD) (SG : Nat → Bool) (τ : List Nat) (h : zm_H) : Prop := h.length = τ.length ∧ (∀ (a kd : Nat), τ[a]? = some kd → ∃ D c, KT kd = some D ∧ h[a]? = some c ∧ xcf τ D c) ∧ ∀ a : Nat, SG a = true → τ[a]? = some a
def xad (σ : List Nat) (b : xv) : Option Nat := match b.1 with
  | 3 => some b.2.2
  | 4 => σ[b.2.2]?
  | _ => none
def xkd (SG : Nat → Bool) (rk : List Nat) (b : xv) : Option Nat := match b.1 with
  | 3 => bif SG b.2.2 then some b.2.2 else none
  | 4 => rk[b.2.2]?
  | _ => none
def xrk (σ τ rk : List Nat) : Prop := σ.length = rk.length ∧ ∀ k kd : Nat, rk[k]? = some kd → ∃ b, σ[k]? = some b ∧ τ[b]? = some kd
def xmo (ρ : List Int) (σ : List Nat) (h : zm_H) (m : xM) : Prop := ∀ q ∈ m, ∃ ad v, xad σ q.1 = some ad ∧ xfd h ad q.2.1 = some v ∧ xc ρ σ q.2.2 v
def xmao (ρ : List Int) (σ : List Nat) (h : zm_H) (m : xMA) : Prop := ∀ q ∈ m, ∃ (ad j : Nat) (v : Value), xad σ q.1 = some ad ∧ xe ρ q.2.1 = some (j : Int) ∧ xar h ad j = some v ∧ xc ρ σ q.2.2 v
def xdok (ρ : List Int) (σ τ : List Nat) (h : zm_H) (D : xD) : Prop := xCok ρ D.1 ∧ xrk σ τ D.2.1 ∧ xmo ρ σ h D.2.2.1 ∧ xmao ρ σ h D.2.2.2.1
theorem xad_mono {σ s : List Nat} {b : xv} {ad : Nat} (h : xad σ b = some ad) : xad (σ ++ s) b = some ad := by
  unfold xad at h ⊢
  split at h
  · exact h
  · rw [List.getElem?_append_left (List.getElem?_eq_some_iff.mp h).1]
    exact h
  · cases h
theorem xmo_mono {ρ r : List Int} {σ s : List Nat} {h : zm_H} {m : xM} (hm : xmo ρ σ h m) : xmo (ρ ++ r) (σ ++ s) h m := by
  intro q hq
  obtain ⟨ad, v, h1, h2, h3⟩ := hm q hq
  exact ⟨ad, v, xad_mono h1, h2, xc_mono h3⟩
theorem xmao_mono {ρ r : List Int} {σ s : List Nat} {h : zm_H} {m : xMA} (hm : xmao ρ σ h m) : xmao (ρ ++ r) (σ ++ s) h m := by
  intro q hq
  obtain ⟨ad, j, v, h1, h2, h3, h4⟩ := hm q hq
  exact ⟨ad, j, v, xad_mono h1, xe_mono h2, h3, xc_mono h4⟩
/-- the kind of what a base stands for -/
theorem xkd_ok {KT : Nat → Option xKD} {SG : Nat → Bool} {ρ : List Int} {σ τ rk : List Nat} {h : zm_H} {b : xv} {v : Value} {kd : Nat} (hH : xHI KT SG τ h) (hr : xrk σ τ rk) (hb : xc ρ σ b v) (hk : xkd SG rk b = some kd) : ∃ ad, v = .ref ad ∧ xad σ b = some ad ∧ τ[ad]? = some kd := by
  obtain ⟨t, e, n⟩ := b
  unfold xkd at hk
  split at hk
  · rename_i h2; have h2 : t = 3 := h2; subst h2
    cases hs : SG n with
    | false => rw [hs] at hk; cases hk
    | true =>
      rw [hs] at hk
      cases hk
      exact ⟨n, hb, rfl, hH.2.2 n hs⟩
  · rename_i h2; have h2 : t = 4 := h2; subst h2
    obtain ⟨ad, h1, rfl⟩ := hb
    obtain ⟨b', h3, h4⟩ := hr.2 n kd hk
    rw [h1] at h3
    cases h3
    exact ⟨ad, rfl, h1, h4⟩
  · cases hk
theorem xkd_ad {KT : Nat → Option xKD} {SG : Nat → Bool} {σ τ rk : List Nat} {h : zm_H} {b : xv} {ad kd : Nat} (hH : xHI KT SG τ h) (hr : xrk σ τ rk) (hb : xad σ b = some ad) (hk : xkd SG rk b = some kd) : τ[ad]? = some kd := by
  obtain ⟨t, e, n⟩ := b
  unfold xkd at hk
  split at hk
  · rename_i h2; have h2 : t = 3 := h2; subst h2
    cases hs : SG n with
    | false => rw [hs] at hk; cases hk
    | true =>
      rw [hs] at hk
      cases hk
      have hb : some n = some ad := hb
      cases hb
      exact hH.2.2 _ hs
  · rename_i h2; have h2 : t = 4 := h2; subst h2
    obtain ⟨b', h3, h4⟩ := hr.2 n kd hk
    have hb : σ[n]? = some ad := hb
    rw [hb] at h3
    cases h3
    exact h4
  · cases hk
/-! from an alternative to a symbolic value -/
def xfa (C : xC) (rk : List Nat) (a : xA) : Option (xC × List Nat × xv) := match a.1 with
  | 0 => bif xle a.2.2.2 a.2.2.1 then some (C, rk, xi (xk a.2.2.1)) else (let q := xfr C a.2.2.1 a.2.2.2; some (q.1, rk, xi q.2))
  | 1 => (let q := xfL C; some (q.1, rk, xL q.2))
  | 2 => some (C, rk, (2, xk 0, 0))
  | 3 => some (C, rk, (3, xk 0, a.2.1))
  | 4 => some (C, rk ++ [a.2.1], (4, xk 0, rk.length))
  | 5 => (let q := xfr C 0 35; some (q.1, rk, (7, q.2, 0)))
  | _ => none
theorem xrk_id {σ τ rk : List Nat} (h : xrk σ τ rk) : xrk (σ ++ []) τ rk := by rw [List.append_nil]; exact h
theorem xwh_lt {x j : Nat} (h : xwh[x]? = some j) : (0 : Int) ≤ (x : Int) ∧ (x : Int) ≤ 35 := by
  have := (List.getElem?_eq_some_iff.mp h).1
  have e : xwh.length = 36 := rfl
  omega
theorem xfa_ok {ρ : List Int} {σ τ rk : List Nat} {C : xC} {a : xA} {v : Value} {q : xC × List Nat × xv} (hC : xCok ρ C) (hr : xrk σ τ rk) (hs : xsat τ a v) (h : xfa C rk a = some q) : ∃ r s, xCok (ρ ++ r) q.1 ∧ xrk (σ ++ s) τ q.2.1 ∧ xc (ρ ++ r) (σ ++ s) q.2.2 v := by
  obtain ⟨t, n, lo, hi⟩ := a
  unfold xfa at h
  split at h
  · rename_i h2; have h2 : t = 0 := h2; subst h2
    obtain ⟨i, rfl, h3, h4⟩ := hs
    cases hh : xle hi lo with
    | true =>
      have h : (bif xle hi lo then _ else _) = some q := h
      rw [hh] at h
      cases h
      have hh := xle_iff.mp hh
      have h3 : lo ≤ i.toInt := h3
      have h4 : i.toInt ≤ hi := h4
      refine ⟨[], [], by rw [List.append_nil]; exact hC, xrk_id hr, i, rfl, ?_⟩
      show xe _ (xk lo) = _
      rw [xe_k]
      congr 1
      omega
    | false =>
      have h : (bif xle hi lo then _ else _) = some q := h
      rw [hh] at h
      cases h
      obtain ⟨r, h5, h6⟩ := xR_fr hC h3 h4
      exact ⟨r, [], h5, xrk_id hr, i, rfl, h6⟩
  · rename_i h2; have h2 : t = 1 := h2; subst h2
    obtain ⟨i, rfl⟩ := hs
    cases h
    obtain ⟨r, h5, h6⟩ := xR_fL hC i
    exact ⟨r, [], h5, xrk_id hr, i, rfl, h6⟩
  · rename_i h2; have h2 : t = 2 := h2; subst h2
    cases h
    exact ⟨[], [], by rw [List.append_nil]; exact hC, xrk_id hr, hs⟩
  · rename_i h2; have h2 : t = 3 := h2; subst h2
    cases h
    exact ⟨[], [], by rw [List.append_nil]; exact hC, xrk_id hr, hs⟩
  · rename_i h2; have h2 : t = 4 := h2; subst h2
    obtain ⟨b, rfl, hb⟩ := hs
    cases h
    have hl : σ.length = rk.length := hr.1
    refine ⟨[], [b], by rw [List.append_nil]; exact hC, ⟨by simp [hl], fun k kd hk => ?_⟩, b, ?_, rfl⟩
    · have hk : (rk ++ [n])[k]? = some kd := hk
      by_cases hlt : k < rk.length
      · rw [List.getElem?_append_left hlt] at hk
        obtain ⟨b', h5, h6⟩ := hr.2 k kd hk
        refine ⟨b', ?_, h6⟩
        rw [List.getElem?_append_left (by omega)]
        exact h5
      · have hlen := (List.getElem?_eq_some_iff.mp hk).1
        rw [List.length_append, List.length_singleton] at hlen
        have e : k = rk.length := by omega
        subst e
        have hk : n = kd := by simpa using hk
        subst hk
        refine ⟨b, ?_, hb⟩
        rw [← hl]
        simp
    · show (σ ++ [b])[rk.length]? = some b
      rw [← hl]
      simp
  · rename_i h2; have h2 : t = 5 := h2; subst h2
    obtain ⟨x, j, hx, rfl⟩ := hs
    cases h
    obtain ⟨r, h5, h6⟩ := xR_fr hC (xwh_lt hx).1 (xwh_lt hx).2
    exact ⟨r, [], h5, xrk_id hr, x, j, h6, hx, rfl⟩
  · cases h
/-! what a symbolic value keeps to -/
def xcon (n : xN) (rk : List Nat) (v : xv) (a : xA) : Bool := match a.1 with
  | 0 => Nat.beq v.1 0 && (xpv n.1 n.2 8 (xpl (-a.2.2.1) v.2.1) && xpv n.1 n.2 8 (xpl a.2.2.2 (xng v.2.1)))
  | 1 => Nat.beq v.1 1
  | 2 => Nat.beq v.1 2
  | 3 => Nat.beq v.1 3 && Nat.beq v.2.2 a.2.1
  | 4 => Nat.beq v.1 4 && (match rk[v.2.2]? with
    | some k => Nat.beq k a.2.1
    | none => false)
  | 5 => Nat.beq v.1 7
  | _ => false
theorem xcon_ok {ρ : List Int} {σ τ rk : List Nat} {n : xN} {v : xv} {w : Value} {a : xA} (hn : xnok ρ n) (hr : xrk σ τ rk) (hv : xc ρ σ v w) (h : xcon n rk v a = true) : xsat τ a w := by
  obtain ⟨t, m, lo, hi⟩ := a
  obtain ⟨tv, e, k⟩ := v
  unfold xcon at h
  split at h
  · rename_i h2; have h2 : t = 0 := h2; subst h2
    simp only [Bool.and_eq_true] at h
    obtain ⟨i, rfl, he⟩ := xc_i hv h.1
    have h1 := xpv_ok hn.1 hn.2 8 (xe_pl (-lo) he) h.2.1
    have h3 := xpv_ok hn.1 hn.2 8 (xe_pl hi (xe_ng he)) h.2.2
    exact ⟨i, rfl, by show lo ≤ i.toInt; omega, by show i.toInt ≤ hi; omega⟩
  · rename_i h2; have h2 : t = 1 := h2; subst h2
    obtain ⟨i, rfl, -⟩ := xc_L hv h
    exact ⟨i, rfl⟩
  · rename_i h2; have h2 : t = 2 := h2; subst h2
    have h3 : tv = 2 := Nat.eq_of_beq_eq_true h
    subst h3
    exact hv
  · rename_i h2; have h2 : t = 3 := h2; subst h2
    simp only [Bool.and_eq_true] at h
    have h3 : tv = 3 := Nat.eq_of_beq_eq_true h.1
    have h4 : k = m := Nat.eq_of_beq_eq_true h.2
    subst h3 h4
    exact hv
  · rename_i h2; have h2 : t = 4 := h2; subst h2
    simp only [Bool.and_eq_true] at h
    have h3 : tv = 4 := Nat.eq_of_beq_eq_true h.1
    subst h3
    obtain ⟨b, hb, rfl⟩ := hv
    obtain ⟨-, h5⟩ := h
    split at h5
    · rename_i kd hk
      have h6 : kd = m := Nat.eq_of_beq_eq_true h5
      subst h6
      obtain ⟨b', h7, h8⟩ := hr.2 k kd hk
      have hb : σ[k]? = some b := hb
      rw [hb] at h7
      cases h7
      exact ⟨b, rfl, h8⟩
    · cases h5
  · rename_i h2; have h2 : t = 5 := h2; subst h2
    have h3 : tv = 7 := Nat.eq_of_beq_eq_true h
    subst h3
    obtain ⟨x, j, -, h5, rfl⟩ := hv
    exact ⟨x, j, h5, rfl⟩
  · cases h
/-- the machine's own check of what is put into a field -/
def xokt (ft : FieldType) (a : xA) : Bool := match ft with
  | .int => Nat.beq a.1 0
  | .long => Nat.beq a.1 1
  | .boolean => Nat.beq a.1 0 && (xle 0 a.2.2.1 && xle a.2.2.2 1)
  | .object _ => Nat.ble 2 a.1 && Nat.ble a.1 5
  | .array _ => Nat.ble 2 a.1 && Nat.ble a.1 4
  | _ => false
theorem xokt_ok {τ : List Nat} {ft : FieldType} {a : xA} {v : Value} (hs : xsat τ a v) (h : xokt ft a = true) : zm_okv ft v = true := by
  obtain ⟨t, m, lo, hi⟩ := a
  unfold xokt at h
  split at h
  · have h2 : t = 0 := Nat.eq_of_beq_eq_true h
    subst h2
    obtain ⟨i, rfl, -, -⟩ := hs
    rfl
  · have h2 : t = 1 := Nat.eq_of_beq_eq_true h
    subst h2
    obtain ⟨i, rfl⟩ := hs
    rfl
  · simp only [Bool.and_eq_true, xle_iff] at h
    have h2 : t = 0 := Nat.eq_of_beq_eq_true h.1
    subst h2
    obtain ⟨i, rfl, h3, h4⟩ := hs
    have h3 : lo ≤ i.toInt := h3
    have h4 : i.toInt ≤ hi := h4
    have h5 : (0 : Int) ≤ lo := h.2.1
    have h6 : hi ≤ (1 : Int) := h.2.2
    show (i == 0 || i == 1) = true
    rcases (show i.toInt = 0 ∨ i.toInt = 1 by omega) with h | h
    · have : i = 0 := Int32.toInt_inj.mp h
      subst this; rfl
    · have : i = 1 := Int32.toInt_inj.mp h
      subst this; rfl
  · simp only [Bool.and_eq_true, Nat.ble_eq] at h
    have h : 2 ≤ t ∧ t ≤ 5 := h
    rcases (show t = 2 ∨ t = 3 ∨ t = 4 ∨ t = 5 by omega) with rfl | rfl | rfl | rfl
    · have hs : v = .null := hs; subst hs; rfl
    · have hs : v = .ref m := hs; subst hs; rfl
    · obtain ⟨b, rfl, -⟩ := hs; rfl
    · obtain ⟨x, j, -, rfl⟩ := hs; rfl
  · simp only [Bool.and_eq_true, Nat.ble_eq] at h
    have h : 2 ≤ t ∧ t ≤ 4 := h
    rcases (show t = 2 ∨ t = 3 ∨ t = 4 by omega) with rfl | rfl | rfl
    · have hs : v = .null := hs; subst hs; rfl
    · have hs : v = .ref m := hs; subst hs; rfl
    · obtain ⟨b, rfl, -⟩ := hs; rfl
  · cases h
