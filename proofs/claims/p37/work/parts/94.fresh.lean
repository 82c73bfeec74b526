/-! Both objects, fresh: they keep to their kinds -/
def zf_og (c : Bool) : Nat → Option zm_C := fun j => if j = 95 then (if c then some (.inr (0, [])) else none) else none
def zf_r1 (c : Bool) : Option (Option Value × zm_H) := zm_ex zm_P zm_df (zf_og c) 2000 10 0 0 [(0, .ref 0)] [] [.inr (10, zm_df 10)]
def zf_r2 (c : Bool) : Option (Option Value × zm_H) := match zf_r1 c with
  | some (_, h) => zm_ex zm_P zm_df (zf_og c) 2000 10 180 0 [(0, .ref 55)] [] (h ++ [.inr (11, zm_df 11)])
  | none => none
def zf_t : List Nat := [0, 1, 2, 3, 4, 5, 6, 7, 8, 200, 201, 202, 203, 204, 205, 206, 16, 17, 18, 19, 20, 21, 22, 23, 24, 25, 26, 27, 28, 29, 30, 31, 32, 33, 34, 35, 36, 37, 38, 39, 40, 41, 42, 43, 44, 45, 46, 211, 211, 211, 211, 51, 52, 53, 54, 55, 56, 57, 58, 59, 60, 61, 62, 63, 64, 65, 66, 67, 68, 69, 70, 71, 72, 73, 74, 75, 76, 77, 78, 79, 80, 81, 82, 83, 84, 85, 86, 87, 88, 89, 90, 91, 92, 93, 94, 95, 96, 97, 98, 99, 100, 101, 102, 103, 104, 105, 106, 107, 108, 109, 110, 111, 112, 113, 114, 115, 116]
def xsatb (τ : List Nat) (a : xA) (v : Value) : Bool := match a.1 with
  | 0 => (match v with
    | .int i => xle a.2.2.1 i.toInt && xle i.toInt a.2.2.2
    | _ => false)
  | 1 => (match v with
    | .long _ => true
    | _ => false)
  | 2 => (match v with
    | .null => true
    | _ => false)
  | 3 => (match v with
    | .ref b => Nat.beq b a.2.1
    | _ => false)
  | 4 => (match v with
    | .ref b => (match τ[b]? with
      | some k => Nat.beq k a.2.1
      | none => false)
    | _ => false)
  | _ => false
theorem xsatb_ok {τ : List Nat} {a : xA} {v : Value} (h : xsatb τ a v = true) : xsat τ a v := by
  obtain ⟨t, n, lo, hi⟩ := a
  unfold xsatb at h
  split at h
  · rename_i h2; have h2 : t = 0 := h2; subst h2
    split at h
    · rename_i i
      simp only [Bool.and_eq_true, xle_iff] at h
      exact ⟨i, rfl, h.1, h.2⟩
    · cases h
  · rename_i h2; have h2 : t = 1 := h2; subst h2
    split at h
    · exact ⟨_, rfl⟩
    · cases h
  · rename_i h2; have h2 : t = 2 := h2; subst h2
    split at h
    · rfl
    · cases h
  · rename_i h2; have h2 : t = 3 := h2; subst h2
    split at h
    · rename_i b
      have e : b = n := Nat.eq_of_beq_eq_true h
      subst e
      rfl
    · cases h
  · rename_i h2; have h2 : t = 4 := h2; subst h2
    split at h
    · rename_i b
      split at h
      · rename_i k hk
        have e : k = n := Nat.eq_of_beq_eq_true h
        subst e
        exact ⟨b, rfl, hk⟩
      · cases h
    · cases h
  · cases h
def xjokb (q : xJ) (j : Nat) : Bool := xle q.2.1 (.ofNat j) && (xle (.ofNat j) q.2.2.1 && (Nat.beq q.2.2.2.1 0 || Nat.beq (j % q.2.2.2.1) q.2.2.2.2))
theorem xjokb_ok {q : xJ} {j : Nat} (h : xjokb q j = true) : xjok q j := by
  simp only [xjokb, Bool.and_eq_true, Bool.or_eq_true, xle_iff] at h
  exact ⟨h.1, h.2.1, h.2.2.imp Nat.eq_of_beq_eq_true Nat.eq_of_beq_eq_true⟩
def xkab (t : Nat) (k : zm_K) : Bool := match t with
  | 0 => (match k with
    | .inl _ => true
    | _ => false)
  | 1 => (match k with
    | .inr (.inl _) => true
    | _ => false)
  | 2 => (match k with
    | .inl _ => true
    | _ => false)
  | 3 => (match k with
    | .inl _ => true
    | _ => false)
  | _ => (match k with
    | .inr (.inr _) => true
    | _ => false)
theorem xkab_ok {t : Nat} {k : zm_K} (h : xkab t k = true) : xka t k := by
  unfold xkab at h
  unfold xka
  split at h
  · split at h
    · exact ⟨_, rfl⟩
    · cases h
  · split at h
    · exact ⟨_, rfl⟩
    · cases h
  · split at h
    · exact ⟨_, rfl⟩
    · cases h
  · split at h
    · exact ⟨_, rfl⟩
    · cases h
  · rename_i h0 h1 h2 h3
    split at h
    · split
      · exact absurd rfl h0
      · exact absurd rfl h1
      · exact absurd rfl h2
      · exact absurd rfl h3
      · exact ⟨_, rfl⟩
    · cases h
/-- all places, but where any value will do -/
def xela (τ : List Nat) (js : List xJ) (k : zm_K) : Nat → Bool
  | 0 => true
  | n + 1 => js.any (fun q => xsatb τ q.1 (zm_kv k n) && xjokb q n) && xela τ js k n
theorem xela_ok {τ : List Nat} {js : List xJ} {k : zm_K} : ∀ {n j : Nat}, xela τ js k n = true → j < n → ∃ q ∈ js, xsat τ q.1 (zm_kv k j) ∧ xjok q j
  | 0, j, _, hj => by omega
  | n + 1, j, h, hj => by
    simp only [xela, Bool.and_eq_true] at h
    by_cases e : j = n
    · subst e
      obtain ⟨q, hq, h1⟩ := List.any_eq_true.mp h.1
      simp only [Bool.and_eq_true] at h1
      exact ⟨q, hq, xsatb_ok h1.1, xjokb_ok h1.2⟩
    · exact xela_ok h.2 (by omega)
def xany (t n : Nat) (js : List xJ) : Bool := js.any (fun q => (Nat.beq q.2.2.2.1 0 && (xle q.2.1 0 && xle (.ofNat n) (q.2.2.1 + 1))) && (bif Nat.beq t 1 then Nat.beq q.1.1 1 else Nat.beq t 0 && (Nat.beq q.1.1 0 && (xle q.1.2.2.1 xI32a && xle xI32b q.1.2.2.2))))
theorem xany_ok {τ : List Nat} {t n : Nat} {js : List xJ} {k : zm_K} (hk : xka t k) (h : xany t n js = true) {j : Nat} (hj : j < n) : ∃ q ∈ js, xsat τ q.1 (zm_kv k j) ∧ xjok q j := by
  obtain ⟨q, hq, h1⟩ := List.any_eq_true.mp h
  simp only [Bool.and_eq_true, xle_iff] at h1
  obtain ⟨⟨h2, h3, h4⟩, h5⟩ := h1
  have h4 : (n : Int) ≤ q.2.2.1 + 1 := h4
  refine ⟨q, hq, ?_, by omega, by omega, Or.inl (Nat.eq_of_beq_eq_true h2)⟩
  obtain ⟨⟨tq, nq, lo, hi⟩, qq⟩ := q
  cases ht : Nat.beq t 1 with
  | true =>
    have ht1 := Nat.eq_of_beq_eq_true ht
    subst ht1
    obtain ⟨f, rfl⟩ := hk
    rw [ht] at h5
    have e : tq = 1 := Nat.eq_of_beq_eq_true h5
    subst e
    exact ⟨f j, rfl⟩
  | false =>
    rw [ht] at h5
    simp only [cond_false, Bool.and_eq_true, xle_iff] at h5
    have ht0 := Nat.eq_of_beq_eq_true h5.1
    subst ht0
    obtain ⟨f, rfl⟩ := hk
    have e : tq = 0 := Nat.eq_of_beq_eq_true h5.2.1
    subst e
    have hb := xb_rng (f j)
    have h6 : lo ≤ xI32a := h5.2.2.1
    have h7 : xI32b ≤ hi := h5.2.2.2
    exact ⟨f j, rfl, by show lo ≤ _; omega, by show _ ≤ hi; omega⟩
def xcfb (τ : List Nat) (D : xKD) (c : zm_C) : Bool := match D, c with
  | .inl d, .inr o => Nat.beq d.1 o.1 && (Nat.beq o.2.length d.2.length && (d.2.zip o.2).all (fun p => p.1.any (fun a => xsatb τ a p.2)))
  | .inr d, .inl o => Nat.beq d.1 o.1 && (Nat.beq d.2.1 o.2.1 && (xkab d.1 o.2.2 && (xany d.1 d.2.1 d.2.2 || xela τ d.2.2 o.2.2 d.2.1)))
  | _, _ => false
theorem xcfb_ok {τ : List Nat} {D : xKD} {c : zm_C} (h : xcfb τ D c = true) : xcf τ D c := by
  unfold xcfb at h
  split at h
  · rename_i d o
    simp only [Bool.and_eq_true] at h
    obtain ⟨h1, h2, h3⟩ := h
    obtain ⟨ci, fs⟩ := o
    have e : d.1 = ci := Nat.eq_of_beq_eq_true h1
    subst e
    refine ⟨fs, rfl, Nat.eq_of_beq_eq_true h2, fun f sp v a b => ?_⟩
    have hz : (d.2.zip fs)[f]? = some (sp, v) := by
      rw [List.getElem?_zip_eq_some]
      exact ⟨a, b⟩
    have h4 := List.all_eq_true.mp h3 _ (List.mem_of_getElem? hz)
    obtain ⟨x, hx, h5⟩ := List.any_eq_true.mp h4
    exact ⟨x, hx, xsatb_ok h5⟩
  · rename_i d o
    simp only [Bool.and_eq_true, Bool.or_eq_true] at h
    obtain ⟨h1, h2, h3, h4⟩ := h
    obtain ⟨t, n, k⟩ := o
    have e1 : d.1 = t := Nat.eq_of_beq_eq_true h1
    have e2 : d.2.1 = n := Nat.eq_of_beq_eq_true h2
    subst e1
    subst e2
    have hk := xkab_ok h3
    refine ⟨k, rfl, hk, fun j hj => ?_⟩
    rcases h4 with h4 | h4
    · exact xany_ok hk h4 hj
    · exact xela_ok h4 hj
  · cases h
def xckh (τ : List Nat) (h : zm_H) : Bool := Nat.beq h.length τ.length && ((τ.zip h).all (fun p => match xKT p.1 with
  | some D => xcfb τ D p.2
  | none => false) && (List.range 117).all (fun a => !(xSG a) || decide (τ[a]? = some a)))
theorem xSG_lt {a : Nat} (h : xSG a = true) : a < 117 := by
  unfold xSG at h
  simp only [Bool.and_eq_true] at h
  have := h.1.1
  rw [Nat.blt_eq] at this
  exact this
theorem xckh_ok {τ : List Nat} {h : zm_H} (hc : xckh τ h = true) : xHI xKT xSG τ h := by
  unfold xckh at hc
  simp only [Bool.and_eq_true] at hc
  obtain ⟨h1, h2, h3⟩ := hc
  have hl := Nat.eq_of_beq_eq_true h1
  refine ⟨hl, fun a kd ha => ?_, fun a ha => ?_⟩
  · have hlt := (List.getElem?_eq_some_iff.mp ha).1
    have hh : h[a]? = some h[a] := List.getElem?_eq_getElem (by omega)
    have hz : (τ.zip h)[a]? = some (kd, h[a]) := by
      rw [List.getElem?_zip_eq_some]
      exact ⟨ha, hh⟩
    have h4 := List.all_eq_true.mp h2 _ (List.mem_of_getElem? hz)
    dsimp only at h4
    split at h4
    · rename_i D hD
      exact ⟨D, _, hD, hh, xcfb_ok h4⟩
    · cases h4
  · have h4 := List.all_eq_true.mp h3 a (List.mem_range.mpr (xSG_lt ha))
    rw [ha] at h4
    simpa using h4
/-- what hands know -/
def xckx (h : zm_H) : Bool := decide (xfd h 0 1 = some (.int 0)) && (decide (xfd h 7 1 = some (.int 0)) && (decide (xfd h 36 10 = some .null) && (match (h[4]? : Option zm_C) with
  | some (.inl (t, n, .inl f)) => (List.range n).all (fun j => decide (f j = 0))
  | _ => false)))
theorem zf_t0 : ∀ a : Nat, (zf_t[a]? = some 0 → a = 0) ∧ (zf_t[a]? = some 7 → a = 7) ∧ ¬ zf_t[a]? = some 207 := by
  intro a
  by_cases h : a < 117
  · exact (by decide +kernel : ∀ a : Nat, a < 117 → (zf_t[a]? = some 0 → a = 0) ∧ (zf_t[a]? = some 7 → a = 7) ∧ ¬ zf_t[a]? = some 207) a h
  · have e : zf_t[a]? = none := List.getElem?_eq_none (by show 117 ≤ a; omega)
    rw [e]
    exact ⟨fun z => (by cases z), fun z => (by cases z), fun z => (by cases z)⟩
theorem xckx_ok {h : zm_H} (hH : xHI xKT xSG zf_t h) (hc : xckx h = true) : xX zf_t h := by
  unfold xckx at hc
  simp only [Bool.and_eq_true, decide_eq_true_eq] at hc
  obtain ⟨h1, h2, h3, h4⟩ := hc
  refine ⟨hH.2.2, ?_, ?_, ?_, ?_, ?_⟩
  · intro a b t n i c f ha _ _ hcn _ hi _
    have := (zf_t0 a).1 ha
    subst this
    rw [h1] at hcn
    cases hcn
    have hi : (i : Int) < 0 := hi
    omega
  · intro a b t n i c f ha _ _ hcn _ hi _
    have := (zf_t0 a).2.1 ha
    subst this
    rw [h2] at hcn
    cases hcn
    have hi : (i : Int) < 0 := hi
    omega
  · intro a b t n i c f ha
    exact absurd ha (zf_t0 a).2.2
  · intro n m j f g hf hg hj
    rw [hf] at h4
    have h5 := List.all_eq_true.mp h4 j (List.mem_range.mpr hj)
    simp only [decide_eq_true_eq] at h5
    rw [h5]
    exact ⟨fun z => (by cases z), fun z => (by cases z)⟩
  · intro v f hv hne
    rw [h3] at hv
    cases hv
    exact absurd rfl hne
def zf_ck1 (c : Bool) : Bool := match zf_r1 c with
  | some (none, h) => decide (h.length = 55)
  | _ => false
def zf_ck2 (c : Bool) : Bool := match zf_r2 c with
  | some (none, h) => xckh zf_t h && (xckx h && decide (xW h = 73441))
  | _ => false
set_option maxRecDepth 100000 in
theorem zf_ck1_ok : zf_ck1 false = true ∧ zf_ck1 true = true := by decide +kernel
set_option maxRecDepth 100000 in
theorem zf_ck2_ok : zf_ck2 false = true ∧ zf_ck2 true = true := by decide +kernel
/-- the two constructors -/
theorem zf_fresh (og : Nat → Option zm_C) (c : Bool) (ho : og 95 = zf_og c 95) : ∃ h1 h2 : zm_H, h1.length = 55 ∧ xHI xKT xSG zf_t h2 ∧ xX zf_t h2 ∧ xW h2 = 73441 ∧ zm_Y og 10 0 0 [(0, .ref 0)] [] [.inr (10, zm_df 10)] (fun r h => r = none ∧ h = h1) ∧ zm_Y og 10 180 0 [(0, .ref 55)] [] (h1 ++ [.inr (11, zm_df 11)]) (fun r h => r = none ∧ h = h2) := by
  have a : zf_ck1 c = true := by cases c; exact zf_ck1_ok.1; exact zf_ck1_ok.2
  have b : zf_ck2 c = true := by cases c; exact zf_ck2_ok.1; exact zf_ck2_ok.2
  have hol : zm_ol (zf_og c) og := by
    refine ⟨fun j d hj => ?_, ho⟩
    by_cases h9 : j = 95
    · subst h9
      rw [ho]
      exact hj
    · simp [zf_og, h9] at hj
  unfold zf_ck1 at a
  split at a
  · rename_i h1 e1
    unfold zf_ck2 zf_r2 at b
    rw [e1] at b
    dsimp only at b
    split at b
    · rename_i h2 e2
      simp only [Bool.and_eq_true, decide_eq_true_eq] at b
      have hH := xckh_ok b.1
      refine ⟨h1, h2, of_decide_eq_true a, hH, xckx_ok hH b.2.1, b.2.2, ?_, ?_⟩
      · exact zm_Y.old (og := zf_og c) ⟨2000, none, h1, e1, rfl, rfl⟩ hol
      · exact zm_Y.old (og := zf_og c) ⟨2000, none, h2, e2, rfl, rfl⟩ hol
    · cases b
  · cases a
