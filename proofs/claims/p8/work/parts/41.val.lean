/-! Second part: values, kinds of cells, states -/
abbrev xv : Type := Nat × xl × Nat
abbrev xA : Type := Nat × Nat × Int × Int
abbrev xJ : Type := xA × Int × Int × Nat × Nat
abbrev xKD : Type := (Nat × List (List xA)) ⊕ (Nat × Nat × List xJ)
abbrev xM : Type := List (xv × Nat × xv)
abbrev xMA : Type := List (xv × xl × xv)
abbrev xC : Type := xN × Nat
abbrev xD : Type := xC × List Nat × xM × xMA × Nat
abbrev xLS : Type := List (Nat × xv)
/-- the handles of the words by their ordinals, the lengths of the strings by their handles -/
def xwh : List Nat := [15, 16, 17, 18, 19, 20, 26, 21, 22, 23, 24, 25, 33, 34, 35, 36, 37, 2, 3, 4, 7, 8, 9, 10, 11, 14, 13, 12, 5, 6, 27, 28, 29, 30, 31, 32]
def xI32a : Int := .negSucc 2147483647
def xI32b : Int := .ofNat 2147483647
def xI64a : Int := .negSucc 9223372036854775807
def xI64b : Int := .ofNat 9223372036854775807
def xsl (j : Nat) : Option Nat := (zm_sb j).map (fun l => l.length)
def xsgn (x : Int) : Int32 := if x < 0 then -1 else if x = 0 then 0 else 1
/-- what a symbolic value stands for -/
def xc (ρ : List Int) (σ : List Nat) (a : xv) (v : Value) : Prop := match a.1 with
  | 0 => ∃ i : Int32, v = .int i ∧ xe ρ a.2.1 = some i.toInt
  | 1 => ∃ i : Int64, v = .long i ∧ xe ρ a.2.1 = some i.toInt
  | 2 => v = .null
  | 3 => v = .ref a.2.2
  | 4 => ∃ b, σ[a.2.2]? = some b ∧ v = .ref b
  | 5 => v = .retAddr a.2.2
  | 6 => ∃ x, v = .int (xsgn x) ∧ xe ρ a.2.1 = some x
  | 7 => ∃ (x j : Nat), xe ρ a.2.1 = some (x : Int) ∧ xwh[x]? = some j ∧ v = .retAddr j
  | 8 => ∃ (x j : Nat), xe ρ a.2.1 = some (x : Int) ∧ xsl j = some x ∧ v = .retAddr j
  | _ => False
theorem xc_mono {ρ r : List Int} {σ s : List Nat} {a : xv} {v : Value} (h : xc ρ σ a v) : xc (ρ ++ r) (σ ++ s) a v := by
  obtain ⟨t, e, n⟩ := a
  unfold xc at h ⊢
  split at h
  · obtain ⟨i, a, b⟩ := h; exact ⟨i, a, xe_mono b⟩
  · obtain ⟨i, a, b⟩ := h; exact ⟨i, a, xe_mono b⟩
  · exact h
  · exact h
  · obtain ⟨b, h1, h2⟩ := h
    refine ⟨b, ?_, h2⟩
    rw [List.getElem?_append_left (List.getElem?_eq_some_iff.mp h1).1]
    exact h1
  · exact h
  · obtain ⟨x, a, b⟩ := h; exact ⟨x, a, xe_mono b⟩
  · obtain ⟨x, j, a, b⟩ := h; exact ⟨x, j, xe_mono a, b⟩
  · obtain ⟨x, j, a, b⟩ := h; exact ⟨x, j, xe_mono a, b⟩
  · cases h
/-- two words wide -/
def xw2 (a : xv) : Bool := Nat.beq a.1 1
theorem xc_cat {ρ : List Int} {σ : List Nat} {a : xv} {v : Value} (h : xc ρ σ a v) : v.category = bif xw2 a then 2 else 1 := by
  obtain ⟨t, e, n⟩ := a
  unfold xc at h
  split at h
  · rename_i ht; have ht : t = 0 := ht; subst ht; obtain ⟨i, rfl, -⟩ := h; rfl
  · rename_i ht; have ht : t = 1 := ht; subst ht; obtain ⟨i, rfl, -⟩ := h; rfl
  · rename_i ht; have ht : t = 2 := ht; subst ht; subst h; rfl
  · rename_i ht; have ht : t = 3 := ht; subst ht; subst h; rfl
  · rename_i ht; have ht : t = 4 := ht; subst ht; obtain ⟨b, -, rfl⟩ := h; rfl
  · rename_i ht; have ht : t = 5 := ht; subst ht; subst h; rfl
  · rename_i ht; have ht : t = 6 := ht; subst ht; obtain ⟨x, rfl, -⟩ := h; rfl
  · rename_i ht; have ht : t = 7 := ht; subst ht; obtain ⟨x, j, -, -, rfl⟩ := h; rfl
  · rename_i ht; have ht : t = 8 := ht; subst ht; obtain ⟨x, j, -, -, rfl⟩ := h; rfl
  · cases h
/-! locals, stacks -/
def xlk (ρ : List Int) (σ : List Nat) (ls : xLS) (lc : zm_L) : Prop := ∀ q ∈ ls, ∃ v, zm_get lc q.1 = some v ∧ xc ρ σ q.2 v
def xsk (ρ : List Int) (σ : List Nat) : List xv → List Value → Prop
  | [], [] => True
  | a :: t, v :: s => xc ρ σ a v ∧ xsk ρ σ t s
  | _, _ => False
theorem xlk_mono {ρ r : List Int} {σ s : List Nat} {ls : xLS} {lc : zm_L} (h : xlk ρ σ ls lc) : xlk (ρ ++ r) (σ ++ s) ls lc := by
  intro q hq
  obtain ⟨v, a, b⟩ := h q hq
  exact ⟨v, a, xc_mono b⟩
theorem xsk_mono {ρ r : List Int} {σ s : List Nat} : ∀ {st : List xv} {sc : List Value}, xsk ρ σ st sc → xsk (ρ ++ r) (σ ++ s) st sc
  | [], [], _ => trivial
  | [], _ :: _, h => h
  | _ :: _, [], h => h
  | _ :: _, _ :: _, h => ⟨xc_mono h.1, xsk_mono h.2⟩
theorem xsk_cons {ρ : List Int} {σ : List Nat} {a : xv} {t : List xv} {sc : List Value} (h : xsk ρ σ (a :: t) sc) : ∃ v s, sc = v :: s ∧ xc ρ σ a v ∧ xsk ρ σ t s := by
  cases sc with
  | nil => cases h
  | cons v s => exact ⟨v, s, rfl, h.1, h.2⟩
theorem xsk_nil {ρ : List Int} {σ : List Nat} {sc : List Value} (h : xsk ρ σ [] sc) : sc = [] := by
  cases sc with
  | nil => rfl
  | cons v s => cases h
def xget : xLS → Nat → Option xv
  | [], _ => none
  | q :: t, i => bif Nat.beq q.1 i then some q.2 else xget t i
theorem xget_ok {ρ : List Int} {σ : List Nat} {lc : zm_L} : ∀ {ls : xLS} {i : Nat} {a : xv}, xlk ρ σ ls lc → xget ls i = some a → ∃ v, zm_get lc i = some v ∧ xc ρ σ a v
  | [], i, a, _, h => by cases h
  | q :: t, i, a, hl, h => by
    simp only [xget] at h
    cases h1 : Nat.beq q.1 i with
    | true =>
      rw [h1] at h
      cases h
      have e := Nat.eq_of_beq_eq_true h1
      rw [← e]
      exact hl q List.mem_cons_self
    | false =>
      rw [h1] at h
      exact xget_ok (fun q hq => hl q (List.mem_cons_of_mem _ hq)) h
/-- a store: what it touches goes -/
def xst (ls : xLS) (i : Nat) (a : xv) : xLS := (i, a) :: ls.filter (fun q => !(Nat.beq q.1 i) && (!(Nat.beq q.1 (i + 1) && xw2 a) && !(Nat.beq (q.1 + 1) i && xw2 q.2)))
theorem xst_ok1 {ρ : List Int} {σ : List Nat} {ls : xLS} {lc : zm_L} {i : Nat} {a : xv} {v : Value} (h : xlk ρ σ ls lc) (ha : xc ρ σ a v) (h1 : xw2 a = false) : xlk ρ σ (xst ls i a) (zm_st1 lc i v) := by
  intro q hq
  rcases List.mem_cons.mp hq with rfl | hq
  · refine ⟨v, ?_, ha⟩
    show (bif Nat.beq i i then some v else _) = some v
    rw [Nat.beq_refl]
    rfl
  · obtain ⟨hm, hp⟩ := List.mem_filter.mp hq
    obtain ⟨w, hw, hc⟩ := h q hm
    refine ⟨w, ?_, hc⟩
    simp only [Bool.and_eq_true, Bool.not_eq_true'] at hp
    have hne : ¬ i = q.1 := fun e => by rw [← e, Nat.beq_refl] at hp; exact absurd hp.1 (by simp)
    unfold zm_st1
    rw [zm_get_cons, if_neg hne]
    refine zm_get_filter hw ?_
    have hcat := xc_cat hc
    simp only [Bool.and_eq_true, Bool.not_eq_true', Bool.and_eq_false_iff, beq_eq_false_iff_ne, ne_eq]
    refine ⟨fun e => hne e.symm, ?_⟩
    rcases Bool.and_eq_false_iff.mp hp.2.2 with e | e
    · left
      intro e2
      rw [e2, Nat.beq_refl] at e
      cases e
    · right
      rw [hcat, e]
      decide
theorem xst_ok2 {ρ : List Int} {σ : List Nat} {ls : xLS} {lc : zm_L} {i : Nat} {a : xv} {v : Value} (h : xlk ρ σ ls lc) (ha : xc ρ σ a v) (h1 : xw2 a = true) : xlk ρ σ (xst ls i a) (zm_st2 lc i v) := by
  intro q hq
  rcases List.mem_cons.mp hq with rfl | hq
  · refine ⟨v, ?_, ha⟩
    show (bif Nat.beq i i then some v else _) = some v
    rw [Nat.beq_refl]
    rfl
  · obtain ⟨hm, hp⟩ := List.mem_filter.mp hq
    obtain ⟨w, hw, hc⟩ := h q hm
    refine ⟨w, ?_, hc⟩
    simp only [Bool.and_eq_true, Bool.not_eq_true', h1, Bool.and_true] at hp
    have hne : ¬ i = q.1 := fun e => by rw [← e, Nat.beq_refl] at hp; exact absurd hp.1 (by simp)
    have hne2 : ¬ q.1 = i + 1 := fun e => by rw [e, Nat.beq_refl] at hp; exact absurd hp.2.1 (by simp)
    unfold zm_st2
    rw [zm_get_cons, if_neg hne]
    refine zm_get_filter hw ?_
    have hcat := xc_cat hc
    simp only [Bool.and_eq_true, Bool.not_eq_true', Bool.and_eq_false_iff, beq_eq_false_iff_ne, ne_eq]
    refine ⟨fun e => hne e.symm, hne2, ?_⟩
    rcases Bool.and_eq_false_iff.mp hp.2.2 with e | e
    · left
      intro e2
      rw [e2, Nat.beq_refl] at e
      cases e
    · right
      rw [hcat, e]
      decide
