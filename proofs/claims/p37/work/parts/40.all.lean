section
/-! A symbolic executor over the small machine, first part: linear terms over symbols, intervals, constraints -/
abbrev xl : Type := Int × List (Nat × Int)
def xle (a b : Int) : Bool := match b - a with
  | .ofNat _ => true
  | .negSucc _ => false
theorem xle_iff {a b : Int} : xle a b = true ↔ a ≤ b := by
  unfold xle
  constructor
  · intro h
    split at h
    · rename_i n hn
      have h2 : (0 : Int) ≤ Int.ofNat n := Int.natCast_nonneg n
      omega
    · cases h
  · intro h
    split
    · rfl
    · rename_i n hn
      have h2 := Int.negSucc_lt_zero n
      omega
def xins (s : Nat) (c : Int) : List (Nat × Int) → List (Nat × Int)
  | [] => [(s, c)]
  | q :: r => bif Nat.blt q.1 s then (s, c) :: q :: r else bif Nat.beq q.1 s then (match c + q.2 with
    | .ofNat 0 => r
    | k => (s, k) :: r) else q :: xins s c r
def xat (k : Int) (a : List (Nat × Int)) : List (Nat × Int) → List (Nat × Int)
  | [] => a
  | q :: r => xins q.1 (k * q.2) (xat k a r)
/-- a + k * b -/
def xadd (k : Int) (a b : xl) : xl := (a.1 + k * b.1, xat k a.2 b.2)
def xk (c : Int) : xl := (c, [])
def xsym (s : Nat) : xl := (0, [(s, 1)])
def xpl (c : Int) (e : xl) : xl := (e.1 + c, e.2)
def xsc (k : Int) (e : xl) : xl := (k * e.1, e.2.map (fun q => (q.1, k * q.2)))
def xt (ρ : List Int) : List (Nat × Int) → Option Int
  | [] => some 0
  | q :: t => match ρ[q.1]?, xt ρ t with
    | some x, some y => some (q.2 * x + y)
    | _, _ => none
def xe (ρ : List Int) (e : xl) : Option Int := match xt ρ e.2 with
  | some y => some (e.1 + y)
  | none => none
theorem xt_cons {ρ : List Int} {q : Nat × Int} {t : List (Nat × Int)} {z : Int} : xt ρ (q :: t) = some z ↔ ∃ x y, ρ[q.1]? = some x ∧ xt ρ t = some y ∧ z = q.2 * x + y := by
  constructor
  · intro h
    simp only [xt] at h
    split at h
    · rename_i x y hx hy; cases h; exact ⟨x, y, hx, hy, rfl⟩
    · cases h
  · rintro ⟨x, y, hx, hy, rfl⟩
    simp only [xt, hx, hy]
theorem xt_ins {ρ : List Int} {s : Nat} {c x : Int} (hs : ρ[s]? = some x) : ∀ {l : List (Nat × Int)} {y : Int}, xt ρ l = some y → xt ρ (xins s c l) = some (c * x + y)
  | [], y, h => by
    simp only [xt] at h
    cases h
    exact xt_cons.mpr ⟨x, 0, hs, rfl, rfl⟩
  | q :: r, y, h => by
    obtain ⟨x', y', hx, hy, rfl⟩ := xt_cons.mp h
    simp only [xins]
    cases h1 : Nat.blt q.1 s with
    | true => exact xt_cons.mpr ⟨x, _, hs, h, rfl⟩
    | false =>
      cases h2 : Nat.beq q.1 s with
      | true =>
        have e := Nat.eq_of_beq_eq_true h2
        simp only [cond_false, cond_true]
        rw [e, hs] at hx
        cases hx
        split
        · rename_i hz
          rw [hy]
          have hz : c + q.2 = 0 := hz
          have : c * x + (q.2 * x + y') = y' := by rw [← Int.add_assoc, ← Int.add_mul, hz, Int.zero_mul, Int.zero_add]
          rw [this]
        · refine xt_cons.mpr ⟨x, y', hs, hy, ?_⟩
          show c * x + (q.2 * x + y') = (c + q.2) * x + y'
          rw [Int.add_mul, Int.add_assoc]
      | false =>
        refine xt_cons.mpr ⟨x', _, hx, xt_ins hs hy, ?_⟩
        omega
theorem xt_at {ρ : List Int} {k : Int} {a : List (Nat × Int)} {x : Int} (ha : xt ρ a = some x) : ∀ {b : List (Nat × Int)} {y : Int}, xt ρ b = some y → xt ρ (xat k a b) = some (x + k * y)
  | [], y, h => by
    simp only [xt] at h
    cases h
    simp only [xat, Int.mul_zero, Int.add_zero]
    exact ha
  | q :: r, y, h => by
    obtain ⟨x', y', hx, hy, rfl⟩ := xt_cons.mp h
    simp only [xat]
    rw [xt_ins hx (xt_at ha hy), Int.mul_add, ← Int.mul_assoc]
    congr 1
    omega
theorem xe_iff {ρ : List Int} {e : xl} {z : Int} : xe ρ e = some z ↔ xt ρ e.2 = some (z - e.1) := by
  unfold xe
  constructor
  · intro h
    split at h
    · rename_i y hy; cases h; rw [hy]; congr 1; omega
    · cases h
  · intro h
    rw [h]
    simp only [Option.some.injEq]
    omega
theorem xe_add {ρ : List Int} {k : Int} {a b : xl} {x y : Int} (ha : xe ρ a = some x) (hb : xe ρ b = some y) : xe ρ (xadd k a b) = some (x + k * y) := by
  rw [xe_iff] at *
  show xt ρ (xat k a.2 b.2) = some (x + k * y - (a.1 + k * b.1))
  rw [xt_at ha hb, Int.mul_sub]
  congr 1
  omega
theorem xe_k {ρ : List Int} (c : Int) : xe ρ (xk c) = some c := by
  simp [xe, xk, xt]
theorem xe_sym {ρ : List Int} {s : Nat} {x : Int} (h : ρ[s]? = some x) : xe ρ (xsym s) = some x := by
  simp [xe, xsym, xt, h]
theorem xe_pl {ρ : List Int} {e : xl} {x : Int} (c : Int) (h : xe ρ e = some x) : xe ρ (xpl c e) = some (x + c) := by
  rw [xe_iff] at *
  show xt ρ e.2 = some (x + c - (e.1 + c))
  rw [h]
  congr 1
  omega
theorem xt_sc {ρ : List Int} (k : Int) : ∀ {l : List (Nat × Int)} {y : Int}, xt ρ l = some y → xt ρ (l.map (fun q => (q.1, k * q.2))) = some (k * y)
  | [], y, h => by simp only [xt] at h; cases h; simp [xt]
  | q :: r, y, h => by
    obtain ⟨x', y', hx, hy, rfl⟩ := xt_cons.mp h
    refine xt_cons.mpr ⟨x', _, hx, xt_sc k hy, ?_⟩
    show k * (q.2 * x' + y') = k * q.2 * x' + k * y'
    rw [Int.mul_add, Int.mul_assoc]
theorem xe_sc {ρ : List Int} {e : xl} {x : Int} (k : Int) (h : xe ρ e = some x) : xe ρ (xsc k e) = some (k * x) := by
  rw [xe_iff] at *
  show xt ρ (e.2.map (fun q => (q.1, k * q.2))) = some (k * x - k * e.1)
  rw [xt_sc k h, Int.mul_sub]
theorem xt_mono {ρ r : List Int} : ∀ {l : List (Nat × Int)} {y : Int}, xt ρ l = some y → xt (ρ ++ r) l = some y
  | [], y, h => h
  | q :: t, y, h => by
    obtain ⟨x', y', hx, hy, rfl⟩ := xt_cons.mp h
    refine xt_cons.mpr ⟨x', y', ?_, xt_mono hy, rfl⟩
    rw [List.getElem?_append_left (List.getElem?_eq_some_iff.mp hx).1]
    exact hx
theorem xe_mono {ρ r : List Int} {e : xl} {y : Int} (h : xe ρ e = some y) : xe (ρ ++ r) e = some y := by
  rw [xe_iff] at *
  exact xt_mono h
/-! intervals -/
abbrev xI : Type := List (Nat × Int × Int)
abbrev xN : Type := xI × List xl
def xiv : xI → Nat → Option (Int × Int)
  | [], _ => none
  | q :: t, s => bif Nat.beq q.1 s then some q.2 else xiv t s
def xiok (ρ : List Int) (iv : xI) : Prop := ∀ q ∈ iv, ∃ x, ρ[q.1]? = some x ∧ q.2.1 ≤ x ∧ x ≤ q.2.2
def xcok (ρ : List Int) (cs : List xl) : Prop := ∀ e ∈ cs, ∃ x, xe ρ e = some x ∧ 0 ≤ x
def xnok (ρ : List Int) (n : xN) : Prop := xiok ρ n.1 ∧ xcok ρ n.2
theorem xiv_ok {ρ : List Int} : ∀ {iv : xI} {s : Nat} {b : Int × Int}, xiok ρ iv → xiv iv s = some b → ∃ x, ρ[s]? = some x ∧ b.1 ≤ x ∧ x ≤ b.2
  | [], s, b, _, h => by cases h
  | q :: t, s, b, hi, h => by
    simp only [xiv] at h
    cases h1 : Nat.beq q.1 s with
    | true =>
      rw [h1] at h
      cases h
      have e := Nat.eq_of_beq_eq_true h1
      obtain ⟨x, a, b⟩ := hi q List.mem_cons_self
      rw [e] at a
      exact ⟨x, a, b⟩
    | false =>
      rw [h1] at h
      exact xiv_ok (fun q hq => hi q (List.mem_cons_of_mem _ hq)) h
def xlot (iv : xI) : List (Nat × Int) → Option Int
  | [] => some 0
  | q :: t => match xiv iv q.1, xlot iv t with
    | some b, some y => some ((match q.2 with
      | .ofNat _ => q.2 * b.1
      | .negSucc _ => q.2 * b.2) + y)
    | _, _ => none
def xhit (iv : xI) : List (Nat × Int) → Option Int
  | [] => some 0
  | q :: t => match xiv iv q.1, xhit iv t with
    | some b, some y => some ((match q.2 with
      | .ofNat _ => q.2 * b.2
      | .negSucc _ => q.2 * b.1) + y)
    | _, _ => none
theorem xlot_ok {ρ : List Int} {iv : xI} (hi : xiok ρ iv) : ∀ {l : List (Nat × Int)} {z : Int}, xlot iv l = some z → ∃ y, xt ρ l = some y ∧ z ≤ y
  | [], z, h => by simp only [xlot] at h; cases h; exact ⟨0, rfl, Int.le_refl 0⟩
  | q :: t, z, h => by
    simp only [xlot] at h
    split at h
    · rename_i b y hb hy
      obtain ⟨x, hx, h1, h2⟩ := xiv_ok hi hb
      obtain ⟨y', hy', h3⟩ := xlot_ok hi hy
      refine ⟨_, xt_cons.mpr ⟨x, y', hx, hy', rfl⟩, ?_⟩
      simp only [Option.some.injEq] at h
      subst h
      have : (match q.2 with
        | .ofNat _ => q.2 * b.1
        | .negSucc _ => q.2 * b.2) ≤ q.2 * x := by
        split
        · rename_i n hn; rw [hn]; exact Int.mul_le_mul_of_nonneg_left h1 (Int.natCast_nonneg n)
        · rename_i n hn; rw [hn]; exact Int.mul_le_mul_of_nonpos_left (Int.le_of_lt (Int.negSucc_lt_zero n)) h2
      omega
    · cases h
theorem xhit_ok {ρ : List Int} {iv : xI} (hi : xiok ρ iv) : ∀ {l : List (Nat × Int)} {z : Int}, xhit iv l = some z → ∃ y, xt ρ l = some y ∧ y ≤ z
  | [], z, h => by simp only [xhit] at h; cases h; exact ⟨0, rfl, Int.le_refl 0⟩
  | q :: t, z, h => by
    simp only [xhit] at h
    split at h
    · rename_i b y hb hy
      obtain ⟨x, hx, h1, h2⟩ := xiv_ok hi hb
      obtain ⟨y', hy', h3⟩ := xhit_ok hi hy
      refine ⟨_, xt_cons.mpr ⟨x, y', hx, hy', rfl⟩, ?_⟩
      simp only [Option.some.injEq] at h
      subst h
      have : q.2 * x ≤ (match q.2 with
        | .ofNat _ => q.2 * b.2
        | .negSucc _ => q.2 * b.1) := by
        split
        · rename_i n hn; rw [hn]; exact Int.mul_le_mul_of_nonneg_left h2 (Int.natCast_nonneg n)
        · rename_i n hn; rw [hn]; exact Int.mul_le_mul_of_nonpos_left (Int.le_of_lt (Int.negSucc_lt_zero n)) h1
      omega
    · cases h
def xlo (iv : xI) (e : xl) : Option Int := match xlot iv e.2 with
  | some y => some (e.1 + y)
  | none => none
def xhi (iv : xI) (e : xl) : Option Int := match xhit iv e.2 with
  | some y => some (e.1 + y)
  | none => none
theorem xlo_ok {ρ : List Int} {iv : xI} (hi : xiok ρ iv) {e : xl} {z : Int} (h : xlo iv e = some z) : ∃ x, xe ρ e = some x ∧ z ≤ x := by
  unfold xlo at h
  split at h
  · rename_i y hy
    cases h
    obtain ⟨y', a, b⟩ := xlot_ok hi hy
    refine ⟨e.1 + y', ?_, by omega⟩
    simp only [xe, a]
  · cases h
theorem xhi_ok {ρ : List Int} {iv : xI} (hi : xiok ρ iv) {e : xl} {z : Int} (h : xhi iv e = some z) : ∃ x, xe ρ e = some x ∧ x ≤ z := by
  unfold xhi at h
  split at h
  · rename_i y hy
    cases h
    obtain ⟨y', a, b⟩ := xhit_ok hi hy
    refine ⟨e.1 + y', ?_, by omega⟩
    simp only [xe, a]
  · cases h
/-! constraints -/
def xnn (iv : xI) (e : xl) : Bool := match xlo iv e with
  | some z => xle 0 z
  | none => false
def xco (y : Nat) : List (Nat × Int) → Option Int
  | [] => none
  | q :: t => bif Nat.beq q.1 y then some q.2 else xco y t
/-- how often the constraint c is to be taken away from a goal with x times the symbol y -/
def xmul (q : Nat × Int) (c : xl) : Nat := match xco q.1 c.2 with
  | none => 0
  | some k => match q.2 / k with
    | .ofNat (n + 1) => bif decide (((n + 1 : Nat) : Int) * k = q.2) then n + 1 else 0
    | _ => 0
def xapp (q : Nat × Int) (e : xl) : List xl → List xl
  | [] => []
  | c :: t => match xmul q c with
    | 0 => xapp q e t
    | n + 1 => xadd (.negSucc n) e c :: xapp q e t
def xsy (cs : List xl) (e : xl) (f : xl → Bool) : List (Nat × Int) → Bool
  | [] => false
  | q :: t => match xapp q e cs with
    | [] => xsy cs e f t
    | c :: l => (c :: l).any f
/-- e is not below 0 -/
def xpv (iv : xI) (cs : List xl) : Nat → xl → Bool
  | 0, e => xnn iv e
  | n + 1, e => bif xnn iv e then true else xsy cs e (xpv iv cs n) e.2
theorem xnn_ok {ρ : List Int} {iv : xI} (hi : xiok ρ iv) {e : xl} (h : xnn iv e = true) : ∃ x, xe ρ e = some x ∧ 0 ≤ x := by
  unfold xnn at h
  split at h
  · rename_i z hz
    obtain ⟨x, a, b⟩ := xlo_ok hi hz
    exact ⟨x, a, by have := xle_iff.mp h; omega⟩
  · cases h
theorem xe_back {ρ : List Int} {k x y : Int} {a b : xl} (h : xe ρ (xadd k a b) = some x) (hb : xe ρ b = some y) : (∃ z, xe ρ a = some z) → xe ρ a = some (x - k * y) := by
  rintro ⟨z, hz⟩
  have h2 := xe_add (k := k) hz hb
  rw [h] at h2
  simp only [Option.some.injEq] at h2
  rw [hz]
  congr 1
  omega
theorem xapp_ok {ρ : List Int} {q : Nat × Int} {e : xl} {z : Int} (he : xe ρ e = some z) : ∀ {cs : List xl} {e' : xl}, xcok ρ cs → e' ∈ xapp q e cs → ∃ x, xe ρ e' = some x ∧ x ≤ z
  | [], e', _, h => by cases h
  | c :: t, e', hc, h => by
    simp only [xapp] at h
    split at h
    · exact xapp_ok he (fun e he => hc e (List.mem_cons_of_mem _ he)) h
    · rename_i n hn
      rcases List.mem_cons.mp h with rfl | h
      · obtain ⟨y, hy, h0⟩ := hc c List.mem_cons_self
        refine ⟨_, xe_add he hy, ?_⟩
        have := Int.mul_le_mul_of_nonpos_left (a := Int.negSucc n) (Int.le_of_lt (Int.negSucc_lt_zero n)) h0
        omega
      · exact xapp_ok he (fun e he => hc e (List.mem_cons_of_mem _ he)) h
theorem xsy_ok {ρ : List Int} {cs : List xl} (hc : xcok ρ cs) {e : xl} {z : Int} (he : xe ρ e = some z) {f : xl → Bool} (hf : ∀ e' x, xe ρ e' = some x → f e' = true → 0 ≤ x) : ∀ {l : List (Nat × Int)}, xsy cs e f l = true → 0 ≤ z
  | [], h => by cases h
  | q :: t, h => by
    simp only [xsy] at h
    split at h
    · exact xsy_ok hc he hf h
    · rename_i c l hl
      obtain ⟨e', hm, h'⟩ := List.any_eq_true.mp h
      rw [← hl] at hm
      obtain ⟨x, hx, hle⟩ := xapp_ok he hc hm
      have := hf e' x hx h'
      omega
theorem xpv_ok {ρ : List Int} {iv : xI} {cs : List xl} (hi : xiok ρ iv) (hc : xcok ρ cs) : ∀ (n : Nat) {e : xl} {z : Int}, xe ρ e = some z → xpv iv cs n e = true → 0 ≤ z
  | 0, e, z, he, h => by
    obtain ⟨x, a, b⟩ := xnn_ok hi h
    rw [he] at a
    cases a
    exact b
  | n + 1, e, z, he, h => by
    simp only [xpv] at h
    cases h1 : xnn iv e with
    | true =>
      obtain ⟨x, a, b⟩ := xnn_ok hi h1
      rw [he] at a
      cases a
      exact b
    | false =>
      rw [h1] at h
      exact xsy_ok hc he (fun e' x hx hf => xpv_ok hi hc n hx hf) h
/-! taking e >= 0 to be so: none if it can't be -/
def xmax (a b : Int) : Int := bif xle a b then b else a
def xmin (a b : Int) : Int := bif xle a b then a else b
/-- one symbol's interval made narrower -/
def xt1 (iv : xI) (e : xl) (q : Nat × Int) : Option xI := match q.2 with
  | .ofNat 1 => (match xiv iv q.1, xhi iv (xadd (.negSucc 0) e (xsym q.1)) with
    | some b, some y => (let lo := xmax b.1 (-y); bif xle lo b.2 then some ((q.1, lo, b.2) :: iv) else none)
    | _, _ => some iv)
  | .negSucc 0 => (match xiv iv q.1, xhi iv (xadd (.ofNat 1) e (xsym q.1)) with
    | some b, some y => (let hi := xmin b.2 y; bif xle b.1 hi then some ((q.1, b.1, hi) :: iv) else none)
    | _, _ => some iv)
  | _ => some iv
def xts (e : xl) : List (Nat × Int) → xI → Option xI
  | [], iv => some iv
  | q :: t, iv => match xt1 iv e q with
    | some iv' => xts e t iv'
    | none => none
def xeq (a b : xl) : Bool := decide (a = b)
def xas (n : xN) (e : xl) : Option xN := match xhi n.1 e with
  | none => some n
  | some z => bif xle 0 z then (bif xnn n.1 e then some n else bif xpv n.1 n.2 1 (xpl (-1) (xsc (-1) e)) then none else match xts e e.2 n.1 with
      | none => none
      | some iv => match e.2 with
        | _ :: _ :: _ => bif xnn iv e || n.2.any (xeq e) then some (iv, n.2) else some (iv, e :: n.2)
        | _ => some (iv, n.2)) else none
theorem xmax_ok {a b c : Int} (h1 : a ≤ c) (h2 : b ≤ c) : xmax a b ≤ c := by
  unfold xmax
  cases xle a b <;> assumption
theorem xmin_ok {a b c : Int} (h1 : c ≤ a) (h2 : c ≤ b) : c ≤ xmin a b := by
  unfold xmin
  cases xle a b <;> assumption
theorem xt1_ok {ρ : List Int} {iv : xI} {e : xl} {z : Int} (hi : xiok ρ iv) (he : xe ρ e = some z) (h0 : 0 ≤ z) (q : Nat × Int) : ∃ iv', xt1 iv e q = some iv' ∧ xiok ρ iv' := by
  unfold xt1
  split
  · split
    · rename_i b y hb hy
      obtain ⟨x, hx, h1, h2⟩ := xiv_ok hi hb
      obtain ⟨w, hw, h3⟩ := xhi_ok hi hy
      have hs := xe_add (k := .negSucc 0) he (xe_sym hx)
      rw [hw] at hs
      simp only [Option.some.injEq] at hs
      have hs : w = z + (-1) * x := hs
      have h4 : xmax b.1 (-y) ≤ x := xmax_ok h1 (by omega)
      refine ⟨(q.1, xmax b.1 (-y), b.2) :: iv, ?_, ?_⟩
      · show (bif xle (xmax b.1 (-y)) b.2 then _ else _) = _
        rw [xle_iff.mpr (by omega)]
        rfl
      · intro p hp
        rcases List.mem_cons.mp hp with rfl | hp
        · exact ⟨x, hx, h4, h2⟩
        · exact hi p hp
    · exact ⟨iv, rfl, hi⟩
  · split
    · rename_i b y hb hy
      obtain ⟨x, hx, h1, h2⟩ := xiv_ok hi hb
      obtain ⟨w, hw, h3⟩ := xhi_ok hi hy
      have hs := xe_add (k := .ofNat 1) he (xe_sym hx)
      rw [hw] at hs
      simp only [Option.some.injEq] at hs
      have hs : w = z + 1 * x := hs
      have h4 : x ≤ xmin b.2 y := xmin_ok h2 (by omega)
      refine ⟨(q.1, b.1, xmin b.2 y) :: iv, ?_, ?_⟩
      · show (bif xle b.1 (xmin b.2 y) then _ else _) = _
        rw [xle_iff.mpr (by omega)]
        rfl
      · intro p hp
        rcases List.mem_cons.mp hp with rfl | hp
        · exact ⟨x, hx, h1, h4⟩
        · exact hi p hp
    · exact ⟨iv, rfl, hi⟩
  · exact ⟨iv, rfl, hi⟩
theorem xts_ok {ρ : List Int} {e : xl} {z : Int} (he : xe ρ e = some z) (h0 : 0 ≤ z) : ∀ (l : List (Nat × Int)) {iv : xI}, xiok ρ iv → ∃ iv', xts e l iv = some iv' ∧ xiok ρ iv'
  | [], iv, hi => ⟨iv, rfl, hi⟩
  | q :: t, iv, hi => by
    obtain ⟨iv1, h1, h2⟩ := xt1_ok hi he h0 q
    obtain ⟨iv2, h3, h4⟩ := xts_ok he h0 t h2
    refine ⟨iv2, ?_, h4⟩
    simp only [xts, h1]
    exact h3
theorem xas_ok {ρ : List Int} {n : xN} {e : xl} {z : Int} (hn : xnok ρ n) (he : xe ρ e = some z) (h0 : 0 ≤ z) : ∃ n', xas n e = some n' ∧ xnok ρ n' := by
  unfold xas
  split
  · exact ⟨n, rfl, hn⟩
  · rename_i y hy
    obtain ⟨w, hw, h1⟩ := xhi_ok hn.1 hy
    rw [he] at hw
    cases hw
    rw [xle_iff.mpr (show (0 : Int) ≤ y by omega)]
    simp only [cond_true]
    cases h2 : xnn n.1 e with
    | true => exact ⟨n, rfl, hn⟩
    | false =>
      simp only [cond_false]
      cases h3 : xpv n.1 n.2 1 (xpl (-1) (xsc (-1) e)) with
      | true =>
        have := xpv_ok hn.1 hn.2 1 (xe_pl (-1) (xe_sc (-1) he)) h3
        omega
      | false =>
        obtain ⟨iv', h4, h5⟩ := xts_ok he h0 e.2 hn.1
        simp only [cond_false, h4]
        split
        · cases xnn iv' e || n.2.any (xeq e) with
          | true => exact ⟨_, rfl, h5, hn.2⟩
          | false =>
            refine ⟨_, rfl, h5, fun c hc => ?_⟩
            rcases List.mem_cons.mp hc with rfl | hc
            · exact ⟨z, he, h0⟩
            · exact hn.2 c hc
        · exact ⟨_, rfl, h5, hn.2⟩
theorem xiok_mono {ρ r : List Int} {iv : xI} (h : xiok ρ iv) : xiok (ρ ++ r) iv := by
  intro q hq
  obtain ⟨x, a, b⟩ := h q hq
  refine ⟨x, ?_, b⟩
  rw [List.getElem?_append_left (List.getElem?_eq_some_iff.mp a).1]
  exact a
theorem xcok_mono {ρ r : List Int} {cs : List xl} (h : xcok ρ cs) : xcok (ρ ++ r) cs := by
  intro e he
  obtain ⟨x, a, b⟩ := h e he
  exact ⟨x, xe_mono a, b⟩
theorem xnok_mono {ρ r : List Int} {n : xN} (h : xnok ρ n) : xnok (ρ ++ r) n := ⟨xiok_mono h.1, xcok_mono h.2⟩
/-- a fresh symbol -/
theorem xfresh_ok {ρ : List Int} {n : xN} {lo hi x : Int} (h : xnok ρ n) (h1 : lo ≤ x) (h2 : x ≤ hi) : xnok (ρ ++ [x]) ((ρ.length, lo, hi) :: n.1, n.2) ∧ xe (ρ ++ [x]) (xsym ρ.length) = some x := by
  have hx : (ρ ++ [x])[ρ.length]? = some x := by simp
  refine ⟨⟨fun q hq => ?_, (xnok_mono h).2⟩, xe_sym hx⟩
  rcases List.mem_cons.mp hq with rfl | hq
  · exact ⟨x, hx, h1, h2⟩
  · exact (xnok_mono h).1 q hq
end
section
/-! Second part: values, kinds of cells, states -/
abbrev xv : Type := Nat × xl × Nat
abbrev xA : Type := Nat × Nat × Int × Int
abbrev xJ : Type := xA × Int × Int × Nat × Nat
abbrev xKD : Type := (Nat × List (List xA)) ⊕ (Nat × Nat × List xJ)
abbrev xM : Type := List (xv × Nat × xv)
abbrev xMA : Type := List (xv × xl × xv)
abbrev xC : Type := xN × Nat
abbrev xD : Type := xC × List Nat × xM × xMA × Nat
abbrev xLS : Type := List (Nat × xv)
/-- the handles of the words by their ordinals, the lengths of the strings by their handles -/
def xwh : List Nat := [15, 16, 17, 18, 19, 20, 26, 21, 22, 23, 24, 25, 33, 34, 35, 36, 37, 2, 3, 4, 7, 8, 9, 10, 11, 14, 13, 12, 5, 6, 27, 28, 29, 30, 31, 32]
def xI32a : Int := .negSucc 2147483647
def xI32b : Int := .ofNat 2147483647
def xI64a : Int := .negSucc 9223372036854775807
def xI64b : Int := .ofNat 9223372036854775807
def xsl (j : Nat) : Option Nat := (zm_sb j).map (fun l => l.length)
def xsgn (x : Int) : Int32 := if x < 0 then -1 else if x = 0 then 0 else 1
/-- what a symbolic value stands for -/
def xc (ρ : List Int) (σ : List Nat) (a : xv) (v : Value) : Prop := match a.1 with
  | 0 => ∃ i : Int32, v = .int i ∧ xe ρ a.2.1 = some i.toInt
  | 1 => ∃ i : Int64, v = .long i ∧ xe ρ a.2.1 = some i.toInt
  | 2 => v = .null
  | 3 => v = .ref a.2.2
  | 4 => ∃ b, σ[a.2.2]? = some b ∧ v = .ref b
  | 5 => v = .retAddr a.2.2
  | 6 => ∃ x, v = .int (xsgn x) ∧ xe ρ a.2.1 = some x
  | 7 => ∃ (x j : Nat), xe ρ a.2.1 = some (x : Int) ∧ xwh[x]? = some j ∧ v = .retAddr j
  | 8 => ∃ (x j : Nat), xe ρ a.2.1 = some (x : Int) ∧ xsl j = some x ∧ v = .retAddr j
  | _ => False
theorem xc_mono {ρ r : List Int} {σ s : List Nat} {a : xv} {v : Value} (h : xc ρ σ a v) : xc (ρ ++ r) (σ ++ s) a v := by
  obtain ⟨t, e, n⟩ := a
  unfold xc at h ⊢
  split at h
  · obtain ⟨i, a, b⟩ := h; exact ⟨i, a, xe_mono b⟩
  · obtain ⟨i, a, b⟩ := h; exact ⟨i, a, xe_mono b⟩
  · exact h
  · exact h
  · obtain ⟨b, h1, h2⟩ := h
    refine ⟨b, ?_, h2⟩
    rw [List.getElem?_append_left (List.getElem?_eq_some_iff.mp h1).1]
    exact h1
  · exact h
  · obtain ⟨x, a, b⟩ := h; exact ⟨x, a, xe_mono b⟩
  · obtain ⟨x, j, a, b⟩ := h; exact ⟨x, j, xe_mono a, b⟩
  · obtain ⟨x, j, a, b⟩ := h; exact ⟨x, j, xe_mono a, b⟩
  · cases h
/-- two words wide -/
def xw2 (a : xv) : Bool := Nat.beq a.1 1
theorem xc_cat {ρ : List Int} {σ : List Nat} {a : xv} {v : Value} (h : xc ρ σ a v) : v.category = bif xw2 a then 2 else 1 := by
  obtain ⟨t, e, n⟩ := a
  unfold xc at h
  split at h
  · rename_i ht; have ht : t = 0 := ht; subst ht; obtain ⟨i, rfl, -⟩ := h; rfl
  · rename_i ht; have ht : t = 1 := ht; subst ht; obtain ⟨i, rfl, -⟩ := h; rfl
  · rename_i ht; have ht : t = 2 := ht; subst ht; subst h; rfl
  · rename_i ht; have ht : t = 3 := ht; subst ht; subst h; rfl
  · rename_i ht; have ht : t = 4 := ht; subst ht; obtain ⟨b, -, rfl⟩ := h; rfl
  · rename_i ht; have ht : t = 5 := ht; subst ht; subst h; rfl
  · rename_i ht; have ht : t = 6 := ht; subst ht; obtain ⟨x, rfl, -⟩ := h; rfl
  · rename_i ht; have ht : t = 7 := ht; subst ht; obtain ⟨x, j, -, -, rfl⟩ := h; rfl
  · rename_i ht; have ht : t = 8 := ht; subst ht; obtain ⟨x, j, -, -, rfl⟩ := h; rfl
  · cases h
/-! locals, stacks -/
def xlk (ρ : List Int) (σ : List Nat) (ls : xLS) (lc : zm_L) : Prop := ∀ q ∈ ls, ∃ v, zm_get lc q.1 = some v ∧ xc ρ σ q.2 v
def xsk (ρ : List Int) (σ : List Nat) : List xv → List Value → Prop
  | [], [] => True
  | a :: t, v :: s => xc ρ σ a v ∧ xsk ρ σ t s
  | _, _ => False
theorem xlk_mono {ρ r : List Int} {σ s : List Nat} {ls : xLS} {lc : zm_L} (h : xlk ρ σ ls lc) : xlk (ρ ++ r) (σ ++ s) ls lc := by
  intro q hq
  obtain ⟨v, a, b⟩ := h q hq
  exact ⟨v, a, xc_mono b⟩
theorem xsk_mono {ρ r : List Int} {σ s : List Nat} : ∀ {st : List xv} {sc : List Value}, xsk ρ σ st sc → xsk (ρ ++ r) (σ ++ s) st sc
  | [], [], _ => trivial
  | [], _ :: _, h => h
  | _ :: _, [], h => h
  | _ :: _, _ :: _, h => ⟨xc_mono h.1, xsk_mono h.2⟩
theorem xsk_cons {ρ : List Int} {σ : List Nat} {a : xv} {t : List xv} {sc : List Value} (h : xsk ρ σ (a :: t) sc) : ∃ v s, sc = v :: s ∧ xc ρ σ a v ∧ xsk ρ σ t s := by
  cases sc with
  | nil => cases h
  | cons v s => exact ⟨v, s, rfl, h.1, h.2⟩
theorem xsk_nil {ρ : List Int} {σ : List Nat} {sc : List Value} (h : xsk ρ σ [] sc) : sc = [] := by
  cases sc with
  | nil => rfl
  | cons v s => cases h
def xget : xLS → Nat → Option xv
  | [], _ => none
  | q :: t, i => bif Nat.beq q.1 i then some q.2 else xget t i
theorem xget_ok {ρ : List Int} {σ : List Nat} {lc : zm_L} : ∀ {ls : xLS} {i : Nat} {a : xv}, xlk ρ σ ls lc → xget ls i = some a → ∃ v, zm_get lc i = some v ∧ xc ρ σ a v
  | [], i, a, _, h => by cases h
  | q :: t, i, a, hl, h => by
    simp only [xget] at h
    cases h1 : Nat.beq q.1 i with
    | true =>
      rw [h1] at h
      cases h
      have e := Nat.eq_of_beq_eq_true h1
      rw [← e]
      exact hl q List.mem_cons_self
    | false =>
      rw [h1] at h
      exact xget_ok (fun q hq => hl q (List.mem_cons_of_mem _ hq)) h
/-- a store: what it touches goes -/
def xst (ls : xLS) (i : Nat) (a : xv) : xLS := (i, a) :: ls.filter (fun q => !(Nat.beq q.1 i) && (!(Nat.beq q.1 (i + 1) && xw2 a) && !(Nat.beq (q.1 + 1) i && xw2 q.2)))
theorem xst_ok1 {ρ : List Int} {σ : List Nat} {ls : xLS} {lc : zm_L} {i : Nat} {a : xv} {v : Value} (h : xlk ρ σ ls lc) (ha : xc ρ σ a v) (h1 : xw2 a = false) : xlk ρ σ (xst ls i a) (zm_st1 lc i v) := by
  intro q hq
  rcases List.mem_cons.mp hq with rfl | hq
  · refine ⟨v, ?_, ha⟩
    show (bif Nat.beq i i then some v else _) = some v
    rw [Nat.beq_refl]
    rfl
  · obtain ⟨hm, hp⟩ := List.mem_filter.mp hq
    obtain ⟨w, hw, hc⟩ := h q hm
    refine ⟨w, ?_, hc⟩
    simp only [Bool.and_eq_true, Bool.not_eq_true'] at hp
    have hne : ¬ i = q.1 := fun e => by rw [← e, Nat.beq_refl] at hp; exact absurd hp.1 (by simp)
    unfold zm_st1
    rw [zm_get_cons, if_neg hne]
    refine zm_get_filter hw ?_
    have hcat := xc_cat hc
    simp only [Bool.and_eq_true, Bool.not_eq_true', Bool.and_eq_false_iff, beq_eq_false_iff_ne, ne_eq]
    refine ⟨fun e => hne e.symm, ?_⟩
    rcases Bool.and_eq_false_iff.mp hp.2.2 with e | e
    · left
      intro e2
      rw [e2, Nat.beq_refl] at e
      cases e
    · right
      rw [hcat, e]
      decide
theorem xst_ok2 {ρ : List Int} {σ : List Nat} {ls : xLS} {lc : zm_L} {i : Nat} {a : xv} {v : Value} (h : xlk ρ σ ls lc) (ha : xc ρ σ a v) (h1 : xw2 a = true) : xlk ρ σ (xst ls i a) (zm_st2 lc i v) := by
  intro q hq
  rcases List.mem_cons.mp hq with rfl | hq
  · refine ⟨v, ?_, ha⟩
    show (bif Nat.beq i i then some v else _) = some v
    rw [Nat.beq_refl]
    rfl
  · obtain ⟨hm, hp⟩ := List.mem_filter.mp hq
    obtain ⟨w, hw, hc⟩ := h q hm
    refine ⟨w, ?_, hc⟩
    simp only [Bool.and_eq_true, Bool.not_eq_true', h1, Bool.and_true] at hp
    have hne : ¬ i = q.1 := fun e => by rw [← e, Nat.beq_refl] at hp; exact absurd hp.1 (by simp)
    have hne2 : ¬ q.1 = i + 1 := fun e => by rw [e, Nat.beq_refl] at hp; exact absurd hp.2.1 (by simp)
    unfold zm_st2
    rw [zm_get_cons, if_neg hne]
    refine zm_get_filter hw ?_
    have hcat := xc_cat hc
    simp only [Bool.and_eq_true, Bool.not_eq_true', Bool.and_eq_false_iff, beq_eq_false_iff_ne, ne_eq]
    refine ⟨fun e => hne e.symm, hne2, ?_⟩
    rcases Bool.and_eq_false_iff.mp hp.2.2 with e | e
    · left
      intro e2
      rw [e2, Nat.beq_refl] at e
      cases e
    · right
      rw [hcat, e]
      decide
end
section
/-! What the tables say of words and strings -/
def xwt (x : Nat) : Bool := match xwh[x]? with
  | none => false
  | some j => Nat.beq (zm_wh x) j && (match zm_wrl zm_wl j with
    | none => false
    | some q => (bif Nat.ble x 16 then decide (q.1.toInt = (x : Int)) else decide (q.1.toInt = -1) && (decide (q.2.1.toInt = 0) && decide (q.2.2.toInt = 0))) && ((decide (0 ≤ q.2.1.toInt) && decide (q.2.1.toInt ≤ 1)) && ((decide (0 ≤ q.2.2.toInt) && decide (q.2.2.toInt ≤ 1)) && (match xsl (j + 57) with
      | none => false
      | some n => Nat.ble 2 n && Nat.ble n 10))))
theorem xwt_all : (List.range 36).all xwt = true := by decide +kernel
theorem xw_ok {x j : Nat} (h : xwh[x]? = some j) : zm_wh x = j ∧ ∃ s a b n, zm_wrl zm_wl j = some (s, a, b) ∧ (x ≤ 16 → s.toInt = (x : Int)) ∧ (17 ≤ x → s.toInt = -1 ∧ a.toInt = 0 ∧ b.toInt = 0) ∧ (0 ≤ a.toInt ∧ a.toInt ≤ 1) ∧ (0 ≤ b.toInt ∧ b.toInt ≤ 1) ∧ xsl (j + 57) = some n ∧ 2 ≤ n ∧ n ≤ 10 := by
  have hl := (List.getElem?_eq_some_iff.mp h).1
  have e : xwh.length = 36 := rfl
  have h1 := List.all_eq_true.mp xwt_all x (List.mem_range.mpr (by omega))
  unfold xwt at h1
  rw [h] at h1
  simp only [Bool.and_eq_true] at h1
  obtain ⟨h2, h3⟩ := h1
  refine ⟨Nat.eq_of_beq_eq_true h2, ?_⟩
  split at h3
  · cases h3
  · rename_i q hq
    obtain ⟨s, a, b⟩ := q
    simp only [Bool.and_eq_true, decide_eq_true_eq] at h3
    obtain ⟨h4, h5, h6, h7⟩ := h3
    split at h7
    · cases h7
    · rename_i n hn
      simp only [Bool.and_eq_true, Nat.ble_eq] at h7
      refine ⟨s, a, b, n, hq, fun hx => ?_, fun hx => ?_, h5, h6, hn, h7.1, h7.2⟩
      · rw [Nat.ble_eq_true_of_le hx] at h4
        simpa using h4
      · have e1 : Nat.ble x 16 = false := by
          cases e2 : Nat.ble x 16 with
          | false => rfl
          | true => have := Nat.le_of_ble_eq_true e2; omega
        rw [e1] at h4
        simpa using h4
theorem xw_is {x j : Nat} (h : xwh[x]? = some j) : zm_isw j = true := by
  obtain ⟨-, s, a, b, n, h1, -⟩ := xw_ok h
  unfold zm_isw
  rw [h1]
  rfl
theorem xs_mem : ∀ {t : List (Nat × List Int32)} {j : Nat} {l : List Int32}, zm_sbl t j = some l → ∃ q ∈ t, q.2 = l
  | [], j, l, h => by cases h
  | q :: t, j, l, h => by
    simp only [zm_sbl] at h
    cases h1 : Nat.beq q.1 j with
    | true =>
      rw [h1] at h
      cases h
      exact ⟨q, List.mem_cons_self, rfl⟩
    | false =>
      rw [h1] at h
      obtain ⟨p, a, b⟩ := xs_mem h
      exact ⟨p, List.mem_cons_of_mem _ a, b⟩
theorem xs_all : zm_sx.all (fun q => Nat.ble q.2.length 60000 && q.2.all (fun b => decide (0 ≤ b.toInt) && decide (b.toInt ≤ 127))) = true := by decide +kernel
theorem xs_ok {j : Nat} {l : List Int32} (h : zm_sb j = some l) : l.length ≤ 60000 ∧ ∀ i : Nat, 0 ≤ (l.getD i 0).toInt ∧ (l.getD i 0).toInt ≤ 127 := by
  obtain ⟨q, hq, rfl⟩ := xs_mem h
  have h1 := List.all_eq_true.mp xs_all q hq
  simp only [Bool.and_eq_true, List.all_eq_true, decide_eq_true_eq] at h1
  refine ⟨Nat.le_of_ble_eq_true h1.1, fun i => ?_⟩
  rw [List.getD_eq_getElem?_getD]
  cases hv : q.2[i]? with
  | none => exact ⟨by decide, by decide⟩
  | some b => exact h1.2 b (List.mem_of_getElem? hv)
theorem xsl_ok {j n : Nat} (h : xsl j = some n) : ∃ l, zm_sb j = some l ∧ l.length = n := by
  unfold xsl at h
  cases hl : zm_sb j with
  | none => rw [hl] at h; cases h
  | some l =>
    rw [hl] at h
    cases h
    exact ⟨l, rfl, rfl⟩
/-- the bytes of a string, by the handle of its array -/
theorem xba {j : Nat} {l : List Int32} (h : zm_sb j = some l) : zm_ba (j + 100) = some (.inl (2, l.length, .inl (fun i => l.getD i 0))) := by
  unfold zm_ba
  have e1 : Nat.beq (j + 100) 1 = false := by
    cases e : Nat.beq (j + 100) 1 with
    | false => rfl
    | true => have := Nat.eq_of_beq_eq_true e; omega
  have e2 : Nat.ble 100 (j + 100) = true := Nat.ble_eq_true_of_le (by omega)
  rw [e1, e2, Nat.add_sub_cancel, h]
  rfl
theorem xch {v : Int32} (h0 : 0 ≤ v.toInt) (h1 : v.toInt ≤ 65535) : v.toUInt32.toUInt16.toUInt32.toInt32 = v := by
  have hb : v.toBitVec.toNat ≤ 65535 := by
    have e : v.toInt = v.toBitVec.toInt := rfl
    rw [e, BitVec.toInt_eq_toNat_cond] at h0 h1
    have := v.toBitVec.isLt
    split at h0 <;> omega
  apply Int32.toBitVec_inj.mp
  apply BitVec.eq_of_toNat_eq
  show ((v.toBitVec.setWidth 16).setWidth 32).toNat = _
  simp only [BitVec.toNat_setWidth]
  omega
end
section
/-! Third part: bounds of the machine's operations -/
theorem xb_msb {a : Int32} (h : 0 ≤ a.toInt) : a.toBitVec.msb = false := by
  rw [BitVec.msb_eq_toInt]
  have h : 0 ≤ a.toBitVec.toInt := h
  simp only [decide_eq_false_iff_not]
  omega
theorem xb_nat {a : Int32} (h : 0 ≤ a.toInt) : a.toInt = (a.toBitVec.toNat : Int) := BitVec.toInt_eq_toNat_of_msb (xb_msb h)
theorem xb_of {a : Int32} (h : a.toBitVec.msb = false) : a.toInt = (a.toBitVec.toNat : Int) := BitVec.toInt_eq_toNat_of_msb h
theorem xb_and {a b : Int32} (hb : 0 ≤ b.toInt) : 0 ≤ (a &&& b).toInt ∧ (a &&& b).toInt ≤ b.toInt := by
  have hm : (a &&& b).toBitVec.msb = false := by
    rw [Int32.toBitVec_and, BitVec.msb_and, xb_msb hb, Bool.and_false]
  rw [xb_of hm, xb_nat hb, Int32.toBitVec_and, BitVec.toNat_and]
  have := Nat.and_le_right (n := a.toBitVec.toNat) (m := b.toBitVec.toNat)
  omega
theorem xb_andl {a b : Int32} (ha : 0 ≤ a.toInt) : 0 ≤ (a &&& b).toInt ∧ (a &&& b).toInt ≤ a.toInt := by
  have hm : (a &&& b).toBitVec.msb = false := by
    rw [Int32.toBitVec_and, BitVec.msb_and, xb_msb ha, Bool.false_and]
  rw [xb_of hm, xb_nat ha, Int32.toBitVec_and, BitVec.toNat_and]
  have := Nat.and_le_left (n := a.toBitVec.toNat) (m := b.toBitVec.toNat)
  omega
theorem xb_or {a b : Int32} {m : Nat} (ha : 0 ≤ a.toInt) (hb : 0 ≤ b.toInt) (ha2 : a.toInt < (2 ^ m : Nat)) (hb2 : b.toInt < (2 ^ m : Nat)) : 0 ≤ (a ||| b).toInt ∧ (a ||| b).toInt < (2 ^ m : Nat) := by
  have hm : (a ||| b).toBitVec.msb = false := by
    rw [Int32.toBitVec_or, BitVec.msb_or, xb_msb ha, xb_msb hb, Bool.or_false]
  rw [xb_nat ha] at ha2
  rw [xb_nat hb] at hb2
  rw [xb_of hm, Int32.toBitVec_or, BitVec.toNat_or]
  have := Nat.or_lt_two_pow (x := a.toBitVec.toNat) (y := b.toBitVec.toNat) (n := m) (by omega) (by omega)
  omega
theorem xb_xor {a b : Int32} {m : Nat} (ha : 0 ≤ a.toInt) (hb : 0 ≤ b.toInt) (ha2 : a.toInt < (2 ^ m : Nat)) (hb2 : b.toInt < (2 ^ m : Nat)) : 0 ≤ (a ^^^ b).toInt ∧ (a ^^^ b).toInt < (2 ^ m : Nat) := by
  have hm : (a ^^^ b).toBitVec.msb = false := by
    rw [Int32.toBitVec_xor, BitVec.msb_xor, xb_msb ha, xb_msb hb, Bool.xor_false]
  rw [xb_nat ha] at ha2
  rw [xb_nat hb] at hb2
  rw [xb_of hm, Int32.toBitVec_xor, BitVec.toNat_xor]
  have := Nat.xor_lt_two_pow (x := a.toBitVec.toNat) (y := b.toBitVec.toNat) (n := m) (by omega) (by omega)
  omega
theorem xb_shr {a b : Int32} (ha : 0 ≤ a.toInt) : 0 ≤ (a >>> b).toInt ∧ (a >>> b).toInt ≤ a.toInt := by
  have e : (a >>> b).toInt = a.toInt >>> ((b.toBitVec.smod 32).toNat) := by
    show ((a >>> b).toBitVec).toInt = _
    rw [Int32.toBitVec_shiftRight]
    exact BitVec.toInt_sshiftRight
  rw [e, Int.shiftRight_eq_div_pow]
  have hp : (0 : Int) < ((2 ^ (b.toBitVec.smod 32).toNat : Nat) : Int) := by exact_mod_cast Nat.two_pow_pos _
  refine ⟨Int.ediv_nonneg ha (Int.le_of_lt hp), Int.ediv_le_self _ ha⟩
theorem xb_shl1 {b : Int32} (h0 : 0 ≤ b.toInt) (h1 : b.toInt ≤ 30) : ((1 : Int32) <<< (b &&& 31)).toInt = ((2 ^ b.toInt.toNat : Nat) : Int) := by
  have key : ∀ k : Fin 31, ((1 : Int32) <<< (Int32.ofNat k.val &&& 31)).toInt = ((2 ^ k.val : Nat) : Int) := by decide
  have e : b = Int32.ofNat b.toInt.toNat := by
    rw [← Int32.toInt_inj, Int32.toInt_ofNat_of_lt (by omega)]
    omega
  have := key ⟨b.toInt.toNat, by omega⟩
  rw [← e] at this
  exact this
theorem xb_div {a b : Int32} (ha : 0 ≤ a.toInt) (hb : 0 < b.toInt) : 0 ≤ (a / b).toInt ∧ (a / b).toInt = a.toInt / b.toInt := by
  have e : (a / b).toInt = a.toInt.tdiv b.toInt := Int32.toInt_div_of_ne_right a b (fun h => by rw [h] at hb; exact absurd hb (by decide))
  rw [e, Int.tdiv_eq_ediv_of_nonneg ha]
  exact ⟨Int.ediv_nonneg ha (Int.le_of_lt hb), rfl⟩
theorem xb_rng (a : Int32) : xI32a ≤ a.toInt ∧ a.toInt ≤ xI32b := by
  have h1 := a.le_toInt
  have h2 := a.toInt_lt
  have e1 : xI32a = -2147483648 := rfl
  have e2 : xI32b = 2147483647 := rfl
  omega
theorem xb_rngL (a : Int64) : xI64a ≤ a.toInt ∧ a.toInt ≤ xI64b := by
  have h1 := a.le_toInt
  have h2 := a.toInt_lt
  have e1 : xI64a = -9223372036854775808 := rfl
  have e2 : xI64b = 9223372036854775807 := rfl
  omega
theorem xb_bm32 {z : Int} (h1 : xI32a ≤ z) (h2 : z ≤ xI32b) : z.bmod (2 ^ 32) = z := by
  have e1 : xI32a = -2147483648 := rfl
  have e2 : xI32b = 2147483647 := rfl
  apply Int.bmod_eq_of_le <;> omega
theorem xb_bm64 {z : Int} (h1 : xI64a ≤ z) (h2 : z ≤ xI64b) : z.bmod (2 ^ 64) = z := by
  have e1 : xI64a = -9223372036854775808 := rfl
  have e2 : xI64b = 9223372036854775807 := rfl
  apply Int.bmod_eq_of_le <;> omega
theorem xb_rem {a b : Int32} (ha : 0 ≤ a.toInt) (hb : 0 < b.toInt) : 0 ≤ (a - a / b * b).toInt ∧ (a - a / b * b).toInt < b.toInt := by
  obtain ⟨d0, d1⟩ := xb_div ha hb
  have hr := xb_rng a
  have h1 := Int.emod_nonneg a.toInt (b := b.toInt) (by omega)
  have h2 := Int.emod_lt_of_pos a.toInt hb
  have h3 := Int.mul_ediv_add_emod a.toInt b.toInt
  rw [Int.mul_comm] at h3
  have hm : (a / b * b).toInt = a.toInt / b.toInt * b.toInt := by
    rw [Int32.toInt_mul, d1]
    exact xb_bm32 (by have := Int.mul_nonneg (d1 ▸ d0) (Int.le_of_lt hb); have e1 : xI32a = -2147483648 := rfl; omega) (by omega)
  have e : (a - a / b * b).toInt = a.toInt % b.toInt := by
    rw [Int32.toInt_sub, hm]
    have hb3 := xb_rng b
    rw [xb_bm32 (by have e1 : xI32a = -2147483648 := rfl; omega) (by omega)]
    omega
  rw [e]
  exact ⟨h1, h2⟩
theorem xb_i2b (a : Int32) : a.toInt8.toInt32.toInt = a.toInt.bmod (2 ^ 8) := by
  rw [Int8.toInt_toInt32, Int32.toInt_toInt8]
theorem xb_i2s (a : Int32) : a.toInt16.toInt32.toInt = a.toInt.bmod (2 ^ 16) := by
  rw [Int16.toInt_toInt32, Int32.toInt_toInt16]
theorem xb_i2c (a : Int32) : 0 ≤ ((a.toUInt32 % 65536).toInt32).toInt ∧ ((a.toUInt32 % 65536).toInt32).toInt ≤ 65535 ∧ (0 ≤ a.toInt → a.toInt ≤ 65535 → ((a.toUInt32 % 65536).toInt32).toInt = a.toInt) := by
  have hn : (a.toUInt32 % 65536).toNat = a.toBitVec.toNat % 65536 := by
    rw [UInt32.toNat_mod]
    rfl
  have hl : (a.toUInt32 % 65536).toNat < 65536 := by rw [hn]; omega
  have e : ((a.toUInt32 % 65536).toInt32).toInt = ((a.toUInt32 % 65536).toNat : Int) := by
    show (a.toUInt32 % 65536).toBitVec.toInt = _
    rw [BitVec.toInt_eq_toNat_of_lt (by show 2 * (a.toUInt32 % 65536).toNat < 2 ^ 32; omega)]
    rfl
  refine ⟨by rw [e]; omega, by rw [e]; omega, fun h0 h1 => ?_⟩
  rw [e, hn]
  have := xb_nat h0
  omega
end
section
/-! Fourth part: what needs neither heap nor jump -/
def xCok (ρ : List Int) (C : xC) : Prop := xnok ρ C.1 ∧ C.2 = ρ.length
def xfr (C : xC) (lo hi : Int) : xC × xl := (((((C.2, lo, hi) :: C.1.1), C.1.2), C.2 + 1), xsym C.2)
def xR (ρ : List Int) (q : xC × xl) (x : Int) : Prop := ∃ r, xCok (ρ ++ r) q.1 ∧ xe (ρ ++ r) q.2 = some x
theorem xR_fr {ρ : List Int} {C : xC} {lo hi x : Int} (h : xCok ρ C) (h1 : lo ≤ x) (h2 : x ≤ hi) : xR ρ (xfr C lo hi) x := by
  obtain ⟨h3, h4⟩ := h
  obtain ⟨a, b⟩ := xfresh_ok h3 h1 h2
  refine ⟨[x], ⟨?_, ?_⟩, ?_⟩
  · show xnok (ρ ++ [x]) ((C.2, lo, hi) :: C.1.1, C.1.2)
    rw [h4]
    exact a
  · show C.2 + 1 = _
    rw [h4, List.length_append]
    rfl
  · show xe (ρ ++ [x]) (xsym C.2) = _
    rw [h4]
    exact b
theorem xR_id {ρ : List Int} {C : xC} {e : xl} {x : Int} (h : xCok ρ C) (he : xe ρ e = some x) : xR ρ (C, e) x := ⟨[], by rw [List.append_nil]; exact h, by rw [List.append_nil]; exact he⟩
def xfi (C : xC) : xC × xl := xfr C xI32a xI32b
def xfL (C : xC) : xC × xl := xfr C xI64a xI64b
theorem xR_fi {ρ : List Int} {C : xC} (h : xCok ρ C) (i : Int32) : xR ρ (xfi C) i.toInt := xR_fr h (xb_rng i).1 (xb_rng i).2
theorem xR_fL {ρ : List Int} {C : xC} (h : xCok ρ C) (i : Int64) : xR ρ (xfL C) i.toInt := xR_fr h (xb_rngL i).1 (xb_rngL i).2
/-- surely between -/
def xbt (iv : xI) (a b : Int) (e : xl) : Bool := match xlo iv e, xhi iv e with
  | some l, some h => xle a l && xle h b
  | _, _ => false
theorem xbt_ok {ρ : List Int} {iv : xI} (hi : xiok ρ iv) {a b z : Int} {e : xl} (h : xbt iv a b e = true) (he : xe ρ e = some z) : a ≤ z ∧ z ≤ b := by
  unfold xbt at h
  split at h
  · rename_i l u hl hu
    obtain ⟨x, h1, h2⟩ := xlo_ok hi hl
    obtain ⟨y, h3, h4⟩ := xhi_ok hi hu
    rw [he] at h1 h3
    cases h1
    cases h3
    simp only [Bool.and_eq_true, xle_iff] at h
    omega
  · cases h
def xci (C : xC) (e : xl) : xC × xl := bif xbt C.1.1 xI32a xI32b e then (C, e) else xfi C
def xcL (C : xC) (e : xl) : xC × xl := bif xbt C.1.1 xI64a xI64b e then (C, e) else xfL C
theorem xci_ok {ρ : List Int} {C : xC} {e : xl} {z : Int} (h : xCok ρ C) (he : xe ρ e = some z) {i : Int32} (hi : i.toInt = z.bmod (2 ^ 32)) : xR ρ (xci C e) i.toInt := by
  unfold xci
  cases hb : xbt C.1.1 xI32a xI32b e with
  | true =>
    obtain ⟨a, b⟩ := xbt_ok h.1.1 hb he
    rw [hi, xb_bm32 a b]
    exact xR_id h he
  | false => exact xR_fi h i
theorem xcL_ok {ρ : List Int} {C : xC} {e : xl} {z : Int} (h : xCok ρ C) (he : xe ρ e = some z) {i : Int64} (hi : i.toInt = z.bmod (2 ^ 64)) : xR ρ (xcL C e) i.toInt := by
  unfold xcL
  cases hb : xbt C.1.1 xI64a xI64b e with
  | true =>
    obtain ⟨a, b⟩ := xbt_ok h.1.1 hb he
    rw [hi, xb_bm64 a b]
    exact xR_id h he
  | false => exact xR_fL h i
/-! the operations -/
abbrev xO2 : Type := xC → xl → xl → Option (xC × xl)
def xo2 (f : xO2) (F : Int32 → Int32 → Int32) : Prop := ∀ (ρ : List Int) (C : xC) (ea eb : xl) (a b : Int32) (q : xC × xl), xCok ρ C → xe ρ ea = some a.toInt → xe ρ eb = some b.toInt → f C ea eb = some q → xR ρ q (F a b).toInt
def xo_add : xO2 := fun C a b => some (xci C (xadd (.ofNat 1) a b))
def xo_sub : xO2 := fun C a b => some (xci C (xadd (.negSucc 0) a b))
def xo_mul : xO2 := fun C a b => some (match b.2 with
  | [] => xci C (xsc b.1 a)
  | _ => match a.2 with
    | [] => xci C (xsc a.1 b)
    | _ => xfi C)
def xo_and : xO2 := fun C a b => some (match xlo C.1.1 a, xhi C.1.1 a, xlo C.1.1 b, xhi C.1.1 b with
  | some al, some ah, some bl, some bh => bif xle 0 al then (bif xle 0 bl then xfr C 0 (xmin ah bh) else xfr C 0 ah) else bif xle 0 bl then xfr C 0 bh else xfi C
  | _, _, _, _ => xfi C)
def xpw (n : Int) : Int := match n with
  | .ofNat k => .ofNat (2 ^ (Nat.log2 k + 1) - 1)
  | .negSucc _ => 0
def xo_or : xO2 := fun C a b => some (match xlo C.1.1 a, xhi C.1.1 a, xlo C.1.1 b, xhi C.1.1 b with
  | some al, some ah, some bl, some bh => bif xle 0 al && xle 0 bl then xfr C 0 (xpw (xmax ah bh)) else xfi C
  | _, _, _, _ => xfi C)
def xo_shl : xO2 := fun C a b => some (match a.2, xlo C.1.1 b, xhi C.1.1 b with
  | [], some bl, some bh => bif xle a.1 1 && xle 1 a.1 && xle 0 bl && xle bh 30 then (bif xle bh bl then (C, xk (.ofNat (2 ^ bl.toNat))) else xfr C (.ofNat (2 ^ bl.toNat)) (.ofNat (2 ^ bh.toNat))) else xfi C
  | _, _, _ => xfi C)
def xo_shr : xO2 := fun C a _ => some (match xlo C.1.1 a, xhi C.1.1 a with
  | some al, some ah => bif xle 0 al then xfr C 0 ah else xfi C
  | _, _ => xfi C)
def xo_any : xO2 := fun C _ _ => some (xfi C)
def xo_div : xO2 := fun C a b => match b.2 with
  | [] => bif xle 1 b.1 then some (match xlo C.1.1 a, xhi C.1.1 a with
    | some al, some ah => bif xle 0 al then xfr C 0 (ah / b.1) else xfi C
    | _, _ => xfi C) else none
  | _ => none
def xo_rem : xO2 := fun C a b => match b.2 with
  | [] => bif xle 1 b.1 then some (match xlo C.1.1 a with
    | some al => bif xle 0 al then xfr C 0 (b.1 - 1) else xfi C
    | _ => xfi C) else none
  | _ => none
theorem xo_add_ok : xo2 xo_add (fun a b => a + b) := by
  intro ρ C ea eb a b q hC ha hb h
  cases h
  refine xci_ok hC (xe_add ha hb) ?_
  show (a + b).toInt = _
  rw [Int32.toInt_add]
  congr 1
  show _ = a.toInt + 1 * b.toInt
  omega
theorem xo_sub_ok : xo2 xo_sub (fun a b => a - b) := by
  intro ρ C ea eb a b q hC ha hb h
  cases h
  refine xci_ok hC (xe_add ha hb) ?_
  show (a - b).toInt = _
  rw [Int32.toInt_sub]
  congr 1
  show _ = a.toInt + (-1) * b.toInt
  omega
theorem xe_nil {ρ : List Int} {e : xl} {z : Int} (h : xe ρ e = some z) (hn : e.2 = []) : z = e.1 := by
  unfold xe at h
  rw [hn] at h
  simp only [xt, Option.some.injEq] at h
  omega
theorem xo_mul_ok : xo2 xo_mul (fun a b => a * b) := by
  intro ρ C ea eb a b q hC ha hb h
  simp only [xo_mul, Option.some.injEq] at h
  subst h
  split
  · rename_i hn
    refine xci_ok hC (xe_sc eb.1 ha) ?_
    show (a * b).toInt = _
    rw [Int32.toInt_mul, ← xe_nil hb hn, Int.mul_comm]
  · split
    · rename_i hn
      refine xci_ok hC (xe_sc ea.1 hb) ?_
      show (a * b).toInt = _
      rw [Int32.toInt_mul, ← xe_nil ha hn]
    · exact xR_fi hC _
theorem xo_and_ok : xo2 xo_and (fun a b => a &&& b) := by
  intro ρ C ea eb a b q hC ha hb h
  simp only [xo_and, Option.some.injEq] at h
  subst h
  split
  · rename_i al ah bl bh e1 e2 e3 e4
    obtain ⟨x1, p1, q1⟩ := xlo_ok hC.1.1 e1
    obtain ⟨x2, p2, q2⟩ := xhi_ok hC.1.1 e2
    obtain ⟨x3, p3, q3⟩ := xlo_ok hC.1.1 e3
    obtain ⟨x4, p4, q4⟩ := xhi_ok hC.1.1 e4
    rw [ha] at p1 p2
    rw [hb] at p3 p4
    cases p1; cases p2; cases p3; cases p4
    cases h1 : xle 0 al with
    | true =>
      have h1 := xle_iff.mp h1
      have k := xb_andl (a := a) (b := b) (by omega)
      cases h2 : xle 0 bl with
      | true =>
        have h2 := xle_iff.mp h2
        have k2 := xb_and (a := a) (b := b) (by omega)
        exact xR_fr hC k.1 (xmin_ok (by show (a &&& b).toInt ≤ ah; omega) (by show (a &&& b).toInt ≤ bh; omega))
      | false => exact xR_fr hC k.1 (by show (a &&& b).toInt ≤ ah; omega)
    | false =>
      cases h2 : xle 0 bl with
      | true =>
        have h2 := xle_iff.mp h2
        have k2 := xb_and (a := a) (b := b) (by omega)
        exact xR_fr hC k2.1 (by show (a &&& b).toInt ≤ bh; omega)
      | false => exact xR_fi hC _
  · exact xR_fi hC _
theorem xpw_ok {m z : Int} (h0 : 0 ≤ z) (h : z ≤ m) : ∃ k : Nat, xpw m = ((2 ^ k : Nat) : Int) - 1 ∧ z < ((2 ^ k : Nat) : Int) := by
  cases m with
  | negSucc n => have := Int.negSucc_lt_zero n; omega
  | ofNat n =>
    refine ⟨Nat.log2 n + 1, ?_, ?_⟩
    · show Int.ofNat (2 ^ (Nat.log2 n + 1) - 1) = _
      have := Nat.two_pow_pos (Nat.log2 n + 1)
      show ((2 ^ (Nat.log2 n + 1) - 1 : Nat) : Int) = _
      omega
    · have h : z ≤ (n : Int) := h
      have := Nat.lt_log2_self (n := n)
      omega
theorem xo_orx {F : Int32 → Int32 → Int32} (hF : ∀ {a b : Int32} {m : Nat}, 0 ≤ a.toInt → 0 ≤ b.toInt → a.toInt < (2 ^ m : Nat) → b.toInt < (2 ^ m : Nat) → 0 ≤ (F a b).toInt ∧ (F a b).toInt < (2 ^ m : Nat)) : xo2 xo_or F := by
  intro ρ C ea eb a b q hC ha hb h
  simp only [xo_or, Option.some.injEq] at h
  subst h
  split
  · rename_i al ah bl bh e1 e2 e3 e4
    obtain ⟨x1, p1, q1⟩ := xlo_ok hC.1.1 e1
    obtain ⟨x2, p2, q2⟩ := xhi_ok hC.1.1 e2
    obtain ⟨x3, p3, q3⟩ := xlo_ok hC.1.1 e3
    obtain ⟨x4, p4, q4⟩ := xhi_ok hC.1.1 e4
    rw [ha] at p1 p2
    rw [hb] at p3 p4
    cases p1; cases p2; cases p3; cases p4
    cases h1 : xle 0 al && xle 0 bl with
    | true =>
      simp only [Bool.and_eq_true, xle_iff] at h1
      have m1 : ah ≤ xmax ah bh := by unfold xmax; cases hh : xle ah bh with
        | true => exact xle_iff.mp hh
        | false => exact Int.le_refl _
      have m2 : bh ≤ xmax ah bh := by unfold xmax; cases hh : xle ah bh with
        | true => exact Int.le_refl _
        | false =>
          have : ¬ ah ≤ bh := fun h => by rw [xle_iff.mpr h] at hh; cases hh
          show bh ≤ ah
          omega
      obtain ⟨k, hk, hk1⟩ := xpw_ok (m := xmax ah bh) (z := a.toInt) (by omega) (by omega)
      obtain ⟨k2, hk2, hk3⟩ := xpw_ok (m := xmax ah bh) (z := b.toInt) (by omega) (by omega)
      have ek : ((2 ^ k : Nat) : Int) = ((2 ^ k2 : Nat) : Int) := by omega
      have kk := hF (a := a) (b := b) (m := k) (by omega) (by omega) hk1 (by omega)
      exact xR_fr hC kk.1 (by omega)
    | false => exact xR_fi hC _
  · exact xR_fi hC _
theorem xo_or_ok : xo2 xo_or (fun a b => a ||| b) := xo_orx (fun h1 h2 h3 h4 => xb_or h1 h2 h3 h4)
theorem xo_xor_ok : xo2 xo_or (fun a b => a ^^^ b) := xo_orx (fun h1 h2 h3 h4 => xb_xor h1 h2 h3 h4)
theorem xo_shl_ok : xo2 xo_shl (fun a b => a <<< (b &&& 31)) := by
  intro ρ C ea eb a b q hC ha hb h
  simp only [xo_shl, Option.some.injEq] at h
  subst h
  split
  · rename_i bl bh en e1 e2
    obtain ⟨x1, p1, q1⟩ := xlo_ok hC.1.1 e1
    obtain ⟨x2, p2, q2⟩ := xhi_ok hC.1.1 e2
    rw [hb] at p1 p2
    cases p1; cases p2
    cases h1 : xle ea.1 1 && xle 1 ea.1 && xle 0 bl && xle bh 30 with
    | true =>
      simp only [Bool.and_eq_true, xle_iff] at h1
      have ez := xe_nil ha en
      have e1 : a = 1 := by
        rw [← Int32.toInt_inj]
        show a.toInt = 1
        omega
      subst e1
      have key := xb_shl1 (b := b) (by omega) (by omega)
      cases h2 : xle bh bl with
      | true =>
        have h2 := xle_iff.mp h2
        have eb2 : bl = b.toInt := by omega
        refine xR_id hC ?_
        rw [xe_k, eb2]
        show some _ = some ((1 : Int32) <<< (b &&& 31)).toInt
        rw [key]
        rfl
      | false =>
        refine xR_fr hC ?_ ?_
        · show Int.ofNat (2 ^ bl.toNat) ≤ ((1 : Int32) <<< (b &&& 31)).toInt
          rw [key]
          have := Nat.pow_le_pow_right (n := 2) (by omega) (show bl.toNat ≤ b.toInt.toNat by omega)
          show ((2 ^ bl.toNat : Nat) : Int) ≤ _
          omega
        · show ((1 : Int32) <<< (b &&& 31)).toInt ≤ Int.ofNat (2 ^ bh.toNat)
          rw [key]
          have := Nat.pow_le_pow_right (n := 2) (by omega) (show b.toInt.toNat ≤ bh.toNat by omega)
          show _ ≤ ((2 ^ bh.toNat : Nat) : Int)
          omega
    | false => exact xR_fi hC _
  · exact xR_fi hC _
theorem xo_shr_ok : xo2 xo_shr (fun a b => a >>> (b &&& 31)) := by
  intro ρ C ea eb a b q hC ha hb h
  simp only [xo_shr, Option.some.injEq] at h
  subst h
  split
  · rename_i al ah e1 e2
    obtain ⟨x1, p1, q1⟩ := xlo_ok hC.1.1 e1
    obtain ⟨x2, p2, q2⟩ := xhi_ok hC.1.1 e2
    rw [ha] at p1 p2
    cases p1; cases p2
    cases h1 : xle 0 al with
    | true =>
      have h1 := xle_iff.mp h1
      have k := xb_shr (a := a) (b := b &&& 31) (by omega)
      exact xR_fr hC k.1 (by show (a >>> (b &&& 31)).toInt ≤ ah; omega)
    | false => exact xR_fi hC _
  · exact xR_fi hC _
theorem xo_any_ok (F : Int32 → Int32 → Int32) : xo2 xo_any F := by
  intro ρ C ea eb a b q hC ha hb h
  cases h
  exact xR_fi hC _
theorem xo_div_ok : xo2 xo_div (fun a b => a / b) ∧ ∀ (ρ : List Int) (C : xC) (ea eb : xl) (b : Int32) (q : xC × xl), xe ρ eb = some b.toInt → xo_div C ea eb = some q → b ≠ 0 := by
  constructor
  · intro ρ C ea eb a b q hC ha hb h
    simp only [xo_div] at h
    split at h
    · rename_i en
      have ez := xe_nil hb en
      cases h1 : xle 1 eb.1 with
      | false => rw [h1] at h; cases h
      | true =>
        rw [h1] at h
        simp only [cond_true, Option.some.injEq] at h
        subst h
        have h1 := xle_iff.mp h1
        split
        · rename_i al ah e1 e2
          obtain ⟨x1, p1, q1⟩ := xlo_ok hC.1.1 e1
          obtain ⟨x2, p2, q2⟩ := xhi_ok hC.1.1 e2
          rw [ha] at p1 p2
          cases p1; cases p2
          cases h2 : xle 0 al with
          | true =>
            have h2 := xle_iff.mp h2
            have k := xb_div (a := a) (b := b) (by omega) (by omega)
            refine xR_fr hC k.1 ?_
            show (a / b).toInt ≤ ah / eb.1
            rw [k.2, ez]
            exact Int.ediv_le_ediv (by omega) q2
          | false => exact xR_fi hC _
        · exact xR_fi hC _
    · cases h
  · intro ρ C ea eb b q hb h e0
    simp only [xo_div] at h
    split at h
    · rename_i en
      have ez := xe_nil hb en
      cases h1 : xle 1 eb.1 with
      | false => rw [h1] at h; cases h
      | true =>
        have h1 := xle_iff.mp h1
        rw [e0] at ez
        have : (0 : Int32).toInt = 0 := rfl
        omega
    · cases h
theorem xo_rem_ok : xo2 xo_rem (fun a b => a - a / b * b) ∧ ∀ (ρ : List Int) (C : xC) (ea eb : xl) (b : Int32) (q : xC × xl), xe ρ eb = some b.toInt → xo_rem C ea eb = some q → b ≠ 0 := by
  constructor
  · intro ρ C ea eb a b q hC ha hb h
    simp only [xo_rem] at h
    split at h
    · rename_i en
      have ez := xe_nil hb en
      cases h1 : xle 1 eb.1 with
      | false => rw [h1] at h; cases h
      | true =>
        rw [h1] at h
        simp only [cond_true, Option.some.injEq] at h
        subst h
        have h1 := xle_iff.mp h1
        split
        · rename_i al e1
          obtain ⟨x1, p1, q1⟩ := xlo_ok hC.1.1 e1
          rw [ha] at p1
          cases p1
          cases h2 : xle 0 al with
          | true =>
            have h2 := xle_iff.mp h2
            have k := xb_rem (a := a) (b := b) (by omega) (by omega)
            exact xR_fr hC k.1 (by show (a - a / b * b).toInt ≤ eb.1 - 1; omega)
          | false => exact xR_fi hC _
        · exact xR_fi hC _
    · cases h
  · intro ρ C ea eb b q hb h e0
    simp only [xo_rem] at h
    split at h
    · rename_i en
      have ez := xe_nil hb en
      cases h1 : xle 1 eb.1 with
      | false => rw [h1] at h; cases h
      | true =>
        have h1 := xle_iff.mp h1
        rw [e0] at ez
        have : (0 : Int32).toInt = 0 := rfl
        omega
    · cases h
end
section
/-! Fifth part: the instructions that need neither heap nor jump -/
abbrev xPR : Type := xC × xLS × List xv
def xP (ρ : List Int) (σ : List Nat) (q : xPR) (z : Option (zm_L × List Value)) : Prop := ∃ (r : List Int) (lc : zm_L) (sc : List Value), z = some (lc, sc) ∧ xCok (ρ ++ r) q.1 ∧ xlk (ρ ++ r) σ q.2.1 lc ∧ xsk (ρ ++ r) σ q.2.2 sc
theorem xlk_m {ρ r : List Int} {σ : List Nat} {ls : xLS} {lc : zm_L} (h : xlk ρ σ ls lc) : xlk (ρ ++ r) σ ls lc := by
  have := xlk_mono (r := r) (s := []) h
  rwa [List.append_nil] at this
theorem xsk_m {ρ r : List Int} {σ : List Nat} {st : List xv} {sc : List Value} (h : xsk ρ σ st sc) : xsk (ρ ++ r) σ st sc := by
  have := xsk_mono (r := r) (s := []) h
  rwa [List.append_nil] at this
theorem xc_m {ρ r : List Int} {σ : List Nat} {a : xv} {v : Value} (h : xc ρ σ a v) : xc (ρ ++ r) σ a v := by
  have := xc_mono (r := r) (s := []) h
  rwa [List.append_nil] at this
theorem xP_id {ρ : List Int} {σ : List Nat} {C : xC} {ls : xLS} {st : List xv} {lc : zm_L} {sc : List Value} (hC : xCok ρ C) (hl : xlk ρ σ ls lc) (hs : xsk ρ σ st sc) : xP ρ σ (C, ls, st) (some (lc, sc)) := ⟨[], lc, sc, rfl, by rw [List.append_nil]; exact ⟨hC, hl, hs⟩⟩
def xi (e : xl) : xv := (0, e, 0)
def xL (e : xl) : xv := (1, e, 0)
theorem xc_i {ρ : List Int} {σ : List Nat} {a : xv} {v : Value} (h : xc ρ σ a v) (ht : Nat.beq a.1 0 = true) : ∃ i : Int32, v = .int i ∧ xe ρ a.2.1 = some i.toInt := by
  obtain ⟨t, e, n⟩ := a
  have ht : t = 0 := Nat.eq_of_beq_eq_true ht
  subst ht
  exact h
theorem xc_L {ρ : List Int} {σ : List Nat} {a : xv} {v : Value} (h : xc ρ σ a v) (ht : Nat.beq a.1 1 = true) : ∃ i : Int64, v = .long i ∧ xe ρ a.2.1 = some i.toInt := by
  obtain ⟨t, e, n⟩ := a
  have ht : t = 1 := Nat.eq_of_beq_eq_true ht
  subst ht
  exact h
/-- a reference, null, or an old thing -/
def xir (a : xv) : Bool := match a.1 with
  | 2 => true
  | 3 => true
  | 4 => true
  | 5 => true
  | 7 => true
  | 8 => true
  | _ => false
theorem xc_r {ρ : List Int} {σ : List Nat} {a : xv} {v : Value} (h : xc ρ σ a v) (ht : xir a = true) : v = .null ∨ (∃ b, v = .ref b) ∨ ∃ j, v = .retAddr j := by
  obtain ⟨t, e, n⟩ := a
  unfold xir at ht
  split at ht
  · rename_i h2; have h2 : t = 2 := h2; subst h2; exact Or.inl h
  · rename_i h2; have h2 : t = 3 := h2; subst h2; exact Or.inr (Or.inl ⟨_, h⟩)
  · rename_i h2; have h2 : t = 4 := h2; subst h2; obtain ⟨b, -, hb⟩ := h; exact Or.inr (Or.inl ⟨b, hb⟩)
  · rename_i h2; have h2 : t = 5 := h2; subst h2; exact Or.inr (Or.inr ⟨_, h⟩)
  · rename_i h2; have h2 : t = 7 := h2; subst h2; obtain ⟨x, j, -, -, hb⟩ := h; exact Or.inr (Or.inr ⟨j, hb⟩)
  · rename_i h2; have h2 : t = 8 := h2; subst h2; obtain ⟨x, j, -, -, hb⟩ := h; exact Or.inr (Or.inr ⟨j, hb⟩)
  · cases ht
theorem xir_w2 {a : xv} (h : xir a = true) : xw2 a = false := by
  obtain ⟨t, e, n⟩ := a
  unfold xir at h
  split at h
  · rename_i h2; have h2 : t = 2 := h2; subst h2; rfl
  · rename_i h2; have h2 : t = 3 := h2; subst h2; rfl
  · rename_i h2; have h2 : t = 4 := h2; subst h2; rfl
  · rename_i h2; have h2 : t = 5 := h2; subst h2; rfl
  · rename_i h2; have h2 : t = 7 := h2; subst h2; rfl
  · rename_i h2; have h2 : t = 8 := h2; subst h2; rfl
  · cases h
def xpush (v : Value) (C : xC) (ls : xLS) (st : List xv) : Option xPR := match v with
  | .int i => some (C, ls, xi (xk i.toInt) :: st)
  | .long i => some (C, ls, xL (xk i.toInt) :: st)
  | .retAddr j => some (C, ls, (5, xk 0, j) :: st)
  | _ => none
def xldi (C : xC) (ls : xLS) (k : Nat) (st : List xv) : Option xPR := match xget ls k with
  | some a => bif Nat.beq a.1 0 then some (C, ls, a :: st) else none
  | none => none
def xldl (C : xC) (ls : xLS) (k : Nat) (st : List xv) : Option xPR := match xget ls k with
  | some a => bif Nat.beq a.1 1 then some (C, ls, a :: st) else none
  | none => none
def xlda (C : xC) (ls : xLS) (k : Nat) (st : List xv) : Option xPR := match xget ls k with
  | some a => bif xir a then some (C, ls, a :: st) else none
  | none => none
def xsti (C : xC) (ls : xLS) (k : Nat) (st : List xv) : Option xPR := match st with
  | a :: t => bif Nat.beq a.1 0 then some (C, xst ls k a, t) else none
  | [] => none
def xstl (C : xC) (ls : xLS) (k : Nat) (st : List xv) : Option xPR := match st with
  | a :: t => bif Nat.beq a.1 1 then some (C, xst ls k a, t) else none
  | [] => none
def xsta (C : xC) (ls : xLS) (k : Nat) (st : List xv) : Option xPR := match st with
  | a :: t => bif xir a then some (C, xst ls k a, t) else none
  | [] => none
def xiinc (x : zm_X) (C : xC) (ls : xLS) (k : Nat) (st : List xv) : Option xPR := match xget ls k, x.2.2.2.1 with
  | some a, .int c => bif Nat.beq a.1 0 then (let q := xci C (xpl c.toInt a.2.1); some (q.1, xst ls k (xi q.2), st)) else none
  | _, _ => none
def x2 (f : xO2) (C : xC) (ls : xLS) (st : List xv) : Option xPR := match st with
  | b :: a :: t => bif Nat.beq a.1 0 && Nat.beq b.1 0 then (match f C a.2.1 b.2.1 with
    | some q => some (q.1, ls, xi q.2 :: t)
    | none => none) else none
  | _ => none
def x1 (f : xC → xl → xC × xl) (C : xC) (ls : xLS) (st : List xv) : Option xPR := match st with
  | a :: t => bif Nat.beq a.1 0 then (let q := f C a.2.1; some (q.1, ls, xi q.2 :: t)) else none
  | _ => none
def x2L (f : xC → xl → xl → Option (xC × xl)) (C : xC) (ls : xLS) (st : List xv) : Option xPR := match st with
  | b :: a :: t => bif Nat.beq a.1 1 && Nat.beq b.1 1 then (match f C a.2.1 b.2.1 with
    | some q => some (q.1, ls, xL q.2 :: t)
    | none => none) else none
  | _ => none
def xneg : xC → xl → xC × xl := fun C e => xci C (xsc (.negSucc 0) e)
def xto (a b : Int) : xC → xl → xC × xl := fun C e => bif xbt C.1.1 a b e then (C, e) else xfr C a b
def xladd : xC → xl → xl → Option (xC × xl) := fun C a b => some (xcL C (xadd (.ofNat 1) a b))
def xlsub : xC → xl → xl → Option (xC × xl) := fun C a b => some (xcL C (xadd (.negSucc 0) a b))
def xlany : xC → xl → xl → Option (xC × xl) := fun C _ _ => some (xfL C)
def xldiv : xC → xl → xl → Option (xC × xl) := fun C _ b => match xlo C.1.1 b, xhi C.1.1 b with
  | some l, some h => bif xle 1 l || xle h (.negSucc 0) then some (xfL C) else none
  | _, _ => none
/-- the instructions -/
def xp (i : Jvm.ClassFile.Instr) (x : zm_X) (C : xC) (ls : xLS) (st : List xv) : Option xPR := match i with
  | .iconst _ => xpush x.2.2.2.1 C ls st
  | .bipush _ => xpush x.2.2.2.1 C ls st
  | .sipush _ => xpush x.2.2.2.1 C ls st
  | .lconst _ => xpush x.2.2.2.1 C ls st
  | .ldc _ => xpush x.2.2.2.1 C ls st
  | .ldc_w _ => xpush x.2.2.2.1 C ls st
  | .ldc2_w _ => xpush x.2.2.2.1 C ls st
  | .aconst_null => some (C, ls, (2, xk 0, 0) :: st)
  | .iload k => xldi C ls k st
  | .iload_n k => xldi C ls k.val st
  | .lload k => xldl C ls k st
  | .lload_n k => xldl C ls k.val st
  | .aload k => xlda C ls k st
  | .aload_n k => xlda C ls k.val st
  | .istore k => xsti C ls k st
  | .istore_n k => xsti C ls k.val st
  | .lstore k => xstl C ls k st
  | .lstore_n k => xstl C ls k.val st
  | .astore k => xsta C ls k st
  | .astore_n k => xsta C ls k.val st
  | .iinc k _ => xiinc x C ls k st
  | .iadd => x2 xo_add C ls st
  | .isub => x2 xo_sub C ls st
  | .imul => x2 xo_mul C ls st
  | .iand => x2 xo_and C ls st
  | .ior => x2 xo_or C ls st
  | .ixor => x2 xo_or C ls st
  | .ishl => x2 xo_shl C ls st
  | .ishr => x2 xo_shr C ls st
  | .iushr => x2 xo_any C ls st
  | .idiv => x2 xo_div C ls st
  | .irem => x2 xo_rem C ls st
  | .ineg => x1 xneg C ls st
  | .i2b => x1 (xto (.negSucc 127) (.ofNat 127)) C ls st
  | .i2s => x1 (xto (.negSucc 32767) (.ofNat 32767)) C ls st
  | .i2c => x1 (xto 0 (.ofNat 65535)) C ls st
  | .ladd => x2L xladd C ls st
  | .lsub => x2L xlsub C ls st
  | .lmul => x2L xlany C ls st
  | .land => x2L xlany C ls st
  | .lor => x2L xlany C ls st
  | .ldiv => x2L xldiv C ls st
  | .lneg => (match st with
    | a :: t => bif Nat.beq a.1 1 then (let q := xfL C; some (q.1, ls, xL q.2 :: t)) else none
    | _ => none)
  | .i2l => (match st with
    | a :: t => bif Nat.beq a.1 0 then some (C, ls, xL a.2.1 :: t) else none
    | _ => none)
  | .l2i => (match st with
    | a :: t => bif Nat.beq a.1 1 then (let q := xci C a.2.1; some (q.1, ls, xi q.2 :: t)) else none
    | _ => none)
  | .lcmp => (match st with
    | b :: a :: t => bif Nat.beq a.1 1 && Nat.beq b.1 1 then some (C, ls, (6, xadd (.negSucc 0) a.2.1 b.2.1, 0) :: t) else none
    | _ => none)
  | .lshl => (match st with
    | b :: a :: t => bif Nat.beq a.1 1 && Nat.beq b.1 0 then (let q := xfL C; some (q.1, ls, xL q.2 :: t)) else none
    | _ => none)
  | .dup => (match st with
    | a :: t => bif xw2 a then none else some (C, ls, a :: a :: t)
    | _ => none)
  | .dup_x1 => (match st with
    | a :: b :: t => bif xw2 a || xw2 b then none else some (C, ls, a :: b :: a :: t)
    | _ => none)
  | .dup2 => (match st with
    | a :: b :: t => bif xw2 a || xw2 b then none else some (C, ls, a :: b :: a :: b :: t)
    | _ => none)
  | .pop => (match st with
    | a :: t => bif xw2 a then none else some (C, ls, t)
    | _ => none)
  | .pop2 => (match st with
    | a :: t => bif xw2 a then some (C, ls, t) else none
    | _ => none)
  | _ => none
section XPU
variable {ρ : List Int} {σ : List Nat} {C : xC} {ls : xLS} {st : List xv} {lc : zm_L} {sc : List Value} {q : xPR}
theorem xpush_ok {v : Value} (hC : xCok ρ C) (hl : xlk ρ σ ls lc) (hs : xsk ρ σ st sc) (h : xpush v C ls st = some q) : xP ρ σ q (some (lc, v :: sc)) := by
  unfold xpush at h
  split at h
  · cases h; exact xP_id hC hl ⟨⟨_, rfl, xe_k _⟩, hs⟩
  · cases h; exact xP_id hC hl ⟨⟨_, rfl, xe_k _⟩, hs⟩
  · cases h; exact xP_id hC hl ⟨rfl, hs⟩
  · cases h
theorem xldi_ok {k : Nat} (hC : xCok ρ C) (hl : xlk ρ σ ls lc) (hs : xsk ρ σ st sc) (h : xldi C ls k st = some q) : xP ρ σ q (zm_ldi lc k sc) := by
  unfold xldi at h
  split at h
  · rename_i a ha
    obtain ⟨v, hv, hc⟩ := xget_ok hl ha
    cases ht : Nat.beq a.1 0 with
    | false => rw [ht] at h; cases h
    | true =>
      rw [ht] at h
      cases h
      obtain ⟨i, rfl, he⟩ := xc_i hc ht
      simp only [zm_ldi, hv]
      exact xP_id hC hl ⟨hc, hs⟩
  · cases h
theorem xldl_ok {k : Nat} (hC : xCok ρ C) (hl : xlk ρ σ ls lc) (hs : xsk ρ σ st sc) (h : xldl C ls k st = some q) : xP ρ σ q (zm_ldl lc k sc) := by
  unfold xldl at h
  split at h
  · rename_i a ha
    obtain ⟨v, hv, hc⟩ := xget_ok hl ha
    cases ht : Nat.beq a.1 1 with
    | false => rw [ht] at h; cases h
    | true =>
      rw [ht] at h
      cases h
      obtain ⟨i, rfl, he⟩ := xc_L hc ht
      simp only [zm_ldl, hv]
      exact xP_id hC hl ⟨hc, hs⟩
  · cases h
theorem xlda_ok {k : Nat} (hC : xCok ρ C) (hl : xlk ρ σ ls lc) (hs : xsk ρ σ st sc) (h : xlda C ls k st = some q) : xP ρ σ q (zm_lda lc k sc) := by
  unfold xlda at h
  split at h
  · rename_i a ha
    obtain ⟨v, hv, hc⟩ := xget_ok hl ha
    cases ht : xir a with
    | false => rw [ht] at h; cases h
    | true =>
      rw [ht] at h
      cases h
      rcases xc_r hc ht with rfl | ⟨b, rfl⟩ | ⟨j, rfl⟩
      · simp only [zm_lda, hv]; exact xP_id hC hl ⟨hc, hs⟩
      · simp only [zm_lda, hv]; exact xP_id hC hl ⟨hc, hs⟩
      · simp only [zm_lda, hv]; exact xP_id hC hl ⟨hc, hs⟩
  · cases h
theorem xw2_0 {a : xv} (ht : Nat.beq a.1 0 = true) : xw2 a = false := by
  unfold xw2
  rw [Nat.eq_of_beq_eq_true ht]
  rfl
theorem xsti_ok {k : Nat} (hC : xCok ρ C) (hl : xlk ρ σ ls lc) (hs : xsk ρ σ st sc) (h : xsti C ls k st = some q) : xP ρ σ q (zm_sti lc k sc) := by
  unfold xsti at h
  split at h
  · rename_i a t
    obtain ⟨v, s, rfl, hc, hs'⟩ := xsk_cons hs
    cases ht : Nat.beq a.1 0 with
    | false => rw [ht] at h; cases h
    | true =>
      rw [ht] at h
      cases h
      obtain ⟨i, rfl, he⟩ := xc_i hc ht
      exact xP_id hC (xst_ok1 hl hc (xw2_0 ht)) hs'
  · cases h
theorem xstl_ok {k : Nat} (hC : xCok ρ C) (hl : xlk ρ σ ls lc) (hs : xsk ρ σ st sc) (h : xstl C ls k st = some q) : xP ρ σ q (zm_stl lc k sc) := by
  unfold xstl at h
  split at h
  · rename_i a t
    obtain ⟨v, s, rfl, hc, hs'⟩ := xsk_cons hs
    cases ht : Nat.beq a.1 1 with
    | false => rw [ht] at h; cases h
    | true =>
      rw [ht] at h
      cases h
      obtain ⟨i, rfl, he⟩ := xc_L hc ht
      exact xP_id hC (xst_ok2 hl hc ht) hs'
  · cases h
theorem xsta_ok {k : Nat} (hC : xCok ρ C) (hl : xlk ρ σ ls lc) (hs : xsk ρ σ st sc) (h : xsta C ls k st = some q) : xP ρ σ q (zm_sta lc k sc) := by
  unfold xsta at h
  split at h
  · rename_i a t
    obtain ⟨v, s, rfl, hc, hs'⟩ := xsk_cons hs
    cases ht : xir a with
    | false => rw [ht] at h; cases h
    | true =>
      rw [ht] at h
      cases h
      rcases xc_r hc ht with rfl | ⟨b, rfl⟩ | ⟨j, rfl⟩
      · exact xP_id hC (xst_ok1 hl hc (xir_w2 ht)) hs'
      · exact xP_id hC (xst_ok1 hl hc (xir_w2 ht)) hs'
      · exact xP_id hC (xst_ok1 hl hc (xir_w2 ht)) hs'
  · cases h
theorem xP_R {lc' : zm_L} {v : xC × xl} {x : Int} {f : xl → xv} {t : List xv} {s : List Value} {w : Value} (hq : xR ρ v x) (hl : xlk ρ σ ls lc') (hs : xsk ρ σ t s) (hw : ∀ r, xe (ρ ++ r) v.2 = some x → xc (ρ ++ r) σ (f v.2) w) : xP ρ σ (v.1, ls, f v.2 :: t) (some (lc', w :: s)) := by
  obtain ⟨r, h1, h2⟩ := hq
  exact ⟨r, lc', w :: s, rfl, h1, xlk_m hl, hw r h2, xsk_m hs⟩
theorem xiinc_ok {x : zm_X} {k : Nat} (hC : xCok ρ C) (hl : xlk ρ σ ls lc) (hs : xsk ρ σ st sc) (h : xiinc x C ls k st = some q) : xP ρ σ q (zm_iinc x lc k sc) := by
  unfold xiinc at h
  split at h
  · rename_i a c ha hx
    obtain ⟨v, hv, hc⟩ := xget_ok hl ha
    cases ht : Nat.beq a.1 0 with
    | false => rw [ht] at h; cases h
    | true =>
      rw [ht] at h
      cases h
      obtain ⟨i, rfl, he⟩ := xc_i hc ht
      simp only [zm_iinc, hv, hx]
      obtain ⟨r, h1, h2⟩ := xci_ok (i := i + c) hC (xe_pl c.toInt he) (Int32.toInt_add i c)
      exact ⟨r, _, sc, rfl, h1, xst_ok1 (xlk_m hl) ⟨_, rfl, h2⟩ rfl, xsk_m hs⟩
  · cases h
theorem x2_ok {f : xO2} {F : Int32 → Int32 → Int32} (hF : xo2 f F) (hC : xCok ρ C) (hl : xlk ρ σ ls lc) (hs : xsk ρ σ st sc) (h : x2 f C ls st = some q) : xP ρ σ q (zm_ii F lc sc) := by
  unfold x2 at h
  split at h
  · rename_i b a t
    obtain ⟨vb, s1, rfl, hb, hs1⟩ := xsk_cons hs
    obtain ⟨va, s2, rfl, ha, hs2⟩ := xsk_cons hs1
    cases ht : Nat.beq a.1 0 && Nat.beq b.1 0 with
    | false => rw [ht] at h; cases h
    | true =>
      rw [ht] at h
      simp only [Bool.and_eq_true] at ht
      simp only [cond_true] at h
      split at h
      · rename_i v hv
        cases h
        obtain ⟨ia, rfl, ea⟩ := xc_i ha ht.1
        obtain ⟨ib, rfl, eb⟩ := xc_i hb ht.2
        exact xP_R (f := xi) (hF ρ C _ _ ia ib v hC ea eb hv) hl hs2 (fun r hr => ⟨_, rfl, hr⟩)
      · cases h
  · cases h
theorem x2z_ok {f : xO2} {F : Int32 → Int32 → Int32} (hF : xo2 f F) (hz : ∀ (ρ : List Int) (C : xC) (ea eb : xl) (b : Int32) (q : xC × xl), xe ρ eb = some b.toInt → f C ea eb = some q → b ≠ 0) (hC : xCok ρ C) (hl : xlk ρ σ ls lc) (hs : xsk ρ σ st sc) (h : x2 f C ls st = some q) : xP ρ σ q (zm_iz F lc sc) := by
  unfold x2 at h
  split at h
  · rename_i b a t
    obtain ⟨vb, s1, rfl, hb, hs1⟩ := xsk_cons hs
    obtain ⟨va, s2, rfl, ha, hs2⟩ := xsk_cons hs1
    cases ht : Nat.beq a.1 0 && Nat.beq b.1 0 with
    | false => rw [ht] at h; cases h
    | true =>
      rw [ht] at h
      simp only [Bool.and_eq_true] at ht
      simp only [cond_true] at h
      split at h
      · rename_i v hv
        cases h
        obtain ⟨ia, rfl, ea⟩ := xc_i ha ht.1
        obtain ⟨ib, rfl, eb⟩ := xc_i hb ht.2
        simp only [zm_iz, if_neg (hz ρ C _ _ ib v eb hv)]
        exact xP_R (f := xi) (hF ρ C _ _ ia ib v hC ea eb hv) hl hs2 (fun r hr => ⟨_, rfl, hr⟩)
      · cases h
  · cases h
theorem x1_ok {f : xC → xl → xC × xl} {F : Int32 → Int32} (hF : ∀ (ρ : List Int) (C : xC) (e : xl) (a : Int32), xCok ρ C → xe ρ e = some a.toInt → xR ρ (f C e) (F a).toInt) (hC : xCok ρ C) (hl : xlk ρ σ ls lc) (hs : xsk ρ σ st sc) (h : x1 f C ls st = some q) : xP ρ σ q (zm_i F lc sc) := by
  unfold x1 at h
  split at h
  · rename_i a t
    obtain ⟨va, s2, rfl, ha, hs2⟩ := xsk_cons hs
    cases ht : Nat.beq a.1 0 with
    | false => rw [ht] at h; cases h
    | true =>
      rw [ht] at h
      cases h
      obtain ⟨ia, rfl, ea⟩ := xc_i ha ht
      exact xP_R (f := xi) (hF ρ C _ ia hC ea) hl hs2 (fun r hr => ⟨_, rfl, hr⟩)
  · cases h
theorem x2L_ok {f : xC → xl → xl → Option (xC × xl)} {F : Int64 → Int64 → Int64} (hF : ∀ (ρ : List Int) (C : xC) (ea eb : xl) (a b : Int64) (q : xC × xl), xCok ρ C → xe ρ ea = some a.toInt → xe ρ eb = some b.toInt → f C ea eb = some q → xR ρ q (F a b).toInt) (hC : xCok ρ C) (hl : xlk ρ σ ls lc) (hs : xsk ρ σ st sc) (h : x2L f C ls st = some q) : xP ρ σ q (zm_ll F lc sc) := by
  unfold x2L at h
  split at h
  · rename_i b a t
    obtain ⟨vb, s1, rfl, hb, hs1⟩ := xsk_cons hs
    obtain ⟨va, s2, rfl, ha, hs2⟩ := xsk_cons hs1
    cases ht : Nat.beq a.1 1 && Nat.beq b.1 1 with
    | false => rw [ht] at h; cases h
    | true =>
      rw [ht] at h
      simp only [Bool.and_eq_true] at ht
      simp only [cond_true] at h
      split at h
      · rename_i v hv
        cases h
        obtain ⟨ia, rfl, ea⟩ := xc_L ha ht.1
        obtain ⟨ib, rfl, eb⟩ := xc_L hb ht.2
        exact xP_R (f := xL) (hF ρ C _ _ ia ib v hC ea eb hv) hl hs2 (fun r hr => ⟨_, rfl, hr⟩)
      · cases h
  · cases h
theorem x2Lz_ok {F : Int64 → Int64 → Int64} (hC : xCok ρ C) (hl : xlk ρ σ ls lc) (hs : xsk ρ σ st sc) (h : x2L xldiv C ls st = some q) : xP ρ σ q (zm_lz F lc sc) := by
  unfold x2L at h
  split at h
  · rename_i b a t
    obtain ⟨vb, s1, rfl, hb, hs1⟩ := xsk_cons hs
    obtain ⟨va, s2, rfl, ha, hs2⟩ := xsk_cons hs1
    cases ht : Nat.beq a.1 1 && Nat.beq b.1 1 with
    | false => rw [ht] at h; cases h
    | true =>
      rw [ht] at h
      simp only [Bool.and_eq_true] at ht
      simp only [cond_true] at h
      split at h
      · rename_i v hv
        cases h
        obtain ⟨ia, rfl, ea⟩ := xc_L ha ht.1
        obtain ⟨ib, rfl, eb⟩ := xc_L hb ht.2
        unfold xldiv at hv
        split at hv
        · rename_i l u hl2 hu
          obtain ⟨y1, p1, q1⟩ := xlo_ok hC.1.1 hl2
          obtain ⟨y2, p2, q2⟩ := xhi_ok hC.1.1 hu
          rw [eb] at p1 p2
          cases p1; cases p2
          cases hh : xle 1 l || xle u (.negSucc 0) with
          | false => rw [hh] at hv; cases hv
          | true =>
            rw [hh] at hv
            cases hv
            have hne : ib ≠ 0 := by
              rintro rfl
              have e0 : (0 : Int64).toInt = 0 := rfl
              simp only [Bool.or_eq_true, xle_iff] at hh
              have e1 : (Int.negSucc 0) = -1 := rfl
              omega
            simp only [zm_lz, if_neg hne]
            exact xP_R (f := xL) (xR_fL hC _) hl hs2 (fun r hr => ⟨_, rfl, hr⟩)
        · cases hv
      · cases h
  · cases h
end XPU
end
section
/-! The instructions that need neither heap nor jump are followed rightly -/
theorem xneg_ok : ∀ (ρ : List Int) (C : xC) (e : xl) (a : Int32), xCok ρ C → xe ρ e = some a.toInt → xR ρ (xneg C e) (-a).toInt := by
  intro ρ C e a hC he
  refine xci_ok hC (xe_sc _ he) ?_
  rw [Int32.toInt_neg]
  congr 1
  show _ = (-1) * a.toInt
  omega
theorem xto_ok {lo hi : Int} {F : Int32 → Int32} (hF : ∀ a : Int32, lo ≤ (F a).toInt ∧ (F a).toInt ≤ hi ∧ (lo ≤ a.toInt → a.toInt ≤ hi → (F a).toInt = a.toInt)) : ∀ (ρ : List Int) (C : xC) (e : xl) (a : Int32), xCok ρ C → xe ρ e = some a.toInt → xR ρ (xto lo hi C e) (F a).toInt := by
  intro ρ C e a hC he
  obtain ⟨h1, h2, h3⟩ := hF a
  unfold xto
  cases hb : xbt C.1.1 lo hi e with
  | true =>
    obtain ⟨k1, k2⟩ := xbt_ok hC.1.1 hb he
    rw [h3 k1 k2]
    exact xR_id hC he
  | false => exact xR_fr hC h1 h2
theorem xb_bm {z : Int} {n : Nat} (h : 0 < n) : -(n : Int) ≤ z.bmod (2 * n) ∧ z.bmod (2 * n) ≤ (n : Int) - 1 ∧ (-(n : Int) ≤ z → z ≤ (n : Int) - 1 → z.bmod (2 * n) = z) := by
  have h1 := Int.le_bmod (x := z) (m := 2 * n) (by omega)
  have h2 := Int.bmod_lt (x := z) (m := 2 * n) (by omega)
  refine ⟨by omega, by omega, fun a b => ?_⟩
  apply Int.bmod_eq_of_le <;> omega
theorem xi2b_ok (a : Int32) : Int.negSucc 127 ≤ (a.toInt8.toInt32).toInt ∧ (a.toInt8.toInt32).toInt ≤ Int.ofNat 127 ∧ (Int.negSucc 127 ≤ a.toInt → a.toInt ≤ Int.ofNat 127 → (a.toInt8.toInt32).toInt = a.toInt) := by
  rw [xb_i2b]
  exact xb_bm (n := 128) (by decide)
theorem xi2s_ok (a : Int32) : Int.negSucc 32767 ≤ (a.toInt16.toInt32).toInt ∧ (a.toInt16.toInt32).toInt ≤ Int.ofNat 32767 ∧ (Int.negSucc 32767 ≤ a.toInt → a.toInt ≤ Int.ofNat 32767 → (a.toInt16.toInt32).toInt = a.toInt) := by
  rw [xb_i2s]
  exact xb_bm (n := 32768) (by decide)
theorem xladd_ok : ∀ (ρ : List Int) (C : xC) (ea eb : xl) (a b : Int64) (q : xC × xl), xCok ρ C → xe ρ ea = some a.toInt → xe ρ eb = some b.toInt → xladd C ea eb = some q → xR ρ q (a + b).toInt := by
  intro ρ C ea eb a b q hC ha hb h
  cases h
  refine xcL_ok hC (xe_add ha hb) ?_
  rw [Int64.toInt_add]
  congr 1
  show _ = a.toInt + 1 * b.toInt
  omega
theorem xlsub_ok : ∀ (ρ : List Int) (C : xC) (ea eb : xl) (a b : Int64) (q : xC × xl), xCok ρ C → xe ρ ea = some a.toInt → xe ρ eb = some b.toInt → xlsub C ea eb = some q → xR ρ q (a - b).toInt := by
  intro ρ C ea eb a b q hC ha hb h
  cases h
  refine xcL_ok hC (xe_add ha hb) ?_
  rw [Int64.toInt_sub]
  congr 1
  show _ = a.toInt + (-1) * b.toInt
  omega
theorem xlany_ok (F : Int64 → Int64 → Int64) : ∀ (ρ : List Int) (C : xC) (ea eb : xl) (a b : Int64) (q : xC × xl), xCok ρ C → xe ρ ea = some a.toInt → xe ρ eb = some b.toInt → xlany C ea eb = some q → xR ρ q (F a b).toInt := by
  intro ρ C ea eb a b q hC ha hb h
  cases h
  exact xR_fL hC _
theorem xcmp_sgn (a b : Int64) : lg_cmp a b = xsgn (a.toInt + Int.negSucc 0 * b.toInt) := by
  have e : a.toInt + Int.negSucc 0 * b.toInt = a.toInt - b.toInt := by
    show a.toInt + (-1) * b.toInt = _
    omega
  rw [e]
  unfold lg_cmp xsgn
  by_cases h1 : a > b
  · have h1' : b.toInt < a.toInt := Int64.lt_iff_toInt_lt.mp h1
    rw [if_pos h1, if_neg (by omega), if_neg (by omega)]
  · have h1' : ¬ b.toInt < a.toInt := fun h => h1 (Int64.lt_iff_toInt_lt.mpr h)
    rw [if_neg h1]
    by_cases h2 : a = b
    · subst h2
      rw [if_pos rfl, if_neg (by omega), if_pos (by omega)]
    · have h2' : a.toInt ≠ b.toInt := fun h => h2 (Int64.toInt_inj.mp h)
      rw [if_neg h2, if_pos (by omega)]
section XPK
variable {ρ : List Int} {σ : List Nat} {C : xC} {ls : xLS} {st : List xv} {lc : zm_L} {sc : List Value} {q : xPR} {x : zm_X}
theorem xw2_cat {a : xv} {v : Value} (h : xc ρ σ a v) (hw : xw2 a = false) : Nat.beq v.category 1 = true := by
  rw [xc_cat h, hw]
  rfl
theorem xw2_cat2 {a : xv} {v : Value} (h : xc ρ σ a v) (hw : xw2 a = true) : Nat.beq v.category 2 = true := by
  rw [xc_cat h, hw]
  rfl
theorem xp_lneg (hC : xCok ρ C) (hl : xlk ρ σ ls lc) (hs : xsk ρ σ st sc) (h : xp .lneg x C ls st = some q) : xP ρ σ q (zm_pure .lneg x lc sc) := by
  simp only [xp] at h
  split at h
  · rename_i a t
    obtain ⟨v, s, rfl, hc, hs'⟩ := xsk_cons hs
    cases ht : Nat.beq a.1 1 with
    | false => rw [ht] at h; cases h
    | true =>
      rw [ht] at h
      cases h
      obtain ⟨i, rfl, he⟩ := xc_L hc ht
      exact xP_R (f := xL) (xR_fL hC _) hl hs' (fun r hr => ⟨_, rfl, hr⟩)
  · cases h
theorem xp_i2l (hC : xCok ρ C) (hl : xlk ρ σ ls lc) (hs : xsk ρ σ st sc) (h : xp .i2l x C ls st = some q) : xP ρ σ q (zm_pure .i2l x lc sc) := by
  simp only [xp] at h
  split at h
  · rename_i a t
    obtain ⟨v, s, rfl, hc, hs'⟩ := xsk_cons hs
    cases ht : Nat.beq a.1 0 with
    | false => rw [ht] at h; cases h
    | true =>
      rw [ht] at h
      cases h
      obtain ⟨i, rfl, he⟩ := xc_i hc ht
      exact xP_id hC hl ⟨⟨_, rfl, by rw [Int32.toInt_toInt64]; exact he⟩, hs'⟩
  · cases h
theorem xp_l2i (hC : xCok ρ C) (hl : xlk ρ σ ls lc) (hs : xsk ρ σ st sc) (h : xp .l2i x C ls st = some q) : xP ρ σ q (zm_pure .l2i x lc sc) := by
  simp only [xp] at h
  split at h
  · rename_i a t
    obtain ⟨v, s, rfl, hc, hs'⟩ := xsk_cons hs
    cases ht : Nat.beq a.1 1 with
    | false => rw [ht] at h; cases h
    | true =>
      rw [ht] at h
      cases h
      obtain ⟨i, rfl, he⟩ := xc_L hc ht
      exact xP_R (f := xi) (xci_ok hC he (Int64.toInt_toInt32 i)) hl hs' (fun r hr => ⟨_, rfl, hr⟩)
  · cases h
theorem xp_lcmp (hC : xCok ρ C) (hl : xlk ρ σ ls lc) (hs : xsk ρ σ st sc) (h : xp .lcmp x C ls st = some q) : xP ρ σ q (zm_pure .lcmp x lc sc) := by
  simp only [xp] at h
  split at h
  · rename_i b a t
    obtain ⟨vb, s1, rfl, hb, hs1⟩ := xsk_cons hs
    obtain ⟨va, s2, rfl, ha, hs2⟩ := xsk_cons hs1
    cases ht : Nat.beq a.1 1 && Nat.beq b.1 1 with
    | false => rw [ht] at h; cases h
    | true =>
      rw [ht] at h
      simp only [Bool.and_eq_true] at ht
      cases h
      obtain ⟨ia, rfl, ea⟩ := xc_L ha ht.1
      obtain ⟨ib, rfl, eb⟩ := xc_L hb ht.2
      refine xP_id hC hl ⟨⟨_, ?_, xe_add ea eb⟩, hs2⟩
      show Value.int (lg_cmp ia ib) = _
      rw [xcmp_sgn]
  · cases h
theorem xp_lshl (hC : xCok ρ C) (hl : xlk ρ σ ls lc) (hs : xsk ρ σ st sc) (h : xp .lshl x C ls st = some q) : xP ρ σ q (zm_pure .lshl x lc sc) := by
  simp only [xp] at h
  split at h
  · rename_i b a t
    obtain ⟨vb, s1, rfl, hb, hs1⟩ := xsk_cons hs
    obtain ⟨va, s2, rfl, ha, hs2⟩ := xsk_cons hs1
    cases ht : Nat.beq a.1 1 && Nat.beq b.1 0 with
    | false => rw [ht] at h; cases h
    | true =>
      rw [ht] at h
      simp only [Bool.and_eq_true] at ht
      cases h
      obtain ⟨ia, rfl, ea⟩ := xc_L ha ht.1
      obtain ⟨ib, rfl, eb⟩ := xc_i hb ht.2
      exact xP_R (f := xL) (xR_fL hC _) hl hs2 (fun r hr => ⟨_, rfl, hr⟩)
  · cases h
theorem xp_dup (hC : xCok ρ C) (hl : xlk ρ σ ls lc) (hs : xsk ρ σ st sc) (h : xp .dup x C ls st = some q) : xP ρ σ q (zm_pure .dup x lc sc) := by
  simp only [xp] at h
  split at h
  · rename_i a t
    obtain ⟨v, s, rfl, hc, hs'⟩ := xsk_cons hs
    cases ht : xw2 a with
    | true => rw [ht] at h; cases h
    | false =>
      rw [ht] at h
      cases h
      simp only [zm_pure, zm_dup, xw2_cat hc ht, cond_true]
      exact xP_id hC hl ⟨hc, hc, hs'⟩
  · cases h
theorem xp_dx1 (hC : xCok ρ C) (hl : xlk ρ σ ls lc) (hs : xsk ρ σ st sc) (h : xp .dup_x1 x C ls st = some q) : xP ρ σ q (zm_pure .dup_x1 x lc sc) := by
  simp only [xp] at h
  split at h
  · rename_i a b t
    obtain ⟨va, s1, rfl, ha, hs1⟩ := xsk_cons hs
    obtain ⟨vb, s2, rfl, hb, hs2⟩ := xsk_cons hs1
    cases ht : xw2 a || xw2 b with
    | true => rw [ht] at h; cases h
    | false =>
      rw [ht] at h
      cases h
      obtain ⟨h1, h2⟩ := Bool.or_eq_false_iff.mp ht
      simp only [zm_pure, zm_dx1, xw2_cat ha h1, xw2_cat hb h2, Bool.and_self, cond_true]
      exact xP_id hC hl ⟨ha, hb, ha, hs2⟩
  · cases h
theorem xp_dup2 (hC : xCok ρ C) (hl : xlk ρ σ ls lc) (hs : xsk ρ σ st sc) (h : xp .dup2 x C ls st = some q) : xP ρ σ q (zm_pure .dup2 x lc sc) := by
  simp only [xp] at h
  split at h
  · rename_i a b t
    obtain ⟨va, s1, rfl, ha, hs1⟩ := xsk_cons hs
    obtain ⟨vb, s2, rfl, hb, hs2⟩ := xsk_cons hs1
    cases ht : xw2 a || xw2 b with
    | true => rw [ht] at h; cases h
    | false =>
      rw [ht] at h
      cases h
      obtain ⟨h1, h2⟩ := Bool.or_eq_false_iff.mp ht
      simp only [zm_pure, zm_dup2, xw2_cat ha h1, xw2_cat hb h2, Bool.and_self, cond_true]
      exact xP_id hC hl ⟨ha, hb, ha, hb, hs2⟩
  · cases h
theorem xp_pop (hC : xCok ρ C) (hl : xlk ρ σ ls lc) (hs : xsk ρ σ st sc) (h : xp .pop x C ls st = some q) : xP ρ σ q (zm_pure .pop x lc sc) := by
  simp only [xp] at h
  split at h
  · rename_i a t
    obtain ⟨v, s, rfl, hc, hs'⟩ := xsk_cons hs
    cases ht : xw2 a with
    | true => rw [ht] at h; cases h
    | false =>
      rw [ht] at h
      cases h
      simp only [zm_pure, zm_pop, xw2_cat hc ht, cond_true]
      exact xP_id hC hl hs'
  · cases h
theorem xp_pop2 (hC : xCok ρ C) (hl : xlk ρ σ ls lc) (hs : xsk ρ σ st sc) (h : xp .pop2 x C ls st = some q) : xP ρ σ q (zm_pure .pop2 x lc sc) := by
  simp only [xp] at h
  split at h
  · rename_i a t
    obtain ⟨v, s, rfl, hc, hs'⟩ := xsk_cons hs
    cases ht : xw2 a with
    | false => rw [ht] at h; cases h
    | true =>
      rw [ht] at h
      cases h
      simp only [zm_pure, zm_pop2, xw2_cat2 hc ht, cond_true]
      exact xP_id hC hl hs'
  · cases h
theorem xp_ok {i : Jvm.ClassFile.Instr} (hC : xCok ρ C) (hl : xlk ρ σ ls lc) (hs : xsk ρ σ st sc) (h : xp i x C ls st = some q) : xP ρ σ q (zm_pure i x lc sc) := by
  cases i with
  | iconst k => exact xpush_ok hC hl hs h
  | bipush k => exact xpush_ok hC hl hs h
  | sipush k => exact xpush_ok hC hl hs h
  | lconst k => exact xpush_ok hC hl hs h
  | ldc k => exact xpush_ok hC hl hs h
  | ldc_w k => exact xpush_ok hC hl hs h
  | ldc2_w k => exact xpush_ok hC hl hs h
  | aconst_null => cases h; exact xP_id hC hl ⟨rfl, hs⟩
  | iload k => exact xldi_ok hC hl hs h
  | iload_n k => exact xldi_ok hC hl hs h
  | lload k => exact xldl_ok hC hl hs h
  | lload_n k => exact xldl_ok hC hl hs h
  | aload k => exact xlda_ok hC hl hs h
  | aload_n k => exact xlda_ok hC hl hs h
  | istore k => exact xsti_ok hC hl hs h
  | istore_n k => exact xsti_ok hC hl hs h
  | lstore k => exact xstl_ok hC hl hs h
  | lstore_n k => exact xstl_ok hC hl hs h
  | astore k => exact xsta_ok hC hl hs h
  | astore_n k => exact xsta_ok hC hl hs h
  | iinc k c => exact xiinc_ok hC hl hs h
  | iadd => exact x2_ok xo_add_ok hC hl hs h
  | isub => exact x2_ok xo_sub_ok hC hl hs h
  | imul => exact x2_ok xo_mul_ok hC hl hs h
  | iand => exact x2_ok xo_and_ok hC hl hs h
  | ior => exact x2_ok xo_or_ok hC hl hs h
  | ixor => exact x2_ok xo_xor_ok hC hl hs h
  | ishl => exact x2_ok xo_shl_ok hC hl hs h
  | ishr => exact x2_ok xo_shr_ok hC hl hs h
  | iushr => exact x2_ok (xo_any_ok _) hC hl hs h
  | idiv => exact x2z_ok xo_div_ok.1 xo_div_ok.2 hC hl hs h
  | irem => exact x2z_ok xo_rem_ok.1 xo_rem_ok.2 hC hl hs h
  | ineg => exact x1_ok xneg_ok hC hl hs h
  | i2b => exact x1_ok (xto_ok xi2b_ok) hC hl hs h
  | i2s => exact x1_ok (xto_ok xi2s_ok) hC hl hs h
  | i2c => exact x1_ok (xto_ok (F := fun a => (a.toUInt32 % 65536).toInt32) xb_i2c) hC hl hs h
  | ladd => exact x2L_ok xladd_ok hC hl hs h
  | lsub => exact x2L_ok xlsub_ok hC hl hs h
  | lmul => exact x2L_ok (xlany_ok _) hC hl hs h
  | land => exact x2L_ok (xlany_ok _) hC hl hs h
  | lor => exact x2L_ok (xlany_ok _) hC hl hs h
  | ldiv => exact x2Lz_ok hC hl hs h
  | lneg => exact xp_lneg hC hl hs h
  | i2l => exact xp_i2l hC hl hs h
  | l2i => exact xp_l2i hC hl hs h
  | lcmp => exact xp_lcmp hC hl hs h
  | lshl => exact xp_lshl hC hl hs h
  | dup => exact xp_dup hC hl hs h
  | dup_x1 => exact xp_dx1 hC hl hs h
  | dup2 => exact xp_dup2 hC hl hs h
  | pop => exact xp_pop hC hl hs h
  | pop2 => exact xp_pop2 hC hl hs h
  | _ => cases h
end XPK
end
section
/-! Sixth part: jumps -/
def xop (o : Option xN) : List xN := match o with
  | some n => [n]
  | none => []
def xng (e : xl) : xl := xsc (.negSucc 0) e
def xm1 (e : xl) : xl := xpl (.negSucc 0) e
def xfk (n : xN) (e : xl) (c : Jvm.ClassFile.Cond) : List xN := match c with
  | .eq => (match xas n e with
    | some n1 => xop (xas n1 (xng e))
    | none => [])
  | .ne => xop (xas n (xm1 e)) ++ xop (xas n (xm1 (xng e)))
  | .lt => xop (xas n (xm1 (xng e)))
  | .ge => xop (xas n e)
  | .gt => xop (xas n (xm1 e))
  | .le => xop (xas n (xng e))
def xhd (c : Jvm.ClassFile.Cond) (z : Int) : Prop := match c with
  | .eq => z = 0
  | .ne => z ≠ 0
  | .lt => z < 0
  | .ge => 0 ≤ z
  | .gt => 0 < z
  | .le => z ≤ 0
def xopp (c : Jvm.ClassFile.Cond) : Jvm.ClassFile.Cond := match c with
  | .eq => .ne
  | .ne => .eq
  | .lt => .ge
  | .ge => .lt
  | .gt => .le
  | .le => .gt
theorem xe_ng {ρ : List Int} {e : xl} {z : Int} (h : xe ρ e = some z) : xe ρ (xng e) = some (-z) := by
  have := xe_sc (.negSucc 0) h
  rw [show Int.negSucc 0 * z = -z from by show (-1) * z = -z; omega] at this
  exact this
theorem xe_m1 {ρ : List Int} {e : xl} {z : Int} (h : xe ρ e = some z) : xe ρ (xm1 e) = some (z - 1) := by
  have := xe_pl (.negSucc 0) h
  rw [show z + Int.negSucc 0 = z - 1 from by show z + (-1) = z - 1; omega] at this
  exact this
theorem xop_ok {ρ : List Int} {n : xN} {e : xl} {z : Int} (hn : xnok ρ n) (he : xe ρ e = some z) (h0 : 0 ≤ z) : ∃ n' ∈ xop (xas n e), xnok ρ n' := by
  obtain ⟨n', h1, h2⟩ := xas_ok hn he h0
  rw [h1]
  exact ⟨n', List.mem_singleton.mpr rfl, h2⟩
theorem xfk_ok {ρ : List Int} {n : xN} {e : xl} {z : Int} (hn : xnok ρ n) (he : xe ρ e = some z) {c : Jvm.ClassFile.Cond} (hc : xhd c z) : ∃ n' ∈ xfk n e c, xnok ρ n' := by
  cases c with
  | eq =>
    have hc : z = 0 := hc
    obtain ⟨n1, h1, h2⟩ := xas_ok hn he (by omega)
    simp only [xfk, h1]
    exact xop_ok h2 (xe_ng he) (by omega)
  | ne =>
    have hc : z ≠ 0 := hc
    simp only [xfk]
    by_cases h : 0 < z
    · obtain ⟨n', h1, h2⟩ := xop_ok hn (xe_m1 he) (by omega)
      exact ⟨n', List.mem_append_left _ h1, h2⟩
    · obtain ⟨n', h1, h2⟩ := xop_ok hn (xe_m1 (xe_ng he)) (by omega)
      exact ⟨n', List.mem_append_right _ h1, h2⟩
  | lt => have hc : z < 0 := hc; exact xop_ok hn (xe_m1 (xe_ng he)) (by omega)
  | ge => have hc : 0 ≤ z := hc; exact xop_ok hn he hc
  | gt => have hc : 0 < z := hc; exact xop_ok hn (xe_m1 he) (by omega)
  | le => have hc : z ≤ 0 := hc; exact xop_ok hn (xe_ng he) (by omega)
theorem xhd_opp (c : Jvm.ClassFile.Cond) (z : Int) : xhd c z ∨ xhd (xopp c) z := by
  cases c with
  | eq => show z = 0 ∨ z ≠ 0; omega
  | ne => show z ≠ 0 ∨ z = 0; omega
  | lt => show z < 0 ∨ 0 ≤ z; omega
  | ge => show 0 ≤ z ∨ z < 0; omega
  | gt => show 0 < z ∨ z ≤ 0; omega
  | le => show z ≤ 0 ∨ 0 < z; omega
theorem xhd_not {c : Jvm.ClassFile.Cond} {z : Int} (h : xhd (xopp c) z) : ¬ xhd c z := by
  cases c with
  | eq => have h : z ≠ 0 := h; exact h
  | ne => have h : z = 0 := h; show ¬ z ≠ 0; omega
  | lt => have h : 0 ≤ z := h; show ¬ z < 0; omega
  | ge => have h : z < 0 := h; show ¬ 0 ≤ z; omega
  | gt => have h : z ≤ 0 := h; show ¬ 0 < z; omega
  | le => have h : 0 < z := h; show ¬ z ≤ 0; omega
abbrev xBR : Type := xC × Nat × List xv
/-- both ways of a test of e against 0 -/
def xtw (C : xC) (e : xl) (c : Jvm.ClassFile.Cond) (t f : Nat) (st : List xv) : List xBR := (xfk C.1 e c).map (fun n => ((n, C.2), t, st)) ++ (xfk C.1 e (xopp c)).map (fun n => ((n, C.2), f, st))
theorem xtw_ok {ρ : List Int} {C : xC} {e : xl} {z : Int} (hC : xCok ρ C) (he : xe ρ e = some z) (c : Jvm.ClassFile.Cond) (t f : Nat) (st : List xv) {pc : Nat} (hp : pc = t ∧ xhd c z ∨ pc = f ∧ ¬ xhd c z) : ∃ s ∈ xtw C e c t f st, s.2.1 = pc ∧ xCok ρ s.1 ∧ s.2.2 = st := by
  rcases hp with ⟨rfl, h⟩ | ⟨rfl, h⟩
  · obtain ⟨n, h1, h2⟩ := xfk_ok hC.1 he h
    exact ⟨((n, C.2), pc, st), List.mem_append_left _ (List.mem_map.mpr ⟨n, h1, rfl⟩), rfl, ⟨h2, hC.2⟩, rfl⟩
  · obtain ⟨n, h1, h2⟩ := xfk_ok hC.1 he ((xhd_opp c z).resolve_left h)
    exact ⟨((n, C.2), pc, st), List.mem_append_right _ (List.mem_map.mpr ⟨n, h1, rfl⟩), rfl, ⟨h2, hC.2⟩, rfl⟩
def xtab (C : xC) (e : xl) (pc : Nat) (st : List xv) : Int → List Int → List xBR
  | _, [] => []
  | k, o :: t => (xfk C.1 (xpl (-k) e) .eq).map (fun n => ((n, C.2), ((pc : Int) + o).toNat, st)) ++ xtab C e pc st (k + 1) t
/-- a word -/
def xiw (a : xv) : Bool := match a.1 with
  | 5 => zm_isw a.2.2
  | 7 => true
  | _ => false
def xb (i : Jvm.ClassFile.Instr) (x : zm_X) (pc : Nat) (C : xC) (st : List xv) : Option (List xBR) := match i with
  | .goto _ => some [(C, x.1, st)]
  | .ifCond c _ => (match st with
    | a :: t => bif Nat.beq a.1 0 || Nat.beq a.1 6 then some (xtw C a.2.1 c x.1 (pc + 3) t) else none
    | _ => none)
  | .if_icmp c _ => (match st with
    | b :: a :: t => bif Nat.beq a.1 0 && Nat.beq b.1 0 then some (xtw C (xadd (.negSucc 0) a.2.1 b.2.1) c x.1 (pc + 3) t) else none
    | _ => none)
  | .if_acmp _ _ => (match st with
    | b :: a :: t => bif (Nat.ble 2 a.1 && Nat.ble a.1 4) && (Nat.ble 2 b.1 && Nat.ble b.1 4) then some [(C, x.1, t), (C, pc + 3, t)] else bif xiw a && xiw b then some [(C, x.1, t), (C, pc + 3, t)] else none
    | _ => none)
  | .ifnull _ => (match st with
    | a :: t => (match a.1 with
      | 2 => some [(C, x.1, t)]
      | 3 => some [(C, pc + 3, t)]
      | 4 => some [(C, pc + 3, t)]
      | 5 => some [(C, pc + 3, t)]
      | 7 => some [(C, pc + 3, t)]
      | _ => none)
    | _ => none)
  | .ifnonnull _ => (match st with
    | a :: t => (match a.1 with
      | 2 => some [(C, pc + 3, t)]
      | 3 => some [(C, x.1, t)]
      | 4 => some [(C, x.1, t)]
      | 5 => some [(C, x.1, t)]
      | 7 => some [(C, x.1, t)]
      | _ => none)
    | _ => none)
  | .tableswitch d lo hi offs => (match st with
    | a :: t => bif Nat.beq a.1 0 && decide (hi - lo + 1 = (offs.toList.length : Int)) then some (xtab C a.2.1 pc t lo offs.toList ++ ((xfk C.1 (xpl (-lo) a.2.1) .lt).map (fun n => ((n, C.2), ((pc : Int) + d).toNat, t)) ++ (xfk C.1 (xpl (-hi) a.2.1) .gt).map (fun n => ((n, C.2), ((pc : Int) + d).toNat, t)))) else none
    | _ => none)
  | _ => none
theorem xtab_ok {ρ : List Int} {C : xC} {e : xl} {z : Int} (hC : xCok ρ C) (he : xe ρ e = some z) (pc : Nat) (st : List xv) : ∀ {l : List Int} {k : Int} {i : Nat} {o : Int}, l[i]? = some o → z = k + i → ∃ s ∈ xtab C e pc st k l, s.2.1 = ((pc : Int) + o).toNat ∧ xCok ρ s.1 ∧ s.2.2 = st
  | [], k, i, o, h, _ => by simp at h
  | o' :: t, k, 0, o, h, hz => by
    simp only [List.getElem?_cons_zero, Option.some.injEq] at h
    subst h
    obtain ⟨n, h1, h2⟩ := xfk_ok (c := .eq) hC.1 (xe_pl (-k) he) (by show z + -k = 0; omega)
    exact ⟨_, List.mem_append_left _ (List.mem_map.mpr ⟨n, h1, rfl⟩), rfl, ⟨h2, hC.2⟩, rfl⟩
  | o' :: t, k, i + 1, o, h, hz => by
    rw [List.getElem?_cons_succ] at h
    obtain ⟨s, h1, h2⟩ := xtab_ok hC he pc st (k := k + 1) h (by omega)
    exact ⟨s, List.mem_append_right _ h1, h2⟩
theorem xsgn_hd (c : Jvm.ClassFile.Cond) (z : Int) (t f : Nat) : zm_if c (xsgn z) t f = t ∧ xhd c z ∨ zm_if c (xsgn z) t f = f ∧ ¬ xhd c z := by
  unfold xsgn
  by_cases h1 : z < 0
  · rw [if_pos h1]
    cases c with
    | eq => right; exact ⟨rfl, by show ¬ z = 0; omega⟩
    | ne => left; exact ⟨rfl, by show z ≠ 0; omega⟩
    | lt => left; exact ⟨rfl, h1⟩
    | ge => right; exact ⟨rfl, by show ¬ 0 ≤ z; omega⟩
    | gt => right; exact ⟨rfl, by show ¬ 0 < z; omega⟩
    | le => left; exact ⟨rfl, by show z ≤ 0; omega⟩
  · rw [if_neg h1]
    by_cases h2 : z = 0
    · rw [if_pos h2]
      cases c with
      | eq => left; exact ⟨rfl, h2⟩
      | ne => right; exact ⟨rfl, by show ¬ z ≠ 0; omega⟩
      | lt => right; exact ⟨rfl, h1⟩
      | ge => left; exact ⟨rfl, by show 0 ≤ z; omega⟩
      | gt => right; exact ⟨rfl, by show ¬ 0 < z; omega⟩
      | le => left; exact ⟨rfl, by show z ≤ 0; omega⟩
    · rw [if_neg h2]
      cases c with
      | eq => right; exact ⟨rfl, h2⟩
      | ne => left; exact ⟨rfl, h2⟩
      | lt => right; exact ⟨rfl, h1⟩
      | ge => left; exact ⟨rfl, by show 0 ≤ z; omega⟩
      | gt => left; exact ⟨rfl, by show 0 < z; omega⟩
      | le => right; exact ⟨rfl, by show ¬ z ≤ 0; omega⟩
theorem xic_hd (c : Jvm.ClassFile.Cond) (a b : Int32) (t f : Nat) : zm_ic c a b t f = t ∧ xhd c (a.toInt - b.toInt) ∨ zm_ic c a b t f = f ∧ ¬ xhd c (a.toInt - b.toInt) := by
  cases c with
  | eq =>
    by_cases h : a = b
    · left; subst h; exact ⟨if_pos rfl, by show a.toInt - a.toInt = 0; omega⟩
    · right; exact ⟨if_neg h, fun h2 => h (Int32.toInt_inj.mp (by have h2 : a.toInt - b.toInt = 0 := h2; omega))⟩
  | ne =>
    by_cases h : a = b
    · right; subst h; exact ⟨if_pos rfl, by show ¬ a.toInt - a.toInt ≠ 0; omega⟩
    · left; exact ⟨if_neg h, fun h2 => h (Int32.toInt_inj.mp (by have h2 : a.toInt - b.toInt = 0 := h2; omega))⟩
  | lt =>
    by_cases h : a < b
    · left; exact ⟨if_pos h, by have := Int32.lt_iff_toInt_lt.mp h; show a.toInt - b.toInt < 0; omega⟩
    · right; exact ⟨if_neg h, fun h2 => h (Int32.lt_iff_toInt_lt.mpr (by have h2 : a.toInt - b.toInt < 0 := h2; omega))⟩
  | ge =>
    by_cases h : b ≤ a
    · left; exact ⟨if_pos h, by have := Int32.le_iff_toInt_le.mp h; show 0 ≤ a.toInt - b.toInt; omega⟩
    · right; exact ⟨if_neg h, fun h2 => h (Int32.le_iff_toInt_le.mpr (by have h2 : 0 ≤ a.toInt - b.toInt := h2; omega))⟩
  | gt =>
    by_cases h : b < a
    · left; exact ⟨if_pos h, by have := Int32.lt_iff_toInt_lt.mp h; show 0 < a.toInt - b.toInt; omega⟩
    · right; exact ⟨if_neg h, fun h2 => h (Int32.lt_iff_toInt_lt.mpr (by have h2 : 0 < a.toInt - b.toInt := h2; omega))⟩
  | le =>
    by_cases h : a ≤ b
    · left; exact ⟨if_pos h, by have := Int32.le_iff_toInt_le.mp h; show a.toInt - b.toInt ≤ 0; omega⟩
    · right; exact ⟨if_neg h, fun h2 => h (Int32.le_iff_toInt_le.mpr (by have h2 : a.toInt - b.toInt ≤ 0 := h2; omega))⟩
theorem xif_hd (c : Jvm.ClassFile.Cond) (a : Int32) (t f : Nat) : zm_if c a t f = t ∧ xhd c a.toInt ∨ zm_if c a t f = f ∧ ¬ xhd c a.toInt := by
  have e : zm_if c a t f = zm_ic c a 0 t f := by cases c <;> rfl
  have := xic_hd c a 0 t f
  rw [e]
  have e0 : a.toInt - (0 : Int32).toInt = a.toInt := by
    have : (0 : Int32).toInt = 0 := rfl
    omega
  rwa [e0] at this
/-- where a jump goes -/
def xB (ρ : List Int) (σ : List Nat) (l : List xBR) (z : Option (Nat × List Value)) : Prop := ∃ (pc : Nat) (sc : List Value), z = some (pc, sc) ∧ ∃ s ∈ l, s.2.1 = pc ∧ xCok ρ s.1 ∧ xsk ρ σ s.2.2 sc
section XBK
variable {ρ : List Int} {σ : List Nat} {C : xC} {st : List xv} {sc : List Value} {l : List xBR} {x : zm_X} {pc : Nat}
theorem xc_rf {a : xv} {v : Value} (h : xc ρ σ a v) (ht : (Nat.ble 2 a.1 && Nat.ble a.1 4) = true) : ∃ o, zm_rf v = some o := by
  obtain ⟨t, e, n⟩ := a
  simp only [Bool.and_eq_true, Nat.ble_eq] at ht
  rcases (show t = 2 ∨ t = 3 ∨ t = 4 by omega) with rfl | rfl | rfl
  · have h : v = .null := h; subst h; exact ⟨none, rfl⟩
  · have h : v = .ref n := h; subst h; exact ⟨some n, rfl⟩
  · obtain ⟨b, -, rfl⟩ := h; exact ⟨some b, rfl⟩
theorem xiw_ok {a : xv} {v : Value} (h : xc ρ σ a v) (ht : xiw a = true) : ∃ j, v = .retAddr j ∧ zm_isw j = true := by
  obtain ⟨t, e, n⟩ := a
  unfold xiw at ht
  split at ht
  · rename_i h2; have h2 : t = 5 := h2; subst h2; exact ⟨n, h, ht⟩
  · rename_i h2; have h2 : t = 7 := h2; subst h2; obtain ⟨x, j, -, h3, rfl⟩ := h; exact ⟨j, rfl, xw_is h3⟩
  · cases ht
theorem xac2 (c : Jvm.ClassFile.ACond) (oa ob : Option Nat) (t f : Nat) : zm_ac c oa ob t f = t ∨ zm_ac c oa ob t f = f := by
  cases c with
  | eq => by_cases h : oa = ob
          · left; exact if_pos h
          · right; exact if_neg h
  | ne => by_cases h : oa = ob
          · right; exact if_pos h
          · left; exact if_neg h
theorem xc_rf2 {a : xv} {v : Value} (h : xc ρ σ a v) (ht : (Nat.ble 2 a.1 && Nat.ble a.1 4) = true) : ∀ j, v ≠ .retAddr j := by
  obtain ⟨t, e, n⟩ := a
  simp only [Bool.and_eq_true, Nat.ble_eq] at ht
  rcases (show t = 2 ∨ t = 3 ∨ t = 4 by omega) with rfl | rfl | rfl
  · have h : v = .null := h; subst h; intro j z; cases z
  · have h : v = .ref n := h; subst h; intro j z; cases z
  · obtain ⟨b, -, rfl⟩ := h; intro j z; cases z
theorem xb_ok {i : Jvm.ClassFile.Instr} (hC : xCok ρ C) (hs : xsk ρ σ st sc) (h : xb i x pc C st = some l) : xB ρ σ l (zm_br i x pc sc) := by
  cases i with
  | goto k =>
    cases h
    exact ⟨x.1, sc, rfl, _, List.mem_singleton.mpr rfl, rfl, hC, hs⟩
  | ifCond c k =>
    simp only [xb] at h
    split at h
    · rename_i a t
      obtain ⟨v, s, rfl, hc, hs'⟩ := xsk_cons hs
      cases h1 : Nat.beq a.1 0 || Nat.beq a.1 6 with
      | false => rw [h1] at h; cases h
      | true =>
        rw [h1] at h
        cases h
        obtain ⟨tg, e, n⟩ := a
        rcases Bool.or_eq_true_iff.mp h1 with h2 | h2
        · obtain ⟨i, rfl, he⟩ := xc_i hc h2
          obtain ⟨s1, k1, k2, k3, k4⟩ := xtw_ok hC he c x.1 (pc + 3) t (xif_hd c i x.1 (pc + 3))
          exact ⟨_, s, rfl, s1, k1, k2, k3, by rw [k4]; exact hs'⟩
        · have h2 : tg = 6 := Nat.eq_of_beq_eq_true h2
          subst h2
          obtain ⟨z, rfl, he⟩ := hc
          obtain ⟨s1, k1, k2, k3, k4⟩ := xtw_ok hC he c x.1 (pc + 3) t (xsgn_hd c z x.1 (pc + 3))
          exact ⟨_, s, rfl, s1, k1, k2, k3, by rw [k4]; exact hs'⟩
    · cases h
  | if_icmp c k =>
    simp only [xb] at h
    split at h
    · rename_i b a t
      obtain ⟨vb, s1, rfl, hb, hs1⟩ := xsk_cons hs
      obtain ⟨va, s2, rfl, ha, hs2⟩ := xsk_cons hs1
      cases ht : Nat.beq a.1 0 && Nat.beq b.1 0 with
      | false => rw [ht] at h; cases h
      | true =>
        rw [ht] at h
        simp only [Bool.and_eq_true] at ht
        cases h
        obtain ⟨ia, rfl, ea⟩ := xc_i ha ht.1
        obtain ⟨ib, rfl, eb⟩ := xc_i hb ht.2
        have he := xe_add (k := .negSucc 0) ea eb
        rw [show ia.toInt + Int.negSucc 0 * ib.toInt = ia.toInt - ib.toInt from by show ia.toInt + (-1) * ib.toInt = _; omega] at he
        obtain ⟨s3, k1, k2, k3, k4⟩ := xtw_ok hC he c x.1 (pc + 3) t (xic_hd c ia ib x.1 (pc + 3))
        exact ⟨_, s2, rfl, s3, k1, k2, k3, by rw [k4]; exact hs2⟩
    · cases h
  | if_acmp c k =>
    simp only [xb] at h
    split at h
    · rename_i b a t
      obtain ⟨vb, s1, rfl, hb, hs1⟩ := xsk_cons hs
      obtain ⟨va, s2, rfl, ha, hs2⟩ := xsk_cons hs1
      cases ht : (Nat.ble 2 a.1 && Nat.ble a.1 4) && (Nat.ble 2 b.1 && Nat.ble b.1 4) with
      | false =>
        rw [ht] at h
        simp only [cond_false] at h
        cases hw : xiw a && xiw b with
        | false => rw [hw] at h; cases h
        | true =>
          rw [hw] at h
          cases h
          obtain ⟨h1, h2⟩ := Bool.and_eq_true_iff.mp hw
          obtain ⟨ja, rfl, wa⟩ := xiw_ok ha h1
          obtain ⟨jb, rfl, wb⟩ := xiw_ok hb h2
          have e : zm_br (.if_acmp c k) x pc (.retAddr jb :: .retAddr ja :: s2) = some (zm_ac c (some ja) (some jb) x.1 (pc + 3), s2) := by
            simp only [zm_br, wa, wb, Bool.and_self, cond_true]
          rw [e]
          rcases xac2 c (some ja) (some jb) x.1 (pc + 3) with hz | hz
          · exact ⟨_, s2, rfl, _, List.mem_cons_self, hz.symm, hC, hs2⟩
          · exact ⟨_, s2, rfl, _, List.mem_cons_of_mem _ (List.mem_singleton.mpr rfl), hz.symm, hC, hs2⟩
      | true =>
        rw [ht] at h
        cases h
        obtain ⟨h1, h2⟩ := Bool.and_eq_true_iff.mp ht
        obtain ⟨oa, ea⟩ := xc_rf ha h1
        obtain ⟨ob, eb⟩ := xc_rf hb h2
        have e : zm_br (.if_acmp c k) x pc (vb :: va :: s2) = some (zm_ac c oa ob x.1 (pc + 3), s2) := by
          have nb := xc_rf2 hb h2
          cases vb with
          | retAddr j => exact absurd rfl (nb j)
          | _ => simp only [zm_br, ea, eb]
        rw [e]
        have hz : zm_ac c oa ob x.1 (pc + 3) = x.1 ∨ zm_ac c oa ob x.1 (pc + 3) = pc + 3 := by
          cases c with
          | eq => by_cases h : oa = ob
                  · left; exact if_pos h
                  · right; exact if_neg h
          | ne => by_cases h : oa = ob
                  · right; exact if_pos h
                  · left; exact if_neg h
        rcases hz with hz | hz
        · exact ⟨_, s2, rfl, _, List.mem_cons_self, hz.symm, hC, hs2⟩
        · exact ⟨_, s2, rfl, _, List.mem_cons_of_mem _ (List.mem_singleton.mpr rfl), hz.symm, hC, hs2⟩
    · cases h
  | ifnull k =>
    simp only [xb] at h
    split at h
    · rename_i a t
      obtain ⟨v, s, rfl, hc, hs'⟩ := xsk_cons hs
      obtain ⟨tg, e, n⟩ := a
      split at h
      · rename_i h2; have h2 : tg = 2 := h2; subst h2; cases h; have hc : v = .null := hc; subst hc
        exact ⟨_, s, rfl, _, List.mem_singleton.mpr rfl, rfl, hC, hs'⟩
      · rename_i h2; have h2 : tg = 3 := h2; subst h2; cases h; have hc : v = .ref n := hc; subst hc
        exact ⟨_, s, rfl, _, List.mem_singleton.mpr rfl, rfl, hC, hs'⟩
      · rename_i h2; have h2 : tg = 4 := h2; subst h2; cases h; obtain ⟨b, -, rfl⟩ := hc
        exact ⟨_, s, rfl, _, List.mem_singleton.mpr rfl, rfl, hC, hs'⟩
      · rename_i h2; have h2 : tg = 5 := h2; subst h2; cases h; have hc : v = .retAddr n := hc; subst hc
        exact ⟨_, s, rfl, _, List.mem_singleton.mpr rfl, rfl, hC, hs'⟩
      · rename_i h2; have h2 : tg = 7 := h2; subst h2; cases h; obtain ⟨b, j, -, -, rfl⟩ := hc
        exact ⟨_, s, rfl, _, List.mem_singleton.mpr rfl, rfl, hC, hs'⟩
      · cases h
    · cases h
  | ifnonnull k =>
    simp only [xb] at h
    split at h
    · rename_i a t
      obtain ⟨v, s, rfl, hc, hs'⟩ := xsk_cons hs
      obtain ⟨tg, e, n⟩ := a
      split at h
      · rename_i h2; have h2 : tg = 2 := h2; subst h2; cases h; have hc : v = .null := hc; subst hc
        exact ⟨_, s, rfl, _, List.mem_singleton.mpr rfl, rfl, hC, hs'⟩
      · rename_i h2; have h2 : tg = 3 := h2; subst h2; cases h; have hc : v = .ref n := hc; subst hc
        exact ⟨_, s, rfl, _, List.mem_singleton.mpr rfl, rfl, hC, hs'⟩
      · rename_i h2; have h2 : tg = 4 := h2; subst h2; cases h; obtain ⟨b, -, rfl⟩ := hc
        exact ⟨_, s, rfl, _, List.mem_singleton.mpr rfl, rfl, hC, hs'⟩
      · rename_i h2; have h2 : tg = 5 := h2; subst h2; cases h; have hc : v = .retAddr n := hc; subst hc
        exact ⟨_, s, rfl, _, List.mem_singleton.mpr rfl, rfl, hC, hs'⟩
      · rename_i h2; have h2 : tg = 7 := h2; subst h2; cases h; obtain ⟨b, j, -, -, rfl⟩ := hc
        exact ⟨_, s, rfl, _, List.mem_singleton.mpr rfl, rfl, hC, hs'⟩
      · cases h
    · cases h
  | tableswitch d lo hi offs =>
    simp only [xb] at h
    split at h
    · rename_i a t
      obtain ⟨v, s, rfl, hc, hs'⟩ := xsk_cons hs
      cases h1 : Nat.beq a.1 0 && decide (hi - lo + 1 = (offs.toList.length : Int)) with
      | false => rw [h1] at h; cases h
      | true =>
        rw [h1] at h
        cases h
        obtain ⟨h2, h3⟩ := Bool.and_eq_true_iff.mp h1
        have h3 := of_decide_eq_true h3
        obtain ⟨j, rfl, he⟩ := xc_i hc h2
        show xB ρ σ _ (some (zm_tab pc d lo hi offs j, s))
        unfold zm_tab
        by_cases hd : j.toInt < lo ∨ hi < j.toInt
        · rw [if_pos hd]
          rcases hd with hd | hd
          · obtain ⟨n, k1, k2⟩ := xfk_ok (c := .lt) hC.1 (xe_pl (-lo) he) (by show j.toInt + -lo < 0; omega)
            exact ⟨_, s, rfl, _, List.mem_append_right _ (List.mem_append_left _ (List.mem_map.mpr ⟨n, k1, rfl⟩)), rfl, ⟨k2, hC.2⟩, hs'⟩
          · obtain ⟨n, k1, k2⟩ := xfk_ok (c := .gt) hC.1 (xe_pl (-hi) he) (by show 0 < j.toInt + -hi; omega)
            exact ⟨_, s, rfl, _, List.mem_append_right _ (List.mem_append_right _ (List.mem_map.mpr ⟨n, k1, rfl⟩)), rfl, ⟨k2, hC.2⟩, hs'⟩
        · rw [if_neg hd]
          have hlt : (j.toInt - lo).toNat < offs.toList.length := by omega
          have hg : offs.toList[(j.toInt - lo).toNat]? = some offs.toList[(j.toInt - lo).toNat] := List.getElem?_eq_getElem hlt
          have hg2 : offs[(j.toInt - lo).toNat]? = some offs.toList[(j.toInt - lo).toNat] := by
            rw [← Array.getElem?_toList]; exact hg
          rw [hg2]
          obtain ⟨s1, k1, k2, k3, k4⟩ := xtab_ok hC he pc t hg (k := lo) (by omega)
          exact ⟨_, s, rfl, s1, List.mem_append_left _ k1, k2, k3, by rw [k4]; exact hs'⟩
    · cases h
  | _ => cases h
end XBK
end
section
/-! Seventh part: cells and what is known of them -/
def xsat (τ : List Nat) (a : xA) (v : Value) : Prop := match a.1 with
  | 0 => ∃ i : Int32, v = .int i ∧ a.2.2.1 ≤ i.toInt ∧ i.toInt ≤ a.2.2.2
  | 1 => ∃ i : Int64, v = .long i
  | 2 => v = .null
  | 3 => v = .ref a.2.1
  | 4 => ∃ b, v = .ref b ∧ τ[b]? = some a.2.1
  | 5 => ∃ x j : Nat, xwh[x]? = some j ∧ v = .retAddr j
  | _ => False
def xjok (q : xJ) (j : Nat) : Prop := q.2.1 ≤ (j : Int) ∧ (j : Int) ≤ q.2.2.1 ∧ (q.2.2.2.1 = 0 ∨ j % q.2.2.2.1 = q.2.2.2.2)
def xka (t : Nat) (k : zm_K) : Prop := match t with
  | 0 => ∃ f, k = .inl f
  | 1 => ∃ f, k = .inr (.inl f)
  | 2 => ∃ f, k = .inl f
  | 3 => ∃ f, k = .inl f
  | _ => ∃ f, k = .inr (.inr f)
def xcf (τ : List Nat) (D : xKD) (c : zm_C) : Prop := match D with
  | .inl d => ∃ fs, c = .inr (d.1, fs) ∧ fs.length = d.2.length ∧ ∀ (f : Nat) (sp : List xA) (v : Value), d.2[f]? = some sp → fs[f]? = some v → ∃ a ∈ sp, xsat τ a v
  | .inr d => ∃ k, c = .inl (d.1, d.2.1, k) ∧ xka d.1 k ∧ ∀ j : Nat, j < d.2.1 → ∃ q ∈ d.2.2, xsat τ q.1 (zm_kv k j) ∧ xjok q j
theorem xsat_mono {τ s : List Nat} {a : xA} {v : Value} (h : xsat τ a v) : xsat (τ ++ s) a v := by
  obtain ⟨t, n, lo, hi⟩ := a
  unfold xsat at h ⊢
  split at h
  · exact h
  · exact h
  · exact h
  · exact h
  · obtain ⟨b, h1, h2⟩ := h
    refine ⟨b, h1, ?_⟩
    rw [List.getElem?_append_left (List.getElem?_eq_some_iff.mp h2).1]
    exact h2
  · exact h
  · cases h
theorem xcf_mono {τ s : List Nat} {D : xKD} {c : zm_C} (h : xcf τ D c) : xcf (τ ++ s) D c := by
  cases D with
  | inl d =>
    obtain ⟨fs, h1, h2, h3⟩ := h
    refine ⟨fs, h1, h2, fun f sp v a b => ?_⟩
    obtain ⟨x, hx, hs⟩ := h3 f sp v a b
    exact ⟨x, hx, xsat_mono hs⟩
  | inr d =>
    obtain ⟨k, h1, h2, h3⟩ := h
    refine ⟨k, h1, h2, fun j hj => ?_⟩
    obtain ⟨x, hx, hs, ho⟩ := h3 j hj
    exact ⟨x, hx, xsat_mono hs, ho⟩
def xfd (h : zm_H) (a f : Nat) : Option Value := match h[a]? with
  | some (.inr o) => o.2[f]?
  | _ => none
def xar (h : zm_H) (a j : Nat) : Option Value := match h[a]? with
  | some (.inl c) => if j < c.2.1 then some (zm_kv c.2.2 j) else none
  | _ => none
/-- the cells keep to their kinds -/
def xHI (KT : Nat → Option xKD) (SG : Nat → Bool) (τ : List Nat) (h : zm_H) : Prop := h.length = τ.length ∧ (∀ (a kd : Nat), τ[a]? = some kd → ∃ D c, KT kd = some D ∧ h[a]? = some c ∧ xcf τ D c) ∧ ∀ a : Nat, SG a = true → τ[a]? = some a
def xad (σ : List Nat) (b : xv) : Option Nat := match b.1 with
  | 3 => some b.2.2
  | 4 => σ[b.2.2]?
  | _ => none
def xkd (SG : Nat → Bool) (rk : List Nat) (b : xv) : Option Nat := match b.1 with
  | 3 => bif SG b.2.2 then some b.2.2 else none
  | 4 => rk[b.2.2]?
  | _ => none
def xrk (σ τ rk : List Nat) : Prop := σ.length = rk.length ∧ ∀ k kd : Nat, rk[k]? = some kd → ∃ b, σ[k]? = some b ∧ τ[b]? = some kd
def xmo (ρ : List Int) (σ : List Nat) (h : zm_H) (m : xM) : Prop := ∀ q ∈ m, ∃ ad v, xad σ q.1 = some ad ∧ xfd h ad q.2.1 = some v ∧ xc ρ σ q.2.2 v
def xmao (ρ : List Int) (σ : List Nat) (h : zm_H) (m : xMA) : Prop := ∀ q ∈ m, ∃ (ad j : Nat) (v : Value), xad σ q.1 = some ad ∧ xe ρ q.2.1 = some (j : Int) ∧ xar h ad j = some v ∧ xc ρ σ q.2.2 v
def xdok (ρ : List Int) (σ τ : List Nat) (h : zm_H) (D : xD) : Prop := xCok ρ D.1 ∧ xrk σ τ D.2.1 ∧ xmo ρ σ h D.2.2.1 ∧ xmao ρ σ h D.2.2.2.1
theorem xad_mono {σ s : List Nat} {b : xv} {ad : Nat} (h : xad σ b = some ad) : xad (σ ++ s) b = some ad := by
  unfold xad at h ⊢
  split at h
  · exact h
  · rw [List.getElem?_append_left (List.getElem?_eq_some_iff.mp h).1]
    exact h
  · cases h
theorem xmo_mono {ρ r : List Int} {σ s : List Nat} {h : zm_H} {m : xM} (hm : xmo ρ σ h m) : xmo (ρ ++ r) (σ ++ s) h m := by
  intro q hq
  obtain ⟨ad, v, h1, h2, h3⟩ := hm q hq
  exact ⟨ad, v, xad_mono h1, h2, xc_mono h3⟩
theorem xmao_mono {ρ r : List Int} {σ s : List Nat} {h : zm_H} {m : xMA} (hm : xmao ρ σ h m) : xmao (ρ ++ r) (σ ++ s) h m := by
  intro q hq
  obtain ⟨ad, j, v, h1, h2, h3, h4⟩ := hm q hq
  exact ⟨ad, j, v, xad_mono h1, xe_mono h2, h3, xc_mono h4⟩
/-- the kind of what a base stands for -/
theorem xkd_ok {KT : Nat → Option xKD} {SG : Nat → Bool} {ρ : List Int} {σ τ rk : List Nat} {h : zm_H} {b : xv} {v : Value} {kd : Nat} (hH : xHI KT SG τ h) (hr : xrk σ τ rk) (hb : xc ρ σ b v) (hk : xkd SG rk b = some kd) : ∃ ad, v = .ref ad ∧ xad σ b = some ad ∧ τ[ad]? = some kd := by
  obtain ⟨t, e, n⟩ := b
  unfold xkd at hk
  split at hk
  · rename_i h2; have h2 : t = 3 := h2; subst h2
    cases hs : SG n with
    | false => rw [hs] at hk; cases hk
    | true =>
      rw [hs] at hk
      cases hk
      exact ⟨n, hb, rfl, hH.2.2 n hs⟩
  · rename_i h2; have h2 : t = 4 := h2; subst h2
    obtain ⟨ad, h1, rfl⟩ := hb
    obtain ⟨b', h3, h4⟩ := hr.2 n kd hk
    rw [h1] at h3
    cases h3
    exact ⟨ad, rfl, h1, h4⟩
  · cases hk
theorem xkd_ad {KT : Nat → Option xKD} {SG : Nat → Bool} {σ τ rk : List Nat} {h : zm_H} {b : xv} {ad kd : Nat} (hH : xHI KT SG τ h) (hr : xrk σ τ rk) (hb : xad σ b = some ad) (hk : xkd SG rk b = some kd) : τ[ad]? = some kd := by
  obtain ⟨t, e, n⟩ := b
  unfold xkd at hk
  split at hk
  · rename_i h2; have h2 : t = 3 := h2; subst h2
    cases hs : SG n with
    | false => rw [hs] at hk; cases hk
    | true =>
      rw [hs] at hk
      cases hk
      have hb : some n = some ad := hb
      cases hb
      exact hH.2.2 _ hs
  · rename_i h2; have h2 : t = 4 := h2; subst h2
    obtain ⟨b', h3, h4⟩ := hr.2 n kd hk
    have hb : σ[n]? = some ad := hb
    rw [hb] at h3
    cases h3
    exact h4
  · cases hk
/-! from an alternative to a symbolic value -/
def xfa (C : xC) (rk : List Nat) (a : xA) : Option (xC × List Nat × xv) := match a.1 with
  | 0 => bif xle a.2.2.2 a.2.2.1 then some (C, rk, xi (xk a.2.2.1)) else (let q := xfr C a.2.2.1 a.2.2.2; some (q.1, rk, xi q.2))
  | 1 => (let q := xfL C; some (q.1, rk, xL q.2))
  | 2 => some (C, rk, (2, xk 0, 0))
  | 3 => some (C, rk, (3, xk 0, a.2.1))
  | 4 => some (C, rk ++ [a.2.1], (4, xk 0, rk.length))
  | 5 => (let q := xfr C 0 35; some (q.1, rk, (7, q.2, 0)))
  | _ => none
theorem xrk_id {σ τ rk : List Nat} (h : xrk σ τ rk) : xrk (σ ++ []) τ rk := by rw [List.append_nil]; exact h
theorem xwh_lt {x j : Nat} (h : xwh[x]? = some j) : (0 : Int) ≤ (x : Int) ∧ (x : Int) ≤ 35 := by
  have := (List.getElem?_eq_some_iff.mp h).1
  have e : xwh.length = 36 := rfl
  omega
theorem xfa_ok {ρ : List Int} {σ τ rk : List Nat} {C : xC} {a : xA} {v : Value} {q : xC × List Nat × xv} (hC : xCok ρ C) (hr : xrk σ τ rk) (hs : xsat τ a v) (h : xfa C rk a = some q) : ∃ r s, xCok (ρ ++ r) q.1 ∧ xrk (σ ++ s) τ q.2.1 ∧ xc (ρ ++ r) (σ ++ s) q.2.2 v := by
  obtain ⟨t, n, lo, hi⟩ := a
  unfold xfa at h
  split at h
  · rename_i h2; have h2 : t = 0 := h2; subst h2
    obtain ⟨i, rfl, h3, h4⟩ := hs
    cases hh : xle hi lo with
    | true =>
      have h : (bif xle hi lo then _ else _) = some q := h
      rw [hh] at h
      cases h
      have hh := xle_iff.mp hh
      have h3 : lo ≤ i.toInt := h3
      have h4 : i.toInt ≤ hi := h4
      refine ⟨[], [], by rw [List.append_nil]; exact hC, xrk_id hr, i, rfl, ?_⟩
      show xe _ (xk lo) = _
      rw [xe_k]
      congr 1
      omega
    | false =>
      have h : (bif xle hi lo then _ else _) = some q := h
      rw [hh] at h
      cases h
      obtain ⟨r, h5, h6⟩ := xR_fr hC h3 h4
      exact ⟨r, [], h5, xrk_id hr, i, rfl, h6⟩
  · rename_i h2; have h2 : t = 1 := h2; subst h2
    obtain ⟨i, rfl⟩ := hs
    cases h
    obtain ⟨r, h5, h6⟩ := xR_fL hC i
    exact ⟨r, [], h5, xrk_id hr, i, rfl, h6⟩
  · rename_i h2; have h2 : t = 2 := h2; subst h2
    cases h
    exact ⟨[], [], by rw [List.append_nil]; exact hC, xrk_id hr, hs⟩
  · rename_i h2; have h2 : t = 3 := h2; subst h2
    cases h
    exact ⟨[], [], by rw [List.append_nil]; exact hC, xrk_id hr, hs⟩
  · rename_i h2; have h2 : t = 4 := h2; subst h2
    obtain ⟨b, rfl, hb⟩ := hs
    cases h
    have hl : σ.length = rk.length := hr.1
    refine ⟨[], [b], by rw [List.append_nil]; exact hC, ⟨by simp [hl], fun k kd hk => ?_⟩, b, ?_, rfl⟩
    · have hk : (rk ++ [n])[k]? = some kd := hk
      by_cases hlt : k < rk.length
      · rw [List.getElem?_append_left hlt] at hk
        obtain ⟨b', h5, h6⟩ := hr.2 k kd hk
        refine ⟨b', ?_, h6⟩
        rw [List.getElem?_append_left (by omega)]
        exact h5
      · have hlen := (List.getElem?_eq_some_iff.mp hk).1
        rw [List.length_append, List.length_singleton] at hlen
        have e : k = rk.length := by omega
        subst e
        have hk : n = kd := by simpa using hk
        subst hk
        refine ⟨b, ?_, hb⟩
        rw [← hl]
        simp
    · show (σ ++ [b])[rk.length]? = some b
      rw [← hl]
      simp
  · rename_i h2; have h2 : t = 5 := h2; subst h2
    obtain ⟨x, j, hx, rfl⟩ := hs
    cases h
    obtain ⟨r, h5, h6⟩ := xR_fr hC (xwh_lt hx).1 (xwh_lt hx).2
    exact ⟨r, [], h5, xrk_id hr, x, j, h6, hx, rfl⟩
  · cases h
/-! what a symbolic value keeps to -/
def xcon (n : xN) (rk : List Nat) (v : xv) (a : xA) : Bool := match a.1 with
  | 0 => Nat.beq v.1 0 && (xpv n.1 n.2 8 (xpl (-a.2.2.1) v.2.1) && xpv n.1 n.2 8 (xpl a.2.2.2 (xng v.2.1)))
  | 1 => Nat.beq v.1 1
  | 2 => Nat.beq v.1 2
  | 3 => Nat.beq v.1 3 && Nat.beq v.2.2 a.2.1
  | 4 => Nat.beq v.1 4 && (match rk[v.2.2]? with
    | some k => Nat.beq k a.2.1
    | none => false)
  | 5 => Nat.beq v.1 7
  | _ => false
theorem xcon_ok {ρ : List Int} {σ τ rk : List Nat} {n : xN} {v : xv} {w : Value} {a : xA} (hn : xnok ρ n) (hr : xrk σ τ rk) (hv : xc ρ σ v w) (h : xcon n rk v a = true) : xsat τ a w := by
  obtain ⟨t, m, lo, hi⟩ := a
  obtain ⟨tv, e, k⟩ := v
  unfold xcon at h
  split at h
  · rename_i h2; have h2 : t = 0 := h2; subst h2
    simp only [Bool.and_eq_true] at h
    obtain ⟨i, rfl, he⟩ := xc_i hv h.1
    have h1 := xpv_ok hn.1 hn.2 8 (xe_pl (-lo) he) h.2.1
    have h3 := xpv_ok hn.1 hn.2 8 (xe_pl hi (xe_ng he)) h.2.2
    exact ⟨i, rfl, by show lo ≤ i.toInt; omega, by show i.toInt ≤ hi; omega⟩
  · rename_i h2; have h2 : t = 1 := h2; subst h2
    obtain ⟨i, rfl, -⟩ := xc_L hv h
    exact ⟨i, rfl⟩
  · rename_i h2; have h2 : t = 2 := h2; subst h2
    have h3 : tv = 2 := Nat.eq_of_beq_eq_true h
    subst h3
    exact hv
  · rename_i h2; have h2 : t = 3 := h2; subst h2
    simp only [Bool.and_eq_true] at h
    have h3 : tv = 3 := Nat.eq_of_beq_eq_true h.1
    have h4 : k = m := Nat.eq_of_beq_eq_true h.2
    subst h3 h4
    exact hv
  · rename_i h2; have h2 : t = 4 := h2; subst h2
    simp only [Bool.and_eq_true] at h
    have h3 : tv = 4 := Nat.eq_of_beq_eq_true h.1
    subst h3
    obtain ⟨b, hb, rfl⟩ := hv
    obtain ⟨-, h5⟩ := h
    split at h5
    · rename_i kd hk
      have h6 : kd = m := Nat.eq_of_beq_eq_true h5
      subst h6
      obtain ⟨b', h7, h8⟩ := hr.2 k kd hk
      have hb : σ[k]? = some b := hb
      rw [hb] at h7
      cases h7
      exact ⟨b, rfl, h8⟩
    · cases h5
  · rename_i h2; have h2 : t = 5 := h2; subst h2
    have h3 : tv = 7 := Nat.eq_of_beq_eq_true h
    subst h3
    obtain ⟨x, j, -, h5, rfl⟩ := hv
    exact ⟨x, j, h5, rfl⟩
  · cases h
/-- the machine's own check of what is put into a field -/
def xokt (ft : FieldType) (a : xA) : Bool := match ft with
  | .int => Nat.beq a.1 0
  | .long => Nat.beq a.1 1
  | .boolean => Nat.beq a.1 0 && (xle 0 a.2.2.1 && xle a.2.2.2 1)
  | .object _ => Nat.ble 2 a.1 && Nat.ble a.1 5
  | .array _ => Nat.ble 2 a.1 && Nat.ble a.1 4
  | _ => false
theorem xokt_ok {τ : List Nat} {ft : FieldType} {a : xA} {v : Value} (hs : xsat τ a v) (h : xokt ft a = true) : zm_okv ft v = true := by
  obtain ⟨t, m, lo, hi⟩ := a
  unfold xokt at h
  split at h
  · have h2 : t = 0 := Nat.eq_of_beq_eq_true h
    subst h2
    obtain ⟨i, rfl, -, -⟩ := hs
    rfl
  · have h2 : t = 1 := Nat.eq_of_beq_eq_true h
    subst h2
    obtain ⟨i, rfl⟩ := hs
    rfl
  · simp only [Bool.and_eq_true, xle_iff] at h
    have h2 : t = 0 := Nat.eq_of_beq_eq_true h.1
    subst h2
    obtain ⟨i, rfl, h3, h4⟩ := hs
    have h3 : lo ≤ i.toInt := h3
    have h4 : i.toInt ≤ hi := h4
    have h5 : (0 : Int) ≤ lo := h.2.1
    have h6 : hi ≤ (1 : Int) := h.2.2
    show (i == 0 || i == 1) = true
    rcases (show i.toInt = 0 ∨ i.toInt = 1 by omega) with h | h
    · have : i = 0 := Int32.toInt_inj.mp h
      subst this; rfl
    · have : i = 1 := Int32.toInt_inj.mp h
      subst this; rfl
  · simp only [Bool.and_eq_true, Nat.ble_eq] at h
    have h : 2 ≤ t ∧ t ≤ 5 := h
    rcases (show t = 2 ∨ t = 3 ∨ t = 4 ∨ t = 5 by omega) with rfl | rfl | rfl | rfl
    · have hs : v = .null := hs; subst hs; rfl
    · have hs : v = .ref m := hs; subst hs; rfl
    · obtain ⟨b, rfl, -⟩ := hs; rfl
    · obtain ⟨x, j, -, rfl⟩ := hs; rfl
  · simp only [Bool.and_eq_true, Nat.ble_eq] at h
    have h : 2 ≤ t ∧ t ≤ 4 := h
    rcases (show t = 2 ∨ t = 3 ∨ t = 4 by omega) with rfl | rfl | rfl
    · have hs : v = .null := hs; subst hs; rfl
    · have hs : v = .ref m := hs; subst hs; rfl
    · obtain ⟨b, rfl, -⟩ := hs; rfl
  · cases h
end
section
/-! Eighth part: what is read of the heap -/
abbrev xFl : Type := xD → xv → Nat → xl → xA → Option xA
abbrev xEnv : Type := (Nat → Option xKD) × (Nat → Bool) × (Nat → Nat → Bool) × xFl × (Nat → Nat → Option Nat) × (Nat → Nat → Bool)
abbrev xHS : Type := xD × List xv
def xlkf : xM → xv → Nat → Option xv
  | [], _, _ => none
  | q :: t, b, f => bif Nat.beq q.2.1 f && (Nat.beq q.1.1 b.1 && Nat.beq q.1.2.2 b.2.2) then some q.2.2 else xlkf t b f
def xlka : xMA → xv → xl → Option xv
  | [], _, _ => none
  | q :: t, b, e => bif (Nat.beq q.1.1 b.1 && Nat.beq q.1.2.2 b.2.2) && xeq q.2.1 e then some q.2.2 else xlka t b e
def xlkb : xMA → xv → Option (xl × xv)
  | [], _ => none
  | q :: t, b => bif Nat.beq q.1.1 b.1 && Nat.beq q.1.2.2 b.2.2 then some (q.2.1, q.2.2) else xlkb t b
theorem xad_same {σ : List Nat} {b c : xv} {ad : Nat} (h1 : Nat.beq b.1 c.1 = true) (h2 : Nat.beq b.2.2 c.2.2 = true) (h : xad σ b = some ad) : xad σ c = some ad := by
  obtain ⟨t, e, n⟩ := b
  obtain ⟨t', e', n'⟩ := c
  have e1 : t = t' := Nat.eq_of_beq_eq_true h1
  have e2 : n = n' := Nat.eq_of_beq_eq_true h2
  subst e1
  subst e2
  exact h
section XLO
variable {ρ : List Int} {σ τ : List Nat} {h : zm_H}
theorem xlkf_ok {b : xv} {f ad : Nat} {v : xv} (hb : xad σ b = some ad) : ∀ {m : xM}, xmo ρ σ h m → xlkf m b f = some v → ∃ w, xfd h ad f = some w ∧ xc ρ σ v w
  | [], _, hl => by cases hl
  | q :: t, hm, hl => by
    simp only [xlkf] at hl
    cases hc : Nat.beq q.2.1 f && (Nat.beq q.1.1 b.1 && Nat.beq q.1.2.2 b.2.2) with
    | false => rw [hc] at hl; exact xlkf_ok hb (fun q hq => hm q (List.mem_cons_of_mem _ hq)) hl
    | true =>
      rw [hc] at hl
      cases hl
      simp only [Bool.and_eq_true] at hc
      obtain ⟨ad', w, h1, h2, h3⟩ := hm q List.mem_cons_self
      have h4 := xad_same hc.2.1 hc.2.2 h1
      rw [hb] at h4
      cases h4
      rw [Nat.eq_of_beq_eq_true hc.1] at h2
      exact ⟨w, h2, h3⟩
theorem xlka_ok {b : xv} {e : xl} {ad : Nat} {v : xv} (hb : xad σ b = some ad) : ∀ {m : xMA}, xmao ρ σ h m → xlka m b e = some v → ∃ (j : Nat) (w : Value), xe ρ e = some (j : Int) ∧ xar h ad j = some w ∧ xc ρ σ v w
  | [], _, hl => by cases hl
  | q :: t, hm, hl => by
    simp only [xlka] at hl
    cases hc : (Nat.beq q.1.1 b.1 && Nat.beq q.1.2.2 b.2.2) && xeq q.2.1 e with
    | false => rw [hc] at hl; exact xlka_ok hb (fun q hq => hm q (List.mem_cons_of_mem _ hq)) hl
    | true =>
      rw [hc] at hl
      cases hl
      simp only [Bool.and_eq_true] at hc
      obtain ⟨ad', j, w, h1, h2, h3, h4⟩ := hm q List.mem_cons_self
      have h5 := xad_same hc.1.1 hc.1.2 h1
      rw [hb] at h5
      cases h5
      rw [of_decide_eq_true hc.2] at h2
      exact ⟨j, w, h2, h3, h4⟩
theorem xlkb_ok {b : xv} {ad : Nat} {q : xl × xv} (hb : xad σ b = some ad) : ∀ {m : xMA}, xmao ρ σ h m → xlkb m b = some q → ∃ (j : Nat) (w : Value), xe ρ q.1 = some (j : Int) ∧ xar h ad j = some w ∧ xc ρ σ q.2 w
  | [], _, hl => by cases hl
  | p :: t, hm, hl => by
    simp only [xlkb] at hl
    cases hc : Nat.beq p.1.1 b.1 && Nat.beq p.1.2.2 b.2.2 with
    | false => rw [hc] at hl; exact xlkb_ok hb (fun q hq => hm q (List.mem_cons_of_mem _ hq)) hl
    | true =>
      rw [hc] at hl
      cases hl
      simp only [Bool.and_eq_true] at hc
      obtain ⟨ad', j, w, h1, h2, h3, h4⟩ := hm p List.mem_cons_self
      have h5 := xad_same hc.1 hc.2 h1
      rw [hb] at h5
      cases h5
      exact ⟨j, w, h2, h3, h4⟩
/-- all alternatives of a field -/
def xforks (C : xC) (rk : List Nat) (k : xC × List Nat × xv → xHS) : List xA → Option (List xHS)
  | [] => some []
  | a :: t => match xforks C rk k t, xfa C rk a with
    | some l, some q => some (k q :: l)
    | _, _ => none
theorem xforks_ok {C : xC} {rk : List Nat} {k : xC × List Nat × xv → xHS} {a : xA} : ∀ {sp : List xA} {l : List xHS}, xforks C rk k sp = some l → a ∈ sp → ∃ q, xfa C rk a = some q ∧ k q ∈ l
  | [], l, _, ha => by cases ha
  | b :: t, l, hf, ha => by
    simp only [xforks] at hf
    split at hf
    · rename_i l' q hl hq
      cases hf
      rcases List.mem_cons.mp ha with rfl | ha
      · exact ⟨q, hq, List.mem_cons_self⟩
      · obtain ⟨q', h1, h2⟩ := xforks_ok hl ha
        exact ⟨q', h1, List.mem_cons_of_mem _ h2⟩
    · cases hf
def xres (md : Nat) (e : xl) : Option Nat := bif e.2.all (fun q => decide (q.2 % (md : Int) = 0)) then some (e.1 % (md : Int)).toNat else none
theorem xres_t {md : Nat} : ∀ {l : List (Nat × Int)} {y : Int}, xt ρ l = some y → l.all (fun q => decide (q.2 % (md : Int) = 0)) = true → y % (md : Int) = 0
  | [], y, ht, _ => by simp only [xt] at ht; cases ht; exact Int.zero_emod _
  | q :: t, y, ht, ha => by
    obtain ⟨x', y', hx, hy, rfl⟩ := xt_cons.mp ht
    simp only [List.all_cons, Bool.and_eq_true, decide_eq_true_eq] at ha
    have h1 := xres_t hy ha.2
    rw [Int.add_emod, h1, Int.mul_emod, ha.1]
    simp
theorem xres_ok {md r j : Nat} {e : xl} (he : xe ρ e = some (j : Int)) (h0 : 0 < md) (hr : xres md e = some r) : j % md = r := by
  unfold xres at hr
  cases ha : e.2.all (fun q => decide (q.2 % (md : Int) = 0)) with
  | false => rw [ha] at hr; cases hr
  | true =>
    rw [ha] at hr
    simp only [cond_true, Option.some.injEq] at hr
    rw [xe_iff] at he
    have h1 := xres_t he ha
    have h2 : (j : Int) % (md : Int) = e.1 % (md : Int) := by
      have e1 : (j : Int) = e.1 + ((j : Int) - e.1) := by omega
      rw [e1, Int.add_emod, h1]
      simp
    have h3 := Int.emod_nonneg e.1 (b := (md : Int)) (by omega)
    omega
/-- the residue rules the alternative out -/
def xrno (q : xJ) (e : xl) : Bool := match q.2.2.2.1 with
  | 0 => false
  | m + 1 => match xres (m + 1) e with
    | some r => !(Nat.beq r q.2.2.2.2)
    | none => false
theorem xrno_ok {q : xJ} {e : xl} {j : Nat} (he : xe ρ e = some (j : Int)) (hq : xjok q j) : xrno q e = false := by
  unfold xrno
  split
  · rfl
  · rename_i m hm
    split
    · rename_i r hr
      have h1 := xres_ok he (by omega) hr
      have h2 := hq.2.2
      rw [hm] at h2
      rcases h2 with h2 | h2
      · omega
      · rw [← h1, ← h2, Nat.beq_refl]
        rfl
    · rfl
/-- all alternatives of an array's place -/
def xjf (F : xA → Option xA) (C : xC) (rk : List Nat) (e : xl) (k : xC × List Nat × xv → xHS) : List xJ → Option (List xHS)
  | [] => some []
  | q :: t => match xjf F C rk e k t with
    | none => none
    | some l => bif xrno q e then some l else match xas C.1 (xpl (-q.2.1) e) with
      | none => some l
      | some n1 => match xas n1 (xpl q.2.2.1 (xng e)) with
        | none => some l
        | some n2 => match F q.1 with
          | none => some l
          | some a => match xfa (n2, C.2) rk a with
            | none => none
            | some w => some (k w :: l)
theorem xjf_ok {F : xA → Option xA} {C : xC} {rk : List Nat} {e : xl} {k : xC × List Nat × xv → xHS} {j : Nat} {q : xJ} {a : xA} (hC : xCok ρ C) (he : xe ρ e = some (j : Int)) (hj : xjok q j) (hF : F q.1 = some a) : ∀ {js : List xJ} {l : List xHS}, xjf F C rk e k js = some l → q ∈ js → ∃ C' w, xCok ρ C' ∧ xfa C' rk a = some w ∧ k w ∈ l
  | [], l, _, ha => by cases ha
  | p :: t, l, hf, ha => by
    simp only [xjf] at hf
    split at hf
    · cases hf
    · rename_i l' hl
      have hmem : ∀ {l2 : List xHS}, (∀ z, z ∈ l' → z ∈ l2) → q ∈ t → ∃ C' w, xCok ρ C' ∧ xfa C' rk a = some w ∧ k w ∈ l2 := by
        intro l2 hs hq
        obtain ⟨C', w, h1, h2, h3⟩ := xjf_ok hC he hj hF hl hq
        exact ⟨C', w, h1, h2, hs _ h3⟩
      rcases List.mem_cons.mp ha with rfl | ha
      · rw [xrno_ok he hj] at hf
        simp only [cond_false] at hf
        obtain ⟨n1, h1, h2⟩ := xas_ok hC.1 (xe_pl (-q.2.1) he) (by have := hj.1; omega)
        rw [h1] at hf
        obtain ⟨n2, h3, h4⟩ := xas_ok h2 (xe_pl q.2.2.1 (xe_ng he)) (by have := hj.2.1; omega)
        simp only [h3, hF] at hf
        split at hf
        · cases hf
        · rename_i w hw
          cases hf
          exact ⟨(n2, C.2), w, ⟨h4, hC.2⟩, hw, List.mem_cons_self⟩
      · cases hr : xrno p e with
        | true => rw [hr] at hf; cases hf; exact hmem (fun z hz => hz) ha
        | false =>
          rw [hr] at hf
          simp only [cond_false] at hf
          split at hf
          · cases hf; exact hmem (fun z hz => hz) ha
          · split at hf
            · cases hf; exact hmem (fun z hz => hz) ha
            · split at hf
              · cases hf; exact hmem (fun z hz => hz) ha
              · split at hf
                · cases hf
                · cases hf; exact hmem (fun z hz => List.mem_cons_of_mem _ hz) ha
end XLO
/-! the instructions that read -/
def xwC (D : xD) (C : xC) : xD := (C, D.2)
/-- below 17, or not -/
def xw17 (C : xC) (e : xl) (f g : xC → xHS) : List xHS := (match xas C.1 (xpl 16 (xng e)) with
  | some n => [f (n, C.2)]
  | none => []) ++ (match xas C.1 (xpl (.negSucc 16) e) with
  | some n => [g (n, C.2)]
  | none => [])
/-- a field of an old thing -/
def xgw (x : zm_X) (D : xD) (b : xv) (t : List xv) : Option (List xHS) := match b.1 with
  | 5 => (match zm_of x.1 b.2.2 x.2.1 with
    | some (.int i) => some [(D, xi (xk i.toInt) :: t)]
    | some (.retAddr k) => some [(D, (5, xk 0, k) :: t)]
    | _ => none)
  | 7 => bif Nat.beq x.1 40 then (match x.2.1 with
    | 0 => (let q := xfr D.1 2 10; some [(xwC D q.1, (8, q.2, 0) :: t)])
    | 1 => some (xw17 D.1 b.2.1 (fun C => (xwC D C, xi b.2.1 :: t)) (fun C => (xwC D C, xi (xk (.negSucc 0)) :: t)))
    | 2 => some (xw17 D.1 b.2.1 (fun C => let q := xfr C 0 1; (xwC D q.1, xi q.2 :: t)) (fun C => (xwC D C, xi (xk 0) :: t)))
    | 3 => some (xw17 D.1 b.2.1 (fun C => let q := xfr C 0 1; (xwC D q.1, xi q.2 :: t)) (fun C => (xwC D C, xi (xk 0) :: t)))
    | _ => none) else none
  | _ => none
def xaw (D : xD) (b : xv) (t : List xv) : Option (List xHS) := match b.1 with
  | 5 => (match zm_ba b.2.2 with
    | some (.inl q) => bif Nat.ble q.2.1 60000 then some [(D, xi (xk (.ofNat q.2.1)) :: t)] else none
    | _ => none)
  | _ => none
def xao (i : Jvm.ClassFile.Instr) (D : xD) (a b : xv) (t : List xv) : Option (List xHS) := match b.1 with
  | 5 => (match i with
    | .aaload => bif Nat.beq b.2.2 1 && (xpv D.1.1.1 D.1.1.2 8 a.2.1 && xpv D.1.1.1 D.1.1.2 8 (xpl 35 (xng a.2.1))) then some [(D, (7, a.2.1, 0) :: t)] else none
    | .baload => bif Nat.ble 100 b.2.2 then (match zm_sb (b.2.2 - 100) with
      | some l => bif xpv D.1.1.1 D.1.1.2 8 a.2.1 && xpv D.1.1.1 D.1.1.2 8 (xpl (.ofNat l.length) (xm1 (xng a.2.1))) then (match a.2.1.2 with
        | [] => some [(D, xi (xk (l.getD a.2.1.1.toNat 0).toInt) :: t)]
        | _ => (let q := xfr D.1 0 127; some [(xwC D q.1, xi q.2 :: t)])) else none
      | none => none) else none
    | _ => none)
  | _ => none
def xgf (V : xEnv) (x : zm_X) (D : xD) (st : List xv) : Option (List xHS) := match st with
  | b :: t => (match xkd V.2.1 D.2.1 b with
    | some kd => (match V.1 kd with
      | some (.inl d) => bif Nat.beq d.1 x.1 then (match xlkf D.2.2.1 b x.2.1 with
        | some v => some [(D, v :: t)]
        | none => (match d.2[x.2.1]? with
          | some sp => xforks D.1 D.2.1 (fun q => ((q.1, q.2.1, (b, x.2.1, q.2.2) :: D.2.2.1, D.2.2.2), q.2.2 :: t)) sp
          | none => none)) else none
      | _ => none)
    | none => xgw x D b t)
  | _ => none
def xalen (V : xEnv) (D : xD) (st : List xv) : Option (List xHS) := match st with
  | b :: t => (match xkd V.2.1 D.2.1 b with
    | some kd => (match V.1 kd with
      | some (.inr d) => bif Nat.ble d.2.1 60000 then some [(D, xi (xk (.ofNat d.2.1)) :: t)] else none
      | _ => none)
    | none => xaw D b t)
  | _ => none
def xald (V : xEnv) (kd : Nat) (js : List xJ) (b : xv) (e : xl) (t : List xv) (D : xD) (C : xC) : Option (List xHS) := xjf (V.2.2.2.1 D b kd e) C D.2.1 e (fun q => ((q.1, q.2.1, D.2.2.1, (b, e, q.2.2) :: D.2.2.2.1, D.2.2.2.2), q.2.2 :: t)) js
def xapp3 (a b c : Option (List xHS)) : Option (List xHS) := match a, b, c with
  | some x, some y, some z => some (x ++ (y ++ z))
  | _, _, _ => none
def xopt (o : Option xN) (f : xN → Option (List xHS)) : Option (List xHS) := match o with
  | some n => f n
  | none => some []
def xal (V : xEnv) (mi pc : Nat) (i : Jvm.ClassFile.Instr) (D : xD) (st : List xv) : Option (List xHS) := match st with
  | a :: b :: t => bif Nat.beq a.1 0 then (match xkd V.2.1 D.2.1 b with
    | some kd => (match V.1 kd with
      | some (.inr d) => bif zm_lds i d.1 && (xpv D.1.1.1 D.1.1.2 8 a.2.1 && xpv D.1.1.1 D.1.1.2 8 (xpl (.ofNat d.2.1) (xm1 (xng a.2.1)))) then (match xlka D.2.2.2.1 b a.2.1 with
        | some v => some [(D, v :: t)]
        | none => bif V.2.2.2.2.2 mi pc then (match xlkb D.2.2.2.1 b with
          | some p => xapp3 (match xas D.1.1 (xadd (.negSucc 0) a.2.1 p.1) with
              | some n1 => xopt (xas n1 (xng (xadd (.negSucc 0) a.2.1 p.1))) (fun n2 => some [(xwC D (n2, D.1.2), p.2 :: t)])
              | none => some [])
            (xopt (xas D.1.1 (xm1 (xadd (.negSucc 0) a.2.1 p.1))) (fun n => xald V kd d.2.2 b a.2.1 t D (n, D.1.2)))
            (xopt (xas D.1.1 (xm1 (xng (xadd (.negSucc 0) a.2.1 p.1)))) (fun n => xald V kd d.2.2 b a.2.1 t D (n, D.1.2)))
          | none => xald V kd d.2.2 b a.2.1 t D D.1) else xald V kd d.2.2 b a.2.1 t D D.1) else none
      | _ => none)
    | none => xao i D a b t) else none
  | _ => none
end
section
/-! What is read is read rightly -/
def xFl_ok (V : xEnv) (X : List Nat → zm_H → Prop) : Prop := ∀ (ρ : List Int) (σ τ : List Nat) (h : zm_H) (D : xD) (b : xv) (kd : Nat) (e : xl) (a : xA) (ad j : Nat) (v : Value), xHI V.1 V.2.1 τ h → X τ h → xdok ρ σ τ h D → xad σ b = some ad → τ[ad]? = some kd → xe ρ e = some (j : Int) → xar h ad j = some v → xsat τ a v → ∃ a', V.2.2.2.1 D b kd e a = some a' ∧ xsat τ a' v
def xLR (ρ : List Int) (σ τ : List Nat) (h : zm_H) (g : Nat) (l : List xHS) (z : Option (List Value × zm_H)) : Prop := ∃ sc, z = some (sc, h) ∧ ∃ s ∈ l, ∃ r s', xdok (ρ ++ r) (σ ++ s') τ h s.1 ∧ xsk (ρ ++ r) (σ ++ s') s.2 sc ∧ s.1.2.2.2.2 = g
section XLK
variable {ρ : List Int} {σ τ : List Nat} {h : zm_H} {V : xEnv} {X : List Nat → zm_H → Prop} {D : xD} {st : List xv} {sc : List Value} {l : List xHS} {df : Nat → List Value} {og : Nat → Option zm_C}
theorem xLR_id {s : xHS} {sc' : List Value} (hD : xdok ρ σ τ h s.1) (hs : xsk ρ σ s.2 sc') (hg : s.1.2.2.2.2 = D.2.2.2.2) (hm : s ∈ l) : xLR ρ σ τ h D.2.2.2.2 l (some (sc', h)) := ⟨sc', rfl, s, hm, [], [], by rw [List.append_nil, List.append_nil]; exact hD, by rw [List.append_nil, List.append_nil]; exact hs, hg⟩
theorem xcf_o {KT : Nat → Option xKD} {SG : Nat → Bool} {ad kd : Nat} {d : Nat × List (List xA)} (hH : xHI KT SG τ h) (ht : τ[ad]? = some kd) (hk : KT kd = some (.inl d)) : ∃ fs, h[ad]? = some (.inr (d.1, fs)) ∧ fs.length = d.2.length ∧ ∀ (f : Nat) (sp : List xA) (v : Value), d.2[f]? = some sp → fs[f]? = some v → ∃ a ∈ sp, xsat τ a v := by
  obtain ⟨D, c, h1, h2, h3⟩ := hH.2.1 ad kd ht
  rw [hk] at h1
  cases h1
  obtain ⟨fs, rfl, h4, h5⟩ := h3
  exact ⟨fs, h2, h4, h5⟩
theorem xcf_a {KT : Nat → Option xKD} {SG : Nat → Bool} {ad kd : Nat} {d : Nat × Nat × List xJ} (hH : xHI KT SG τ h) (ht : τ[ad]? = some kd) (hk : KT kd = some (.inr d)) : ∃ k, h[ad]? = some (.inl (d.1, d.2.1, k)) ∧ xka d.1 k ∧ ∀ j : Nat, j < d.2.1 → ∃ q ∈ d.2.2, xsat τ q.1 (zm_kv k j) ∧ xjok q j := by
  obtain ⟨D, c, h1, h2, h3⟩ := hH.2.1 ad kd ht
  rw [hk] at h1
  cases h1
  obtain ⟨k, rfl, h4, h5⟩ := h3
  exact ⟨k, h2, h4, h5⟩
theorem xLR_r {q : xC × xl} {z : Int} {f : xl → xv} {t : List xv} {s : List Value} {w : Value} {D0 : xD} (hD : xdok ρ σ τ h D0) (hg : D0.2.2.2.2 = D.2.2.2.2) (hq : xR ρ q z) (hs : xsk ρ σ t s) (hw : ∀ r, xe (ρ ++ r) q.2 = some z → xc (ρ ++ r) σ (f q.2) w) (hm : (xwC D0 q.1, f q.2 :: t) ∈ l) : xLR ρ σ τ h D.2.2.2.2 l (some (w :: s, h)) := by
  obtain ⟨r, h1, h2⟩ := hq
  have e : σ ++ [] = σ := List.append_nil σ
  refine ⟨_, rfl, _, hm, r, [], ?_, ?_, hg⟩
  · rw [e]
    refine ⟨h1, hD.2.1, ?_, ?_⟩
    · have := xmo_mono (r := r) (s := []) hD.2.2.1
      rwa [e] at this
    · have := xmao_mono (r := r) (s := []) hD.2.2.2
      rwa [e] at this
  · rw [e]
    exact ⟨hw r h2, xsk_m hs⟩
theorem xdok_C {C : xC} (hD : xdok ρ σ τ h D) (hC : xCok ρ C) : xdok ρ σ τ h (xwC D C) := ⟨hC, hD.2⟩
theorem xw17_ok {C : xC} {e : xl} {y : Nat} {f g : xC → xHS} (hC : xCok ρ C) (he : xe ρ e = some (y : Int)) : (y ≤ 16 → ∃ C', xCok ρ C' ∧ f C' ∈ xw17 C e f g) ∧ (17 ≤ y → ∃ C', xCok ρ C' ∧ g C' ∈ xw17 C e f g) := by
  constructor
  · intro hy
    obtain ⟨n, h1, h2⟩ := xas_ok hC.1 (xe_pl 16 (xe_ng he)) (by omega)
    refine ⟨(n, C.2), ⟨h2, hC.2⟩, ?_⟩
    unfold xw17
    rw [h1]
    exact List.mem_append_left _ (List.mem_singleton.mpr rfl)
  · intro hy
    obtain ⟨n, h1, h2⟩ := xas_ok hC.1 (xe_pl (.negSucc 16) he) (by show 0 ≤ (y : Int) + (-17); omega)
    refine ⟨(n, C.2), ⟨h2, hC.2⟩, ?_⟩
    unfold xw17
    rw [h1]
    exact List.mem_append_right _ (List.mem_singleton.mpr rfl)
theorem xgw_ok {x : zm_X} {i : Nat} {b : xv} {t : List xv} {v : Value} {s : List Value} (hD : xdok ρ σ τ h D) (hb : xc ρ σ b v) (hs : xsk ρ σ t s) (hx : xgw x D b t = some l) : xLR ρ σ τ h D.2.2.2.2 l (zm_hp df og (.getfield i) x (v :: s) h) := by
  obtain ⟨tg, e, n⟩ := b
  unfold xgw at hx
  split at hx
  · rename_i h2; have h2 : tg = 5 := h2; subst h2
    have hb : v = .retAddr n := hb
    subst hb
    split at hx
    · rename_i j hj
      cases hx
      have ez : zm_hp df og (.getfield i) x (.retAddr n :: s) h = some (.int j :: s, h) := by
        have hj : zm_of x.1 n x.2.1 = some (.int j) := hj
        simp only [zm_hp, hj]
      rw [ez]
      exact xLR_id (s := (D, xi (xk j.toInt) :: t)) hD ⟨⟨j, rfl, xe_k _⟩, hs⟩ rfl (List.mem_singleton.mpr rfl)
    · rename_i k hj
      cases hx
      have ez : zm_hp df og (.getfield i) x (.retAddr n :: s) h = some (.retAddr k :: s, h) := by
        have hj : zm_of x.1 n x.2.1 = some (.retAddr k) := hj
        simp only [zm_hp, hj]
      rw [ez]
      exact xLR_id (s := (D, (5, xk 0, k) :: t)) hD ⟨rfl, hs⟩ rfl (List.mem_singleton.mpr rfl)
    · cases hx
  · rename_i h2; have h2 : tg = 7 := h2; subst h2
    obtain ⟨y, j, he, hy, rfl⟩ := hb
    have he : xe ρ e = some (y : Int) := he
    obtain ⟨-, ws, wa, wb, m, g1, g2, g3, g4, g5, g6, g7, g8⟩ := xw_ok hy
    cases h40 : Nat.beq x.1 40 with
    | false => rw [h40] at hx; cases hx
    | true =>
      rw [h40] at hx
      simp only [cond_true] at hx
      have h40 := Nat.eq_of_beq_eq_true h40
      have ez : ∀ (f : Nat) (w : Value), x.2.1 = f → zm_wf j f = some w → zm_hp df og (.getfield i) x (.retAddr j :: s) h = some (w :: s, h) := by
        intro f w hf hw
        have e1 : zm_of x.1 j x.2.1 = some w := by rw [h40, hf]; exact hw
        simp only [zm_hp, e1]
      split at hx
      · rename_i hf
        cases hx
        rw [ez 0 (.retAddr (j + 57)) hf (by simp only [zm_wf, g1])]
        have hR : xR ρ (xfr D.1 2 10) (m : Int) := xR_fr hD.1 (by omega) (by omega)
        have hW : ∀ (r : List Int), xe (ρ ++ r) (xfr D.1 2 10).2 = some (m : Int) → xc (ρ ++ r) σ ((8 : Nat), (xfr D.1 2 10).2, (0 : Nat)) (.retAddr (j + 57)) := fun r hr => by
          show ∃ (x j1 : Nat), xe (ρ ++ r) (xfr D.1 2 10).2 = some (x : Int) ∧ xsl j1 = some x ∧ Value.retAddr (j + 57) = .retAddr j1
          exact ⟨m, j + 57, hr, g6, rfl⟩
        exact xLR_r (D0 := D) (f := fun e => ((8 : Nat), e, (0 : Nat))) hD rfl hR hs hW (List.mem_singleton.mpr rfl)
      · rename_i hf
        cases hx
        rw [ez 1 (.int ws) hf (by simp only [zm_wf, g1])]
        by_cases h16 : y ≤ 16
        · obtain ⟨C', c1, c2⟩ := (xw17_ok (f := fun C => (xwC D C, xi e :: t)) (g := fun C => (xwC D C, xi (xk (.negSucc 0)) :: t)) hD.1 he).1 h16
          exact xLR_id (s := (xwC D C', xi e :: t)) (xdok_C hD c1) ⟨⟨ws, rfl, by rw [g2 h16]; exact he⟩, hs⟩ rfl c2
        · obtain ⟨C', c1, c2⟩ := (xw17_ok (f := fun C => (xwC D C, xi e :: t)) (g := fun C => (xwC D C, xi (xk (.negSucc 0)) :: t)) hD.1 he).2 (by omega)
          exact xLR_id (s := (xwC D C', xi (xk (.negSucc 0)) :: t)) (xdok_C hD c1) ⟨⟨ws, rfl, by rw [(g3 (by omega)).1]; exact xe_k _⟩, hs⟩ rfl c2
      · rename_i hf
        cases hx
        rw [ez 2 (.int wa) hf (by simp only [zm_wf, g1])]
        by_cases h16 : y ≤ 16
        · obtain ⟨C', c1, c2⟩ := (xw17_ok (f := fun C => (xwC D (xfr C 0 1).1, xi (xfr C 0 1).2 :: t)) (g := fun C => (xwC D C, xi (xk 0) :: t)) hD.1 he).1 h16
          exact xLR_r (D0 := xwC D C') (f := xi) (xdok_C hD c1) rfl (xR_fr (x := wa.toInt) c1 g4.1 g4.2) hs (fun r hr => ⟨wa, rfl, hr⟩) c2
        · obtain ⟨C', c1, c2⟩ := (xw17_ok (f := fun C => (xwC D (xfr C 0 1).1, xi (xfr C 0 1).2 :: t)) (g := fun C => (xwC D C, xi (xk 0) :: t)) hD.1 he).2 (by omega)
          exact xLR_id (s := (xwC D C', xi (xk 0) :: t)) (xdok_C hD c1) ⟨⟨wa, rfl, by rw [(g3 (by omega)).2.1]; exact xe_k _⟩, hs⟩ rfl c2
      · rename_i hf
        cases hx
        rw [ez 3 (.int wb) hf (by simp only [zm_wf, g1])]
        by_cases h16 : y ≤ 16
        · obtain ⟨C', c1, c2⟩ := (xw17_ok (f := fun C => (xwC D (xfr C 0 1).1, xi (xfr C 0 1).2 :: t)) (g := fun C => (xwC D C, xi (xk 0) :: t)) hD.1 he).1 h16
          exact xLR_r (D0 := xwC D C') (f := xi) (xdok_C hD c1) rfl (xR_fr (x := wb.toInt) c1 g5.1 g5.2) hs (fun r hr => ⟨wb, rfl, hr⟩) c2
        · obtain ⟨C', c1, c2⟩ := (xw17_ok (f := fun C => (xwC D (xfr C 0 1).1, xi (xfr C 0 1).2 :: t)) (g := fun C => (xwC D C, xi (xk 0) :: t)) hD.1 he).2 (by omega)
          exact xLR_id (s := (xwC D C', xi (xk 0) :: t)) (xdok_C hD c1) ⟨⟨wb, rfl, by rw [(g3 (by omega)).2.2]; exact xe_k _⟩, hs⟩ rfl c2
      · cases hx
  · cases hx
theorem xaw_ok {x : zm_X} {b : xv} {t : List xv} {v : Value} {s : List Value} (hD : xdok ρ σ τ h D) (hb : xc ρ σ b v) (hs : xsk ρ σ t s) (hx : xaw D b t = some l) : xLR ρ σ τ h D.2.2.2.2 l (zm_hp df og .arraylength x (v :: s) h) := by
  obtain ⟨tg, e, n⟩ := b
  unfold xaw at hx
  split at hx
  · rename_i h2; have h2 : tg = 5 := h2; subst h2
    have hb : v = .retAddr n := hb
    subst hb
    split at hx
    · rename_i q hq
      have hq : zm_ba n = some (.inl q) := hq
      cases h1 : Nat.ble q.2.1 60000 with
      | false => rw [h1] at hx; cases hx
      | true =>
        rw [h1] at hx
        cases hx
        have h1 := Nat.le_of_ble_eq_true h1
        have ez : zm_hp df og .arraylength x (.retAddr n :: s) h = some (.int (Int32.ofNat q.2.1) :: s, h) := by
          simp only [zm_hp, zm_rd, hq]
        rw [ez]
        refine xLR_id (s := (D, xi (xk (.ofNat q.2.1)) :: t)) hD ⟨⟨_, rfl, ?_⟩, hs⟩ rfl (List.mem_singleton.mpr rfl)
        show xe ρ (xk (.ofNat q.2.1)) = _
        rw [xe_k, Int32.toInt_ofNat_of_lt (by omega)]
        rfl
    · cases hx
  · cases hx
/-- the loads of arrays -/
def xhld (og : Nat → Option zm_C) (i : Jvm.ClassFile.Instr) (st : List Value) (h : zm_H) : Option (List Value × zm_H) := match i with
  | .aaload => zm_aal og st h
  | i => zm_ald og i st h
theorem xhld_ref {i : Jvm.ClassFile.Instr} {j : Int32} {ad : Nat} {s : List Value} : xhld og i (.int j :: .ref ad :: s) h = zm_ald og i (.int j :: .ref ad :: s) h := by
  cases i <;> rfl
theorem xin_ok {j : Int32} {n : Nat} (h0 : 0 ≤ j.toInt) (h1 : j.toInt ≤ (n : Int) - 1) : zm_in j n = true ∧ ((j.toNatClampNeg : Nat) : Int) = j.toInt ∧ j.toNatClampNeg < n := by
  have e : j.toNatClampNeg = j.toInt.toNat := rfl
  have h2 : j.toNatClampNeg < n := by rw [e]; omega
  have h3 : ¬ j < 0 := fun h => by
    have := Int32.lt_iff_toInt_lt.mp h
    have e0 : (0 : Int32).toInt = 0 := rfl
    omega
  refine ⟨?_, by rw [e]; omega, h2⟩
  unfold zm_in
  rw [decide_eq_false h3, decide_eq_true h2]
  rfl
theorem xao_ok {x : zm_X} {i : Jvm.ClassFile.Instr} {a b : xv} {t : List xv} {v : Value} {j : Int32} {s : List Value} (hi : zm_hp df og i x (.int j :: v :: s) h = xhld og i (.int j :: v :: s) h) (hD : xdok ρ σ τ h D) (he : xe ρ a.2.1 = some j.toInt) (hb : xc ρ σ b v) (hs : xsk ρ σ t s) (hx : xao i D a b t = some l) : xLR ρ σ τ h D.2.2.2.2 l (zm_hp df og i x (.int j :: v :: s) h) := by
  rw [hi]
  obtain ⟨tg, e, n⟩ := b
  have hn := hD.1.1
  unfold xao at hx
  split at hx
  · rename_i h2; have h2 : tg = 5 := h2; subst h2
    have hb : v = .retAddr n := hb
    subst hb
    split at hx
    · cases hc : Nat.beq n 1 && (xpv D.1.1.1 D.1.1.2 8 a.2.1 && xpv D.1.1.1 D.1.1.2 8 (xpl 35 (xng a.2.1))) with
      | false =>
        have hx : (bif Nat.beq n 1 && (xpv D.1.1.1 D.1.1.2 8 a.2.1 && xpv D.1.1.1 D.1.1.2 8 (xpl 35 (xng a.2.1))) then _ else _) = some l := hx
        rw [hc] at hx; cases hx
      | true =>
        have hx : (bif Nat.beq n 1 && (xpv D.1.1.1 D.1.1.2 8 a.2.1 && xpv D.1.1.1 D.1.1.2 8 (xpl 35 (xng a.2.1))) then _ else _) = some l := hx
        rw [hc] at hx
        cases hx
        simp only [Bool.and_eq_true] at hc
        have h1 := Nat.eq_of_beq_eq_true hc.1
        subst h1
        have h0 := xpv_ok hn.1 hn.2 8 he hc.2.1
        have h1 := xpv_ok hn.1 hn.2 8 (xe_pl 35 (xe_ng he)) hc.2.2
        obtain ⟨hin, hjn, hjlt⟩ := xin_ok (n := 36) (j := j) h0 (by omega)
        have ez : xhld og .aaload (.int j :: .retAddr 1 :: s) h = some (.retAddr (zm_wh j.toNatClampNeg) :: s, h) := by
          simp only [xhld, zm_aal, hin, cond_true]
        rw [ez]
        have hw : ∃ y, xwh[j.toNatClampNeg]? = some y := ⟨_, List.getElem?_eq_getElem (show j.toNatClampNeg < xwh.length from hjlt)⟩
        obtain ⟨y, hy⟩ := hw
        rw [(xw_ok hy).1]
        exact xLR_id (s := (D, (7, a.2.1, 0) :: t)) hD ⟨⟨j.toNatClampNeg, y, by show xe ρ a.2.1 = _; rw [hjn]; exact he, hy, rfl⟩, hs⟩ rfl (List.mem_singleton.mpr rfl)
    · cases h100 : Nat.ble 100 n with
      | false =>
        have hx : (bif Nat.ble 100 n then _ else _) = some l := hx
        rw [h100] at hx; cases hx
      | true =>
        have hx : (bif Nat.ble 100 n then (match zm_sb (n - 100) with
          | some l => _
          | none => _) else _) = some l := hx
        rw [h100] at hx
        simp only [cond_true] at hx
        have h100 := Nat.le_of_ble_eq_true h100
        split at hx
        · rename_i bs hbs
          cases hc : xpv D.1.1.1 D.1.1.2 8 a.2.1 && xpv D.1.1.1 D.1.1.2 8 (xpl (.ofNat bs.length) (xm1 (xng a.2.1))) with
          | false => rw [hc] at hx; cases hx
          | true =>
            rw [hc] at hx
            simp only [cond_true] at hx
            simp only [Bool.and_eq_true] at hc
            have h0 := xpv_ok hn.1 hn.2 8 he hc.1
            have h1 := xpv_ok hn.1 hn.2 8 (xe_pl (.ofNat bs.length) (xe_m1 (xe_ng he))) hc.2
            have h1 : 0 ≤ -j.toInt - 1 + (bs.length : Int) := h1
            obtain ⟨hin, hjn, hjlt⟩ := xin_ok (n := bs.length) (j := j) h0 (by omega)
            have hba := xba hbs
            rw [show n - 100 + 100 = n by omega] at hba
            have ez : xhld og .baload (.int j :: .retAddr n :: s) h = some (.int (bs.getD j.toNatClampNeg 0) :: s, h) := by
              simp only [xhld, zm_ald, zm_rd, hba, zm_lds, hin, Nat.beq_refl, Bool.true_or, Bool.and_self, cond_true, zm_kv]
            rw [ez]
            have hr := (xs_ok hbs).2 j.toNatClampNeg
            split at hx
            · rename_i ha
              cases hx
              have ej : j.toNatClampNeg = a.2.1.1.toNat := by
                have e1 : xe ρ a.2.1 = some a.2.1.1 := by
                  have e2 : a.2.1 = xk a.2.1.1 := by
                    obtain ⟨a1, ⟨a2, a3⟩, a4⟩ := a
                    have ha : a3 = [] := ha
                    subst ha
                    rfl
                  rw [e2]
                  exact xe_k _
                rw [e1] at he
                have := Option.some.inj he
                show j.toInt.toNat = _
                rw [this]
              rw [ej]
              exact xLR_id (s := (D, xi (xk (bs.getD a.2.1.1.toNat 0).toInt) :: t)) hD ⟨⟨_, rfl, xe_k _⟩, hs⟩ rfl (List.mem_singleton.mpr rfl)
            · cases hx
              exact xLR_r (D0 := D) (f := xi) hD rfl (xR_fr (x := (bs.getD j.toNatClampNeg 0).toInt) hD.1 hr.1 hr.2) hs (fun r hr => ⟨_, rfl, hr⟩) (List.mem_singleton.mpr rfl)
        · cases hx
    · cases hx
  · cases hx
theorem xgf_ok {x : zm_X} {i : Nat} (hH : xHI V.1 V.2.1 τ h) (hD : xdok ρ σ τ h D) (hs : xsk ρ σ st sc) (hx : xgf V x D st = some l) : xLR ρ σ τ h D.2.2.2.2 l (zm_hp df og (.getfield i) x sc h) := by
  unfold xgf at hx
  split at hx
  · rename_i b t
    obtain ⟨v, s, rfl, hc, hs'⟩ := xsk_cons hs
    split at hx
    · rename_i kd hkd
      obtain ⟨ad, rfl, had, ht⟩ := xkd_ok hH hD.2.1 hc hkd
      split at hx
      · rename_i d hK
        obtain ⟨fs, hh, hl, hsp⟩ := xcf_o hH ht hK
        cases hb : Nat.beq d.1 x.1 with
        | false => rw [hb] at hx; cases hx
        | true =>
          rw [hb] at hx
          simp only [cond_true] at hx
          have hz : ∀ w, fs[x.2.1]? = some w → zm_hp df og (.getfield i) x (.ref ad :: s) h = some (w :: s, h) := by
            intro w hw
            simp only [zm_hp, hh, zm_geto, hb, hw, cond_true]
          have hfd : xfd h ad x.2.1 = fs[x.2.1]? := by simp only [xfd, hh]
          split at hx
          · rename_i v hv
            cases hx
            obtain ⟨w, h1, h2⟩ := xlkf_ok had hD.2.2.1 hv
            rw [hfd] at h1
            rw [hz w h1]
            exact xLR_id (s := (D, v :: t)) hD ⟨h2, hs'⟩ rfl (List.mem_singleton.mpr rfl)
          · split at hx
            · rename_i sp hsp2
              have hlt := (List.getElem?_eq_some_iff.mp hsp2).1
              have hw : fs[x.2.1]? = some fs[x.2.1] := List.getElem?_eq_getElem (by omega)
              obtain ⟨a, ha, hsat⟩ := hsp _ _ _ hsp2 hw
              obtain ⟨q, hq, hm⟩ := xforks_ok hx ha
              obtain ⟨r, s2, h1, h2, h3⟩ := xfa_ok hD.1 hD.2.1 hsat hq
              rw [hz _ hw]
              refine ⟨_, rfl, _, hm, r, s2, ⟨h1, h2, ?_, xmao_mono hD.2.2.2⟩, ⟨h3, xsk_mono hs'⟩, rfl⟩
              intro p hp
              rcases List.mem_cons.mp hp with rfl | hp
              · exact ⟨ad, _, xad_mono had, by rw [hfd]; exact hw, h3⟩
              · exact xmo_mono hD.2.2.1 p hp
            · cases hx
      · cases hx
    · exact xgw_ok hD hc hs' hx
  · cases hx
theorem xalen_ok {x : zm_X} (hH : xHI V.1 V.2.1 τ h) (hD : xdok ρ σ τ h D) (hs : xsk ρ σ st sc) (hx : xalen V D st = some l) : xLR ρ σ τ h D.2.2.2.2 l (zm_hp df og .arraylength x sc h) := by
  unfold xalen at hx
  split at hx
  · rename_i b t
    obtain ⟨v, s, rfl, hc, hs'⟩ := xsk_cons hs
    split at hx
    · rename_i kd hkd
      obtain ⟨ad, rfl, had, ht⟩ := xkd_ok hH hD.2.1 hc hkd
      split at hx
      · rename_i d hK
        obtain ⟨k, hh, -, -⟩ := xcf_a hH ht hK
        cases hb : Nat.ble d.2.1 60000 with
        | false => rw [hb] at hx; cases hx
        | true =>
          rw [hb] at hx
          cases hx
          have hb := Nat.le_of_ble_eq_true hb
          have e : zm_hp df og .arraylength x (.ref ad :: s) h = some (.int (Int32.ofNat d.2.1) :: s, h) := by
            simp only [zm_hp, zm_rd, hh]
          rw [e]
          refine xLR_id (s := (D, xi (xk (.ofNat d.2.1)) :: t)) hD ⟨⟨_, rfl, ?_⟩, hs'⟩ rfl (List.mem_singleton.mpr rfl)
          show xe ρ (xk (.ofNat d.2.1)) = _
          rw [xe_k, Int32.toInt_ofNat_of_lt (by omega)]
          rfl
      · cases hx
    · exact xaw_ok hD hc hs' hx
  · cases hx
theorem xald_ok {kd ad j : Nat} {js : List xJ} {b : xv} {e : xl} {t : List xv} {s : List Value} {C : xC} {w : Value} (hF : xFl_ok V X) (hH : xHI V.1 V.2.1 τ h) (hX : X τ h) (hD : xdok ρ σ τ h D) (hC : xCok ρ C) (had : xad σ b = some ad) (ht : τ[ad]? = some kd) (he : xe ρ e = some (j : Int)) (hw : xar h ad j = some w) (hq : ∃ q ∈ js, xsat τ q.1 w ∧ xjok q j) (hs : xsk ρ σ t s) {l2 : List xHS} (hl2 : ∀ z, z ∈ l → z ∈ l2) (hx : xald V kd js b e t D C = some l) : xLR ρ σ τ h D.2.2.2.2 l2 (some (w :: s, h)) := by
  obtain ⟨q, hq1, hq2, hq3⟩ := hq
  obtain ⟨a', ha, hsat⟩ := hF ρ σ τ h D b kd e q.1 ad j w hH hX hD had ht he hw hq2
  unfold xald at hx
  obtain ⟨C', w', h1, h2, h3⟩ := xjf_ok hC he hq3 ha hx hq1
  obtain ⟨r, s2, h4, h5, h6⟩ := xfa_ok h1 hD.2.1 hsat h2
  refine ⟨_, rfl, _, hl2 _ h3, r, s2, ⟨h4, h5, xmo_mono hD.2.2.1, ?_⟩, ⟨h6, xsk_mono hs⟩, rfl⟩
  intro p hp
  rcases List.mem_cons.mp hp with rfl | hp
  · exact ⟨ad, j, w, xad_mono had, xe_mono he, hw, h6⟩
  · exact xmao_mono hD.2.2.2 p hp
theorem xapp3_ok {a b c : Option (List xHS)} (hx : xapp3 a b c = some l) : ∃ x y z, a = some x ∧ b = some y ∧ c = some z ∧ l = x ++ (y ++ z) := by
  unfold xapp3 at hx
  split at hx
  · cases hx; exact ⟨_, _, _, rfl, rfl, rfl, rfl⟩
  · cases hx
theorem xal_ok {x : zm_X} {mi pc : Nat} {i : Jvm.ClassFile.Instr} (hi : zm_hp df og i x sc h = xhld og i sc h) (hF : xFl_ok V X) (hH : xHI V.1 V.2.1 τ h) (hX : X τ h) (hD : xdok ρ σ τ h D) (hs : xsk ρ σ st sc) (hx : xal V mi pc i D st = some l) : xLR ρ σ τ h D.2.2.2.2 l (zm_hp df og i x sc h) := by
  unfold xal at hx
  split at hx
  · rename_i a b t
    obtain ⟨va, s1, rfl, ha, hs1⟩ := xsk_cons hs
    obtain ⟨vb, s, rfl, hb, hs'⟩ := xsk_cons hs1
    cases ht0 : Nat.beq a.1 0 with
    | false => rw [ht0] at hx; cases hx
    | true =>
      rw [ht0] at hx
      simp only [cond_true] at hx
      obtain ⟨j, rfl, he⟩ := xc_i ha ht0
      split at hx
      · rename_i kd hkd
        obtain ⟨ad, rfl, had, ht⟩ := xkd_ok hH hD.2.1 hb hkd
        split at hx
        · rename_i d hK
          obtain ⟨k, hh, hka, hel⟩ := xcf_a hH ht hK
          cases hc : zm_lds i d.1 && (xpv D.1.1.1 D.1.1.2 8 a.2.1 && xpv D.1.1.1 D.1.1.2 8 (xpl (.ofNat d.2.1) (xm1 (xng a.2.1)))) with
          | false => rw [hc] at hx; cases hx
          | true =>
            rw [hc] at hx
            simp only [cond_true] at hx
            simp only [Bool.and_eq_true] at hc
            have hn := hD.1.1
            have h0 := xpv_ok hn.1 hn.2 8 he hc.2.1
            have h1 := xpv_ok hn.1 hn.2 8 (xe_pl (.ofNat d.2.1) (xe_m1 (xe_ng he))) hc.2.2
            have h1 : 0 ≤ -j.toInt - 1 + (d.2.1 : Int) := h1
            obtain ⟨hin, hjn, hjlt⟩ := xin_ok (n := d.2.1) h0 (by omega)
            have hje : xe ρ a.2.1 = some ((j.toNatClampNeg : Nat) : Int) := by rw [hjn]; exact he
            have hw : xar h ad j.toNatClampNeg = some (zm_kv k j.toNatClampNeg) := by simp only [xar, hh, if_pos hjlt]
            have hz : zm_hp df og i x (.int j :: .ref ad :: s) h = some (zm_kv k j.toNatClampNeg :: s, h) := by
              rw [hi, xhld_ref]
              simp only [zm_ald, zm_rd, hh, hc.1, hin, Bool.and_self, cond_true]
            rw [hz]
            split at hx
            · rename_i v hv
              cases hx
              obtain ⟨j', w, k1, k2, k3⟩ := xlka_ok had hD.2.2.2 hv
              rw [hje] at k1
              have e : j' = j.toNatClampNeg := by
                have := Option.some.inj k1
                omega
              subst e
              rw [hw] at k2
              cases k2
              exact xLR_id (s := (D, v :: t)) hD ⟨k3, hs'⟩ rfl (List.mem_singleton.mpr rfl)
            · have base : ∀ {C : xC} {l1 l2 : List xHS}, xCok ρ C → (∀ z, z ∈ l1 → z ∈ l2) → xald V kd d.2.2 b a.2.1 t D C = some l1 → xLR ρ σ τ h D.2.2.2.2 l2 (some (zm_kv k j.toNatClampNeg :: s, h)) := fun hC hl hx => xald_ok hF hH hX hD hC had ht hje hw (hel _ hjlt) hs' hl hx
              cases hsp : V.2.2.2.2.2 mi pc with
              | false => rw [hsp] at hx; exact base hD.1 (fun z hz => hz) hx
              | true =>
                rw [hsp] at hx
                simp only [cond_true] at hx
                split at hx
                · rename_i p hp
                  obtain ⟨j', w, k1, k2, k3⟩ := xlkb_ok had hD.2.2.2 hp
                  obtain ⟨l1, l2, l3, q1, q2, q3, rfl⟩ := xapp3_ok hx
                  have hd := xe_add (k := .negSucc 0) hje k1
                  have hd : xe ρ (xadd (.negSucc 0) a.2.1 p.1) = some ((j.toNatClampNeg : Int) - (j' : Int)) := by
                    rw [hd]
                    congr 1
                    show _ + (-1) * _ = _
                    omega
                  by_cases heq : j' = j.toNatClampNeg
                  · subst heq
                    obtain ⟨n1, a1, a2⟩ := xas_ok hn hd (by omega)
                    obtain ⟨n2, a3, a4⟩ := xas_ok a2 (xe_ng hd) (by omega)
                    rw [a1] at q1
                    simp only [a3, xopt, Option.some.injEq] at q1
                    subst q1
                    rw [hw] at k2
                    cases k2
                    exact xLR_id (s := (xwC D (n2, D.1.2), p.2 :: t)) ⟨⟨a4, hD.1.2⟩, hD.2⟩ ⟨k3, hs'⟩ rfl (List.mem_append_left _ (List.mem_singleton.mpr rfl))
                  · by_cases hlt : j' < j.toNatClampNeg
                    · obtain ⟨n1, a1, a2⟩ := xas_ok hn (xe_m1 hd) (by omega)
                      rw [a1] at q2
                      exact base (C := (n1, D.1.2)) ⟨a2, hD.1.2⟩ (fun z hz => List.mem_append_right _ (List.mem_append_left _ hz)) q2
                    · obtain ⟨n1, a1, a2⟩ := xas_ok hn (xe_m1 (xe_ng hd)) (by omega)
                      rw [a1] at q3
                      exact base (C := (n1, D.1.2)) ⟨a2, hD.1.2⟩ (fun z hz => List.mem_append_right _ (List.mem_append_right _ hz)) q3
                · exact base hD.1 (fun z hz => hz) hx
        · cases hx
      · exact xao_ok hi hD he hb hs' hx
  · cases hx
end XLK
end
section
/-! Ninth part: what is written -/
def xF (MS : Nat → Nat → Bool) (τ : List Nat) (h : zm_H) (τ' : List Nat) (h' : zm_H) : Prop := (∃ s, τ' = τ ++ s) ∧ (∀ (a kd f : Nat) (v : Value), τ[a]? = some kd → MS kd f = false → xfd h a f = some v → xfd h' a f = some v) ∧ ∀ (a kd : Nat) (c : Nat × Nat × zm_K), τ[a]? = some kd → MS kd 0 = false → h[a]? = some (.inl c) → h'[a]? = some (.inl c)
theorem xF_refl (MS : Nat → Nat → Bool) (τ : List Nat) (h : zm_H) : xF MS τ h τ h := ⟨⟨[], (List.append_nil τ).symm⟩, fun _ _ _ _ _ _ h => h, fun _ _ _ _ _ h => h⟩
theorem xgl {τ s : List Nat} {a kd : Nat} (h : τ[a]? = some kd) : (τ ++ s)[a]? = some kd := by
  rw [List.getElem?_append_left (List.getElem?_eq_some_iff.mp h).1]
  exact h
theorem xF_trans {MS : Nat → Nat → Bool} {τ τ1 τ2 : List Nat} {h h1 h2 : zm_H} (a : xF MS τ h τ1 h1) (b : xF MS τ1 h1 τ2 h2) : xF MS τ h τ2 h2 := by
  obtain ⟨⟨s1, rfl⟩, a2, a3⟩ := a
  obtain ⟨⟨s2, rfl⟩, b2, b3⟩ := b
  refine ⟨⟨s1 ++ s2, List.append_assoc _ _ _⟩, fun x kd f v h1 h2 h3 => b2 x kd f v (xgl h1) h2 (a2 x kd f v h1 h2 h3), fun x kd c h1 h2 h3 => b3 x kd c (xgl h1) h2 (a3 x kd c h1 h2 h3)⟩
theorem xF_weak {MS MS' : Nat → Nat → Bool} {τ τ1 : List Nat} {h h1 : zm_H} (a : xF MS τ h τ1 h1) (hm : ∀ k f, MS k f = true → MS' k f = true) : xF MS' τ h τ1 h1 := by
  have hf : ∀ k f, MS' k f = false → MS k f = false := fun k f e => by
    cases e2 : MS k f with
    | false => rfl
    | true => rw [hm k f e2] at e; cases e
  exact ⟨a.1, fun x kd f v h1 h2 h3 => a.2.1 x kd f v h1 (hf _ _ h2) h3, fun x kd c h1 h2 h3 => a.2.2 x kd c h1 (hf _ _ h2) h3⟩
/-- what else is known of the heap, and its size: what writes must leave -/
def xXW (V : xEnv) (X : List Nat → zm_H → Prop) (W : zm_H → Nat) : Prop :=
  (∀ (τ : List Nat) (h : zm_H) (a kd ci f : Nat) (fs : List Value) (v : Value), X τ h → τ[a]? = some kd → V.2.2.1 kd f = false → h[a]? = some (.inr (ci, fs)) → f < fs.length → X τ (h.set a (.inr (ci, fs.set f v))) ∧ W (h.set a (.inr (ci, fs.set f v))) = W h) ∧
  (∀ (τ : List Nat) (h : zm_H) (a kd t n : Nat) (k k' : zm_K), X τ h → τ[a]? = some kd → V.2.2.1 kd 0 = false → h[a]? = some (.inl (t, n, k)) → X τ (h.set a (.inl (t, n, k'))) ∧ W (h.set a (.inl (t, n, k'))) = W h) ∧
  (∀ (τ : List Nat) (h : zm_H) (kd t n : Nat) (k : zm_K), X τ h → xHI V.1 V.2.1 τ h → X (τ ++ [kd]) (h ++ [.inl (t, n, k)]) ∧ W (h ++ [.inl (t, n, k)]) = W h + n + 13)
def xWR (V : xEnv) (X : List Nat → zm_H → Prop) (W : zm_H → Nat) (MS : Nat → Nat → Bool) (ρ : List Int) (σ τ : List Nat) (h : zm_H) (g : Nat) (l : List xHS) (z : Option (List Value × zm_H)) : Prop := ∃ (sc : List Value) (h' : zm_H) (τ' : List Nat), z = some (sc, h') ∧ xHI V.1 V.2.1 τ' h' ∧ X τ' h' ∧ xF MS τ h τ' h' ∧ ∃ s ∈ l, ∃ r s', xdok (ρ ++ r) (σ ++ s') τ' h' s.1 ∧ xsk (ρ ++ r) (σ ++ s') s.2 sc ∧ W h' + g ≤ W h + s.1.2.2.2.2
theorem xgs {h : zm_H} {a b : Nat} {c d : zm_C} (ha : h[a]? = some d) : (h.set a c)[b]? = if a = b then some c else h[b]? := by
  rw [List.getElem?_set]
  by_cases e : a = b
  · subst e
    rw [if_pos rfl, if_pos rfl, if_pos (List.getElem?_eq_some_iff.mp ha).1]
  · rw [if_neg e, if_neg e]
section XWK
variable {ρ : List Int} {σ τ : List Nat} {h : zm_H} {V : xEnv} {X : List Nat → zm_H → Prop} {W : zm_H → Nat} {MS : Nat → Nat → Bool} {D : xD} {st : List xv} {sc : List Value} {l : List xHS} {df : Nat → List Value} {og : Nat → Option zm_C}
theorem xHI_set {KT : Nat → Option xKD} {SG : Nat → Bool} {a kd : Nat} {K : xKD} {c d : zm_C} (hH : xHI KT SG τ h) (hd : h[a]? = some d) (ht : τ[a]? = some kd) (hk : KT kd = some K) (hc : xcf τ K c) : xHI KT SG τ (h.set a c) := by
  refine ⟨by rw [List.length_set]; exact hH.1, fun b kb hb => ?_, hH.2.2⟩
  by_cases e : a = b
  · subst e
    rw [ht] at hb
    cases hb
    exact ⟨K, c, hk, by rw [xgs hd, if_pos rfl], hc⟩
  · obtain ⟨D', c', h1, h2, h3⟩ := hH.2.1 b kb hb
    exact ⟨D', c', h1, by rw [xgs hd, if_neg e]; exact h2, h3⟩
def xkill (V : xEnv) (rk : List Nat) (kd f : Nat) (m : xM) : xM := m.filter (fun q => !(Nat.beq q.2.1 f && (match xkd V.2.1 rk q.1 with
  | some k => Nat.beq k kd
  | none => true)))
def xkila (V : xEnv) (rk : List Nat) (kd : Nat) (m : xMA) : xMA := m.filter (fun q => !(match xkd V.2.1 rk q.1 with
  | some k => Nat.beq k kd
  | none => true))
def xpf (V : xEnv) (MS : Nat → Nat → Bool) (x : zm_X) (D : xD) (st : List xv) : Option (List xHS) := match st with
  | v :: b :: t => (match xkd V.2.1 D.2.1 b with
    | some kd => (match V.1 kd with
      | some (.inl d) => bif Nat.beq d.1 x.1 && (!(V.2.2.1 kd x.2.1) && MS kd x.2.1) then (match d.2[x.2.1]? with
        | some sp => bif sp.any (fun a => xcon D.1.1 D.2.1 v a && xokt (zm_ft d.1 x.2.1) a) then some [((D.1, D.2.1, (b, x.2.1, v) :: xkill V D.2.1 kd x.2.1 D.2.2.1, D.2.2.2), t)] else none
        | none => none) else none
      | _ => none)
    | none => none)
  | _ => none
theorem xpf_ok {x : zm_X} {i : Nat} (hX2 : xXW V X W) (hH : xHI V.1 V.2.1 τ h) (hX : X τ h) (hD : xdok ρ σ τ h D) (hs : xsk ρ σ st sc) (hx : xpf V MS x D st = some l) : xWR V X W MS ρ σ τ h D.2.2.2.2 l (zm_hp df og (.putfield i) x sc h) := by
  unfold xpf at hx
  split at hx
  · rename_i v b t
    obtain ⟨wv, s1, rfl, hv, hs1⟩ := xsk_cons hs
    obtain ⟨wb, s, rfl, hb, hs'⟩ := xsk_cons hs1
    split at hx
    · rename_i kd hkd
      obtain ⟨ad, rfl, had, ht⟩ := xkd_ok hH hD.2.1 hb hkd
      split at hx
      · rename_i d hK
        obtain ⟨fs, hh, hl, hsp⟩ := xcf_o hH ht hK
        cases hc : Nat.beq d.1 x.1 && (!(V.2.2.1 kd x.2.1) && MS kd x.2.1) with
        | false => rw [hc] at hx; cases hx
        | true =>
          rw [hc] at hx
          simp only [cond_true] at hx
          simp only [Bool.and_eq_true, Bool.not_eq_true'] at hc
          obtain ⟨hci, hpr, hms⟩ := hc
          split at hx
          · rename_i sp hsp2
            cases ha : sp.any (fun a => xcon D.1.1 D.2.1 v a && xokt (zm_ft d.1 x.2.1) a) with
            | false => rw [ha] at hx; cases hx
            | true =>
              rw [ha] at hx
              cases hx
              obtain ⟨a, ham, hac⟩ := List.any_eq_true.mp ha
              simp only [Bool.and_eq_true] at hac
              have hsat := xcon_ok hD.1.1 hD.2.1 hv hac.1
              have hlt := (List.getElem?_eq_some_iff.mp hsp2).1
              have hokv := xokt_ok hsat hac.2
              have hz : zm_hp df og (.putfield i) x (wv :: .ref ad :: s) h = some (s, h.set ad (.inr (d.1, fs.set x.2.1 wv))) := by
                have hbl : Nat.blt x.2.1 fs.length = true := by rw [Nat.blt_eq]; omega
                simp only [zm_hp, hh, zm_puto, hci, hbl, hokv, Bool.and_self, cond_true]
              obtain ⟨hX', hW⟩ := hX2.1 τ h ad kd d.1 x.2.1 fs wv hX ht hpr hh (by omega)
              have hfd : ∀ b f, (b ≠ ad ∨ f ≠ x.2.1) → xfd (h.set ad (.inr (d.1, fs.set x.2.1 wv))) b f = xfd h b f := by
                intro b f hne
                unfold xfd
                rw [xgs hh]
                by_cases e : ad = b
                · subst e
                  rw [if_pos rfl, hh]
                  have : f ≠ x.2.1 := hne.resolve_left (fun h => h rfl)
                  exact List.getElem?_set_ne (fun e => this e.symm)
                · rw [if_neg e]
              refine ⟨s, _, τ, hz, xHI_set hH hh ht hK ⟨_, rfl, by rw [List.length_set]; exact hl, fun f sp' v' h1 h2 => ?_⟩, hX', ⟨⟨[], (List.append_nil τ).symm⟩, fun b kb f w hb2 hm hw => ?_, fun b kb c hb2 hm hw => ?_⟩, _, List.mem_singleton.mpr rfl, [], [], ?_, ?_, ?_⟩
              · by_cases e : x.2.1 = f
                · subst e
                  rw [hsp2] at h1
                  cases h1
                  rw [List.getElem?_set_self (by omega)] at h2
                  cases h2
                  exact ⟨a, ham, hsat⟩
                · rw [List.getElem?_set_ne e] at h2
                  exact hsp f sp' v' h1 h2
              · rw [hfd]
                · exact hw
                · by_cases e : b = ad
                  · right
                    subst e
                    rw [ht] at hb2
                    cases hb2
                    rintro rfl
                    rw [hms] at hm
                    cases hm
                  · exact Or.inl e
              · rw [xgs hh]
                by_cases e : ad = b
                · subst e
                  rw [hh] at hw
                  cases hw
                · rw [if_neg e]
                  exact hw
              · rw [List.append_nil, List.append_nil]
                refine ⟨hD.1, hD.2.1, ?_, ?_⟩
                · intro q hq
                  rcases List.mem_cons.mp hq with rfl | hq
                  · refine ⟨ad, wv, had, ?_, hv⟩
                    unfold xfd
                    rw [xgs hh, if_pos rfl]
                    exact List.getElem?_set_self (by omega)
                  · obtain ⟨hqm, hqk⟩ := List.mem_filter.mp hq
                    obtain ⟨a2, w2, p1, p2, p3⟩ := hD.2.2.1 q hqm
                    refine ⟨a2, w2, p1, ?_, p3⟩
                    rw [hfd]
                    · exact p2
                    · simp only [Bool.not_eq_true', Bool.and_eq_false_iff] at hqk
                      rcases hqk with e | e
                      · right
                        rintro e2
                        rw [e2, Nat.beq_refl] at e
                        cases e
                      · left
                        rintro rfl
                        split at e
                        · rename_i k hk
                          have := xkd_ad hH hD.2.1 p1 hk
                          rw [ht] at this
                          cases this
                          rw [Nat.beq_refl] at e
                          cases e
                        · cases e
                · intro q hq
                  obtain ⟨a2, j, w2, p1, p2, p3, p4⟩ := hD.2.2.2 q hq
                  refine ⟨a2, j, w2, p1, p2, ?_, p4⟩
                  unfold xar at p3 ⊢
                  rw [xgs hh]
                  by_cases e : ad = a2
                  · subst e
                    rw [hh] at p3
                    cases p3
                  · rw [if_neg e]
                    exact p3
              · rw [List.append_nil, List.append_nil]
                exact hs'
              · rw [hW]
                exact Nat.le_refl _
          · cases hx
      · cases hx
    · cases hx
  · cases hx
end XWK
end
section
/-! Tenth part: stores into arrays, new arrays, Math -/
def xjin (n : xN) (e : xl) (q : xJ) : Bool := xpv n.1 n.2 8 (xpl (-q.2.1) e) && (xpv n.1 n.2 8 (xpl q.2.2.1 (xng e)) && (match q.2.2.2.1 with
  | 0 => true
  | m + 1 => (match xres (m + 1) e with
    | some r => Nat.beq r q.2.2.2.2
    | none => false)))
theorem xjin_ok {ρ : List Int} {n : xN} {e : xl} {q : xJ} {j : Nat} (hn : xnok ρ n) (he : xe ρ e = some (j : Int)) (h : xjin n e q = true) : xjok q j := by
  unfold xjin at h
  simp only [Bool.and_eq_true] at h
  have h1 := xpv_ok hn.1 hn.2 8 (xe_pl (-q.2.1) he) h.1
  have h2 := xpv_ok hn.1 hn.2 8 (xe_pl q.2.2.1 (xe_ng he)) h.2.1
  refine ⟨by omega, by omega, ?_⟩
  have h3 := h.2.2
  split at h3
  · rename_i hm; exact Or.inl hm
  · rename_i m hm
    split at h3
    · rename_i r hr
      right
      rw [hm]
      have := xres_ok he (by omega) hr
      rw [this]
      exact Nat.eq_of_beq_eq_true h3
    · cases h3
/-- which arrays an instruction writes to, and that the value isn't cut -/
def xfit (i : Jvm.ClassFile.Instr) (t : Nat) (n : xN) (v : xv) : Bool := match i with
  | .iastore => Nat.beq t 0 && Nat.beq v.1 0
  | .lastore => Nat.beq t 1 && Nat.beq v.1 1
  | .bastore => Nat.beq v.1 0 && (bif Nat.beq t 2 then xbt n.1 (.negSucc 127) (.ofNat 127) v.2.1 else Nat.beq t 3 && xbt n.1 0 1 v.2.1)
  | _ => false
def xast (V : xEnv) (MS : Nat → Nat → Bool) (i : Jvm.ClassFile.Instr) (D : xD) (st : List xv) : Option (List xHS) := match st with
  | v :: a :: b :: t => bif Nat.beq a.1 0 then (match xkd V.2.1 D.2.1 b with
    | some kd => (match V.1 kd with
      | some (.inr d) => bif (!(V.2.2.1 kd 0) && MS kd 0) && (xfit i d.1 D.1.1 v && ((xpv D.1.1.1 D.1.1.2 8 a.2.1 && xpv D.1.1.1 D.1.1.2 8 (xpl (.ofNat d.2.1) (xm1 (xng a.2.1)))) && d.2.2.any (fun q => xcon D.1.1 D.2.1 v q.1 && xjin D.1.1 a.2.1 q))) then some [((D.1, D.2.1, D.2.2.1, (b, a.2.1, v) :: xkila V D.2.1 kd D.2.2.2.1, D.2.2.2.2), t)] else none
      | _ => none)
    | none => none) else none
  | _ => none
/-- an array with another value at a place -/
def xkup (k : zm_K) (j : Nat) (v : Value) (k' : zm_K) : Prop := ∀ i : Nat, zm_kv k' i = if i = j then v else zm_kv k i
section XST
variable {ρ : List Int} {σ τ : List Nat} {h : zm_H} {V : xEnv} {X : List Nat → zm_H → Prop} {W : zm_H → Nat} {MS : Nat → Nat → Bool} {D : xD} {st : List xv} {sc : List Value} {l : List xHS} {df : Nat → List Value} {og : Nat → Option zm_C}
theorem xast_1 {i : Jvm.ClassFile.Instr} {x : zm_X} {n : xN} {v : xv} {w : Value} {j : Int32} {ad t m : Nat} {k : zm_K} {s : List Value} (hn : xnok ρ n) (hv : xc ρ σ v w) (hf : xfit i t n v = true) (hh : h[ad]? = some (.inl (t, m, k))) (hk : xka t k) (hin : zm_in j m = true) : ∃ k', zm_hp df og i x (w :: .int j :: .ref ad :: s) h = some (s, h.set ad (.inl (t, m, k'))) ∧ xka t k' ∧ xkup k j.toNatClampNeg w k' := by
  unfold xfit at hf
  split at hf
  · simp only [Bool.and_eq_true] at hf
    have ht : t = 0 := Nat.eq_of_beq_eq_true hf.1
    subst ht
    obtain ⟨a, rfl, -⟩ := xc_i hv hf.2
    obtain ⟨f, rfl⟩ := hk
    refine ⟨.inl (upd f j.toNatClampNeg a), ?_, ⟨_, rfl⟩, fun i => ?_⟩
    · simp only [zm_hp, zm_iast, hh, hin, Nat.beq_refl, Bool.and_self, cond_true]
    · show Value.int (if i = _ then a else f i) = if i = _ then _ else Value.int (f i)
      by_cases e : i = j.toNatClampNeg
      · rw [if_pos e, if_pos e]
      · rw [if_neg e, if_neg e]
  · simp only [Bool.and_eq_true] at hf
    have ht : t = 1 := Nat.eq_of_beq_eq_true hf.1
    subst ht
    obtain ⟨a, rfl, -⟩ := xc_L hv hf.2
    obtain ⟨f, rfl⟩ := hk
    refine ⟨.inr (.inl (vp_updL f j.toNatClampNeg a)), ?_, ⟨_, rfl⟩, fun i => ?_⟩
    · simp only [zm_hp, zm_last, hh, hin, Nat.beq_refl, Bool.and_self, cond_true]
    · show Value.long (if i = _ then a else f i) = if i = _ then _ else Value.long (f i)
      by_cases e : i = j.toNatClampNeg
      · rw [if_pos e, if_pos e]
      · rw [if_neg e, if_neg e]
  · simp only [Bool.and_eq_true] at hf
    obtain ⟨a, rfl, he⟩ := xc_i hv hf.1
    cases h2 : Nat.beq t 2 with
    | true =>
      have ht : t = 2 := Nat.eq_of_beq_eq_true h2
      subst ht
      obtain ⟨f, rfl⟩ := hk
      have hr : xbt n.1 (.negSucc 127) (.ofNat 127) v.2.1 = true := hf.2
      obtain ⟨b1, b2⟩ := xbt_ok hn.1 hr he
      have ea : a.toInt8.toInt32 = a := Int32.toInt_inj.mp ((xi2b_ok a).2.2 b1 b2)
      refine ⟨.inl (upd f j.toNatClampNeg a), ?_, ⟨_, rfl⟩, fun i => ?_⟩
      · simp only [zm_hp, zm_bast, hh, hin, Nat.beq_refl, cond_true, ea]
      · show Value.int (if i = _ then a else f i) = if i = _ then _ else Value.int (f i)
        by_cases e : i = j.toNatClampNeg
        · rw [if_pos e, if_pos e]
        · rw [if_neg e, if_neg e]
    | false =>
      have hr : (Nat.beq t 3 && xbt n.1 0 1 v.2.1) = true := by
        have := hf.2
        rw [h2] at this
        exact this
      simp only [Bool.and_eq_true] at hr
      have ht : t = 3 := Nat.eq_of_beq_eq_true hr.1
      subst ht
      obtain ⟨f, rfl⟩ := hk
      obtain ⟨b1, b2⟩ := xbt_ok hn.1 hr.2 he
      have ea : a &&& 1 = a := by
        rcases (show a.toInt = 0 ∨ a.toInt = 1 by omega) with e | e
        · have : a = 0 := Int32.toInt_inj.mp e
          subst this; rfl
        · have : a = 1 := Int32.toInt_inj.mp e
          subst this; rfl
      refine ⟨.inl (upd f j.toNatClampNeg a), ?_, ⟨_, rfl⟩, fun i => ?_⟩
      · simp only [zm_hp, zm_bast, hh, hin, h2, Nat.beq_refl, cond_true, cond_false, ea]
      · show Value.int (if i = _ then a else f i) = if i = _ then _ else Value.int (f i)
        by_cases e : i = j.toNatClampNeg
        · rw [if_pos e, if_pos e]
        · rw [if_neg e, if_neg e]
  · cases hf
theorem xast_ok {x : zm_X} {i : Jvm.ClassFile.Instr} (hX2 : xXW V X W) (hH : xHI V.1 V.2.1 τ h) (hX : X τ h) (hD : xdok ρ σ τ h D) (hs : xsk ρ σ st sc) (hx : xast V MS i D st = some l) : xWR V X W MS ρ σ τ h D.2.2.2.2 l (zm_hp df og i x sc h) := by
  unfold xast at hx
  split at hx
  · rename_i v a b t
    obtain ⟨wv, s1, rfl, hv, hs1⟩ := xsk_cons hs
    obtain ⟨wa, s2, rfl, ha, hs2⟩ := xsk_cons hs1
    obtain ⟨wb, s, rfl, hb, hs'⟩ := xsk_cons hs2
    cases ht0 : Nat.beq a.1 0 with
    | false => rw [ht0] at hx; cases hx
    | true =>
      rw [ht0] at hx
      simp only [cond_true] at hx
      obtain ⟨j, rfl, he⟩ := xc_i ha ht0
      split at hx
      · rename_i kd hkd
        obtain ⟨ad, rfl, had, ht⟩ := xkd_ok hH hD.2.1 hb hkd
        split at hx
        · rename_i d hK
          obtain ⟨k, hh, hka, hel⟩ := xcf_a hH ht hK
          cases hc : (!(V.2.2.1 kd 0) && MS kd 0) && (xfit i d.1 D.1.1 v && ((xpv D.1.1.1 D.1.1.2 8 a.2.1 && xpv D.1.1.1 D.1.1.2 8 (xpl (.ofNat d.2.1) (xm1 (xng a.2.1)))) && d.2.2.any (fun q => xcon D.1.1 D.2.1 v q.1 && xjin D.1.1 a.2.1 q))) with
          | false => rw [hc] at hx; cases hx
          | true =>
            rw [hc] at hx
            cases hx
            rw [Bool.and_eq_true, Bool.and_eq_true, Bool.and_eq_true, Bool.and_eq_true, Bool.and_eq_true, Bool.not_eq_true'] at hc
            obtain ⟨⟨hpr, hms⟩, hfit, ⟨hi1, hi2⟩, hany⟩ := hc
            have hn := hD.1.1
            have h0 := xpv_ok hn.1 hn.2 8 he hi1
            have h1 := xpv_ok hn.1 hn.2 8 (xe_pl (.ofNat d.2.1) (xe_m1 (xe_ng he))) hi2
            have h1 : 0 ≤ -j.toInt - 1 + (d.2.1 : Int) := h1
            obtain ⟨hin, hjn, hjlt⟩ := xin_ok (n := d.2.1) h0 (by omega)
            have hje : xe ρ a.2.1 = some ((j.toNatClampNeg : Nat) : Int) := by rw [hjn]; exact he
            obtain ⟨q, hq, hqc⟩ := List.any_eq_true.mp hany
            simp only [Bool.and_eq_true] at hqc
            have hsat := xcon_ok hn hD.2.1 hv hqc.1
            have hjok := xjin_ok hn hje hqc.2
            obtain ⟨k', hz, hka', hup⟩ := xast_1 (df := df) (og := og) (x := x) (s := s) hn hv hfit hh hka hin
            obtain ⟨hX', hW⟩ := hX2.2.1 τ h ad kd d.1 d.2.1 k k' hX ht hpr hh
            refine ⟨s, _, τ, hz, xHI_set hH hh ht hK ⟨k', rfl, hka', fun i hi => ?_⟩, hX', ⟨⟨[], (List.append_nil τ).symm⟩, fun b kb f w hb2 hm hw => ?_, fun b kb c hb2 hm hw => ?_⟩, _, List.mem_singleton.mpr rfl, [], [], ?_, ?_, ?_⟩
            · rw [hup]
              by_cases e : i = j.toNatClampNeg
              · rw [if_pos e]
                subst e
                exact ⟨q, hq, hsat, hjok⟩
              · rw [if_neg e]
                exact hel i hi
            · unfold xfd at hw ⊢
              rw [xgs hh]
              by_cases e : ad = b
              · subst e
                rw [hh] at hw
                cases hw
              · rw [if_neg e]
                exact hw
            · rw [xgs hh]
              by_cases e : ad = b
              · subst e
                rw [ht] at hb2
                cases hb2
                rw [hms] at hm
                cases hm
              · rw [if_neg e]
                exact hw
            · rw [List.append_nil, List.append_nil]
              refine ⟨hD.1, hD.2.1, ?_, ?_⟩
              · intro p hp
                obtain ⟨a2, w2, p1, p2, p3⟩ := hD.2.2.1 p hp
                refine ⟨a2, w2, p1, ?_, p3⟩
                unfold xfd at p2 ⊢
                rw [xgs hh]
                by_cases e : ad = a2
                · subst e
                  rw [hh] at p2
                  cases p2
                · rw [if_neg e]
                  exact p2
              · intro p hp
                rcases List.mem_cons.mp hp with rfl | hp
                · refine ⟨ad, j.toNatClampNeg, wv, had, hje, ?_, hv⟩
                  have hu := hup j.toNatClampNeg
                  rw [if_pos rfl] at hu
                  simp only [xar, xgs hh, if_pos, if_pos hjlt, hu]
                · obtain ⟨hpm, hpk⟩ := List.mem_filter.mp hp
                  obtain ⟨a2, j2, w2, p1, p2, p3, p4⟩ := hD.2.2.2 p hpm
                  refine ⟨a2, j2, w2, p1, p2, ?_, p4⟩
                  unfold xar at p3 ⊢
                  rw [xgs hh]
                  by_cases e : ad = a2
                  · subst e
                    simp only [Bool.not_eq_true'] at hpk
                    split at hpk
                    · rename_i k2 hk2
                      have := xkd_ad hH hD.2.1 p1 hk2
                      rw [ht] at this
                      cases this
                      rw [Nat.beq_refl] at hpk
                      cases hpk
                    · cases hpk
                  · rw [if_neg e]
                    exact p3
            · rw [List.append_nil, List.append_nil]
              exact hs'
            · rw [hW]
              exact Nat.le_refl _
        · cases hx
      · cases hx
  · cases hx
/-! a new array -/
def xz0 (t n : Nat) (q : xJ) : Bool := Nat.beq q.2.2.2.1 0 && (xle q.2.1 0 && (xle (.ofNat n) (q.2.2.1 + 1) && (bif Nat.beq q.1.1 0 then !(Nat.beq t 1) && (xle q.1.2.2.1 0 && xle 0 q.1.2.2.2) else Nat.beq q.1.1 1 && Nat.beq t 1)))
def xnew (V : xEnv) (mi pc : Nat) (x : zm_X) (D : xD) (st : List xv) : Option (List xHS) := match st with
  | a :: t => (match V.2.2.2.2.1 mi pc with
    | some kd => (match V.1 kd with
      | some (.inr d) => bif Nat.beq a.1 0 && (xeq a.2.1 (xk (.ofNat d.2.1)) && (Nat.ble d.2.1 60000 && (Nat.beq d.1 x.1 && (Nat.ble d.1 3 && d.2.2.any (xz0 d.1 d.2.1))))) then some [((D.1, D.2.1 ++ [kd], D.2.2.1, D.2.2.2.1, D.2.2.2.2 + d.2.1 + 13), (4, xk 0, D.2.1.length) :: t)] else none
      | _ => none)
    | none => none)
  | _ => none
theorem xnew_ok {x : zm_X} {mi pc : Nat} {ty : ArrayType} (hX2 : xXW V X W) (hH : xHI V.1 V.2.1 τ h) (hX : X τ h) (hD : xdok ρ σ τ h D) (hs : xsk ρ σ st sc) (hx : xnew V mi pc x D st = some l) : xWR V X W MS ρ σ τ h D.2.2.2.2 l (zm_hp df og (.newarray ty) x sc h) := by
  unfold xnew at hx
  split at hx
  · rename_i a t
    obtain ⟨wa, s, rfl, ha, hs'⟩ := xsk_cons hs
    split at hx
    · rename_i kd hkd
      split at hx
      · rename_i d hK
        cases hc : Nat.beq a.1 0 && (xeq a.2.1 (xk (.ofNat d.2.1)) && (Nat.ble d.2.1 60000 && (Nat.beq d.1 x.1 && (Nat.ble d.1 3 && d.2.2.any (xz0 d.1 d.2.1))))) with
        | false => rw [hc] at hx; cases hx
        | true =>
          rw [hc] at hx
          cases hx
          simp only [Bool.and_eq_true] at hc
          obtain ⟨h1, h2, h3, h4, h5, h6⟩ := hc
          obtain ⟨i, rfl, he⟩ := xc_i ha h1
          have h3 := Nat.le_of_ble_eq_true h3
          have h4 : d.1 = x.1 := Nat.eq_of_beq_eq_true h4
          have h5 := Nat.le_of_ble_eq_true h5
          rw [of_decide_eq_true h2, xe_k] at he
          have hi : i.toInt = (d.2.1 : Int) := (Option.some.inj he).symm
          have hcl : i.toNatClampNeg = d.2.1 := by
            show i.toInt.toNat = d.2.1
            omega
          have hneg : ¬ i < 0 := fun hlt => by
            have := Int32.lt_iff_toInt_lt.mp hlt
            have e0 : (0 : Int32).toInt = 0 := rfl
            omega
          have hz : zm_hp df og (.newarray ty) x (.int i :: s) h = some (.ref h.length :: s, h ++ [.inl (d.1, d.2.1, zm_zero d.1)]) := by
            have hb : Nat.ble d.2.1 60000 = true := Nat.ble_eq_true_of_le h3
            simp only [zm_hp, zm_newa, decide_eq_false hneg, hcl, hb, Bool.not_false, Bool.and_self, cond_true, ← h4]
          obtain ⟨hX', hW⟩ := hX2.2.2 τ h kd d.1 d.2.1 (zm_zero d.1) hX hH
          have hlen := hH.1
          have hgl : ∀ {a : Nat} {c : zm_C}, h[a]? = some c → (h ++ [Sum.inl (d.1, d.2.1, zm_zero d.1)])[a]? = some c := fun hc => by
            rw [List.getElem?_append_left (List.getElem?_eq_some_iff.mp hc).1]
            exact hc
          have hcell : xcf (τ ++ [kd]) (.inr d) (.inl (d.1, d.2.1, zm_zero d.1)) := by
            obtain ⟨q, hq, hq0⟩ := List.any_eq_true.mp h6
            simp only [xz0, Bool.and_eq_true, xle_iff] at hq0
            obtain ⟨q1, q2, q3, q4⟩ := hq0
            have q1 : q.2.2.2.1 = 0 := Nat.eq_of_beq_eq_true q1
            have q3 : (d.2.1 : Int) ≤ q.2.2.1 + 1 := q3
            obtain ⟨t0, n0, js⟩ := d
            refine ⟨_, rfl, ?_, fun j hj => ⟨q, hq, ?_, by omega, by have hj : j < n0 := hj; have q3 : (n0 : Int) ≤ q.2.2.1 + 1 := q3; omega, Or.inl q1⟩⟩
            · rcases (show t0 = 0 ∨ t0 = 1 ∨ t0 = 2 ∨ t0 = 3 by have h5 : t0 ≤ 3 := h5; omega) with rfl | rfl | rfl | rfl
              · exact ⟨_, rfl⟩
              · exact ⟨_, rfl⟩
              · exact ⟨_, rfl⟩
              · exact ⟨_, rfl⟩
            · obtain ⟨⟨tq, nq, lo, hi⟩, qq⟩ := q
              cases hq5 : Nat.beq tq 0 with
              | true =>
                have q5 : (!(Nat.beq t0 1) && (xle lo 0 && xle 0 hi)) = true := by
                  have q4 : (bif Nat.beq tq 0 then (!(Nat.beq t0 1) && (xle lo 0 && xle 0 hi)) else _) = true := q4
                  rw [hq5] at q4
                  exact q4
                rw [Bool.and_eq_true, Bool.and_eq_true, Bool.not_eq_true', xle_iff, xle_iff] at q5
                have hq5 : tq = 0 := Nat.eq_of_beq_eq_true hq5
                subst hq5
                have hv : zm_kv (zm_zero t0) j = .int 0 := by
                  rcases (show t0 = 0 ∨ t0 = 1 ∨ t0 = 2 ∨ t0 = 3 by have h5 : t0 ≤ 3 := h5; omega) with rfl | rfl | rfl | rfl
                  · rfl
                  · cases q5.1
                  · rfl
                  · rfl
                show xsat _ _ (zm_kv (zm_zero t0) j)
                rw [hv]
                exact ⟨0, rfl, q5.2.1, q5.2.2⟩
              | false =>
                have q5 : (Nat.beq tq 1 && Nat.beq t0 1) = true := by
                  have q4 : (bif Nat.beq tq 0 then _ else (Nat.beq tq 1 && Nat.beq t0 1)) = true := q4
                  rw [hq5] at q4
                  exact q4
                rw [Bool.and_eq_true] at q5
                have e1 : tq = 1 := Nat.eq_of_beq_eq_true q5.1
                have e2 : t0 = 1 := Nat.eq_of_beq_eq_true q5.2
                subst e1
                subst e2
                exact ⟨0, rfl⟩
          refine ⟨_, _, τ ++ [kd], hz, ⟨?_, fun b kb hb => ?_, fun b hb => xgl (hH.2.2 b hb)⟩, hX', ⟨⟨[kd], rfl⟩, fun b kb f w hb2 hm hw => ?_, fun b kb c hb2 hm hw => hgl hw⟩, _, List.mem_singleton.mpr rfl, [], [h.length], ?_, ?_, ?_⟩
          · simp [hlen]
          · by_cases hlt : b < τ.length
            · rw [List.getElem?_append_left hlt] at hb
              obtain ⟨D', c', k1, k2, k3⟩ := hH.2.1 b kb hb
              exact ⟨D', c', k1, hgl k2, xcf_mono k3⟩
            · have hl2 := (List.getElem?_eq_some_iff.mp hb).1
              rw [List.length_append, List.length_singleton] at hl2
              have e : b = τ.length := by omega
              subst e
              have hb : kd = kb := by simpa using hb
              subst hb
              refine ⟨_, _, hK, ?_, hcell⟩
              rw [← hlen]
              simp
          · unfold xfd at hw ⊢
            split at hw
            · rename_i o ho
              rw [hgl ho]
              exact hw
            · cases hw
          · rw [List.append_nil]
            refine ⟨hD.1, ⟨?_, fun k kb hk => ?_⟩, ?_, ?_⟩
            · show (σ ++ [h.length]).length = (D.2.1 ++ [kd]).length
              simp [hD.2.1.1]
            · have hk : (D.2.1 ++ [kd])[k]? = some kb := hk
              by_cases hlt : k < D.2.1.length
              · rw [List.getElem?_append_left hlt] at hk
                obtain ⟨b, p1, p2⟩ := hD.2.1.2 k kb hk
                exact ⟨b, xgl p1, xgl p2⟩
              · have hl2 := (List.getElem?_eq_some_iff.mp hk).1
                rw [List.length_append, List.length_singleton] at hl2
                have e : k = D.2.1.length := by omega
                subst e
                have hk : kd = kb := by simpa using hk
                subst hk
                refine ⟨h.length, ?_, ?_⟩
                · rw [← hD.2.1.1]; simp
                · rw [hlen]; simp
            · intro p hp
              obtain ⟨a2, w2, p1, p2, p3⟩ := hD.2.2.1 p hp
              refine ⟨a2, w2, xad_mono p1, ?_, ?_⟩
              · unfold xfd at p2 ⊢
                split at p2
                · rename_i o ho
                  rw [hgl ho]
                  exact p2
                · cases p2
              · have := xc_mono (r := []) (s := [h.length]) p3
                rwa [List.append_nil] at this
            · intro p hp
              obtain ⟨a2, j2, w2, p1, p2, p3, p4⟩ := hD.2.2.2 p hp
              refine ⟨a2, j2, w2, xad_mono p1, p2, ?_, ?_⟩
              · unfold xar at p3 ⊢
                split at p3
                · rename_i o ho
                  rw [hgl ho]
                  exact p3
                · cases p3
              · have := xc_mono (r := []) (s := [h.length]) p4
                rwa [List.append_nil] at this
          · refine ⟨⟨h.length, ?_, rfl⟩, ?_⟩
            · show (σ ++ [h.length])[D.2.1.length]? = _
              rw [← hD.2.1.1]; simp
            · exact xsk_mono hs'
          · rw [hW]
            show W h + d.2.1 + 13 + D.2.2.2.2 ≤ W h + (D.2.2.2.2 + d.2.1 + 13)
            omega
      · cases hx
    · cases hx
  · cases hx
end XST
end
section
/-! System.arraycopy -/
def xcat (st : List xv) : Nat := (st.map (fun a => bif xw2 a then 2 else 1)).sum
theorem xcat_ok {ρ : List Int} {σ : List Nat} : ∀ {st : List xv} {sc : List Value}, xsk ρ σ st sc → zm_cat sc = xcat st
  | [], [], _ => rfl
  | [], _ :: _, h => by cases h
  | _ :: _, [], h => by cases h
  | a :: t, v :: s, h => by
    have h1 := xc_cat h.1
    have h2 := xcat_ok h.2
    unfold zm_cat xcat at h2 ⊢
    simp only [List.map_cons, List.sum_cons, h1, h2]
/-- every alternative of the source is one of the other's, at all its places -/
def xcpa (ds : List xJ) (n : Nat) (dd : List xJ) : Bool := ds.all (fun q => dd.any (fun p => decide (p.1 = q.1) && (Nat.beq p.2.2.2.1 0 && (xle p.2.1 0 && xle (.ofNat n) (p.2.2.1 + 1)))))
theorem xcpa_ok {ds dd : List xJ} {n j : Nat} {q : xJ} (h : xcpa ds n dd = true) (hq : q ∈ ds) (hj : j < n) : ∃ p ∈ dd, p.1 = q.1 ∧ xjok p j := by
  obtain ⟨p, hp, h1⟩ := List.any_eq_true.mp (List.all_eq_true.mp h q hq)
  simp only [Bool.and_eq_true, decide_eq_true_eq, xle_iff] at h1
  obtain ⟨h2, h3, h4, h5⟩ := h1
  have h5 : (n : Int) ≤ p.2.2.1 + 1 := h5
  exact ⟨p, hp, h2, by omega, by omega, Or.inl (Nat.eq_of_beq_eq_true h3)⟩
def xcpy (V : xEnv) (MS : Nat → Nat → Bool) (D : xD) (st : List xv) : Option (List xHS) := match st with
  | n :: dp :: b1 :: sp :: b0 :: t => bif Nat.beq n.1 0 && (Nat.beq dp.1 0 && (Nat.beq sp.1 0 && Nat.ble (xcat t) 8)) then (match xkd V.2.1 D.2.1 b1, xkd V.2.1 D.2.1 b0 with
    | some k1, some k0 => (match V.1 k1, V.1 k0 with
      | some (.inr d1), some (.inr d0) => bif (!(V.2.2.1 k1 0) && MS k1 0) && ((Nat.beq d0.1 d1.1 && Nat.ble d1.1 1) && ((xpv D.1.1.1 D.1.1.2 8 n.2.1 && (xpv D.1.1.1 D.1.1.2 8 dp.2.1 && xpv D.1.1.1 D.1.1.2 8 sp.2.1)) && ((xpv D.1.1.1 D.1.1.2 8 (xpl (.ofNat d0.2.1) (xng (xadd (.ofNat 1) sp.2.1 n.2.1))) && xpv D.1.1.1 D.1.1.2 8 (xpl (.ofNat d1.2.1) (xng (xadd (.ofNat 1) dp.2.1 n.2.1)))) && xcpa d0.2.2 d1.2.1 d1.2.2))) then some [((D.1, D.2.1, D.2.2.1, xkila V D.2.1 k1 D.2.2.2.1, D.2.2.2.2), t)] else none
      | _, _ => none)
    | _, _ => none) else none
  | _ => none
section XCPY
variable {ρ : List Int} {σ τ : List Nat} {h : zm_H} {V : xEnv} {X : List Nat → zm_H → Prop} {W : zm_H → Nat} {MS : Nat → Nat → Bool} {D : xD} {st : List xv} {sc : List Value} {l : List xHS} {df : Nat → List Value} {og : Nat → Option zm_C}
theorem xcpk_ok {t n0 sp dp n : Nat} {k0 k1 : zm_K} (ht : t ≤ 1) (h0 : xka t k0) (h1 : xka t k1) (hs : sp + n ≤ n0) : ∃ k, zm_cpk k0 k1 t t sp dp n = some k ∧ xka t k ∧ ∀ i : Nat, zm_kv k i = zm_kv k1 i ∨ ∃ i', i' < n0 ∧ zm_kv k i = zm_kv k0 i' := by
  rcases (show t = 0 ∨ t = 1 by omega) with rfl | rfl
  · obtain ⟨f, rfl⟩ := h0
    obtain ⟨g, rfl⟩ := h1
    refine ⟨.inl (va_cpy f g sp dp n), rfl, ⟨_, rfl⟩, fun i => ?_⟩
    simp only [zm_kv, va_cpy]
    by_cases e : dp ≤ i ∧ i < dp + n
    · right
      exact ⟨sp + (i - dp), by omega, by rw [if_pos e]⟩
    · left
      rw [if_neg e]
  · obtain ⟨f, rfl⟩ := h0
    obtain ⟨g, rfl⟩ := h1
    refine ⟨.inr (.inl (va_cpy f g sp dp n)), rfl, ⟨_, rfl⟩, fun i => ?_⟩
    simp only [zm_kv, va_cpy]
    by_cases e : dp ≤ i ∧ i < dp + n
    · right
      exact ⟨sp + (i - dp), by omega, by rw [if_pos e]⟩
    · left
      rw [if_neg e]
theorem xnng {j : Int32} (h : 0 ≤ j.toInt) : ¬ j < 0 ∧ ((j.toNatClampNeg : Nat) : Int) = j.toInt := by
  refine ⟨fun hl => ?_, ?_⟩
  · have := Int32.lt_iff_toInt_lt.mp hl
    have e0 : (0 : Int32).toInt = 0 := rfl
    omega
  · have e : j.toNatClampNeg = j.toInt.toNat := rfl
    rw [e]
    omega
theorem xcpy_ok {x : zm_X} {i : Nat} (h7 : Nat.beq x.2.2.1 7 = true) (hX2 : xXW V X W) (hH : xHI V.1 V.2.1 τ h) (hX : X τ h) (hD : xdok ρ σ τ h D) (hs : xsk ρ σ st sc) (hx : xcpy V MS D st = some l) : xWR V X W MS ρ σ τ h D.2.2.2.2 l (zm_hp df og (.invokestatic i) x sc h) := by
  unfold xcpy at hx
  split at hx
  · rename_i n dp b1 sp b0 t
    obtain ⟨wn, s1, rfl, hn1, hs1⟩ := xsk_cons hs
    obtain ⟨wd, s2, rfl, hd1, hs2⟩ := xsk_cons hs1
    obtain ⟨w1, s3, rfl, hb1, hs3⟩ := xsk_cons hs2
    obtain ⟨ws, s4, rfl, hp1, hs4⟩ := xsk_cons hs3
    obtain ⟨w0, s, rfl, hb0, hs'⟩ := xsk_cons hs4
    cases ht0 : Nat.beq n.1 0 && (Nat.beq dp.1 0 && (Nat.beq sp.1 0 && Nat.ble (xcat t) 8)) with
    | false => rw [ht0] at hx; cases hx
    | true =>
      rw [ht0] at hx
      simp only [cond_true] at hx
      simp only [Bool.and_eq_true] at ht0
      obtain ⟨jn, rfl, en⟩ := xc_i hn1 ht0.1
      obtain ⟨jd, rfl, ed⟩ := xc_i hd1 ht0.2.1
      obtain ⟨jp, rfl, ep⟩ := xc_i hp1 ht0.2.2.1
      have hcat := Nat.le_of_ble_eq_true ht0.2.2.2
      rw [← xcat_ok hs'] at hcat
      split at hx
      · rename_i k1 k0 hk1 hk0
        obtain ⟨a1, rfl, had1, ht1⟩ := xkd_ok hH hD.2.1 hb1 hk1
        obtain ⟨a0, rfl, had0, ht2⟩ := xkd_ok hH hD.2.1 hb0 hk0
        split at hx
        · rename_i d1 d0 hK1 hK0
          obtain ⟨c1, hh1, hka1, hel1⟩ := xcf_a hH ht1 hK1
          obtain ⟨c0, hh0, hka0, hel0⟩ := xcf_a hH ht2 hK0
          cases hc : (!(V.2.2.1 k1 0) && MS k1 0) && ((Nat.beq d0.1 d1.1 && Nat.ble d1.1 1) && ((xpv D.1.1.1 D.1.1.2 8 n.2.1 && (xpv D.1.1.1 D.1.1.2 8 dp.2.1 && xpv D.1.1.1 D.1.1.2 8 sp.2.1)) && ((xpv D.1.1.1 D.1.1.2 8 (xpl (.ofNat d0.2.1) (xng (xadd (.ofNat 1) sp.2.1 n.2.1))) && xpv D.1.1.1 D.1.1.2 8 (xpl (.ofNat d1.2.1) (xng (xadd (.ofNat 1) dp.2.1 n.2.1)))) && xcpa d0.2.2 d1.2.1 d1.2.2))) with
          | false => rw [hc] at hx; cases hx
          | true =>
            rw [hc] at hx
            cases hx
            simp only [Bool.and_eq_true, Bool.not_eq_true'] at hc
            obtain ⟨⟨hpr, hms⟩, ⟨htt, ht1'⟩, ⟨hi1, hi2, hi3⟩, ⟨hi4, hi5⟩, hcpa⟩ := hc
            have hn := hD.1.1
            have htt := Nat.eq_of_beq_eq_true htt
            have ht1' := Nat.le_of_ble_eq_true ht1'
            have v1 := xpv_ok hn.1 hn.2 8 en hi1
            have v2 := xpv_ok hn.1 hn.2 8 ed hi2
            have v3 := xpv_ok hn.1 hn.2 8 ep hi3
            have v4 := xpv_ok hn.1 hn.2 8 (xe_pl (.ofNat d0.2.1) (xe_ng (xe_add (k := .ofNat 1) ep en))) hi4
            have v5 := xpv_ok hn.1 hn.2 8 (xe_pl (.ofNat d1.2.1) (xe_ng (xe_add (k := .ofNat 1) ed en))) hi5
            have v4 : 0 ≤ -(jp.toInt + 1 * jn.toInt) + (d0.2.1 : Int) := v4
            have v5 : 0 ≤ -(jd.toInt + 1 * jn.toInt) + (d1.2.1 : Int) := v5
            obtain ⟨u1, u2⟩ := xnng v1
            obtain ⟨u3, u4⟩ := xnng v2
            obtain ⟨u5, u6⟩ := xnng v3
            rw [htt] at hka0
            obtain ⟨k', hk, hka', hup⟩ := xcpk_ok (sp := jp.toNatClampNeg) (dp := jd.toNatClampNeg) (n := jn.toNatClampNeg) (n0 := d0.2.1) ht1' hka0 hka1 (by omega)
            have hz : zm_hp df og (.invokestatic i) x (.int jn :: .int jd :: .ref a1 :: .int jp :: .ref a0 :: s) h = some (s, h.set a1 (.inl (d1.1, d1.2.1, k'))) := by
              have e1 : Nat.ble (jp.toNatClampNeg + jn.toNatClampNeg) d0.2.1 = true := Nat.ble_eq_true_of_le (by omega)
              have e2 : Nat.ble (jd.toNatClampNeg + jn.toNatClampNeg) d1.2.1 = true := Nat.ble_eq_true_of_le (by omega)
              have e3 : Nat.ble (zm_cat s) 8 = true := Nat.ble_eq_true_of_le hcat
              have e4 : zm_cpk c0 c1 d0.1 d1.1 jp.toNatClampNeg jd.toNatClampNeg jn.toNatClampNeg = some k' := by rw [htt]; exact hk
              simp only [zm_hp, h7, cond_true, zm_cpy, hh0, hh1, decide_eq_false u1, decide_eq_false u3, decide_eq_false u5, e1, e2, e3, e4, Bool.not_false, Bool.and_self]
            obtain ⟨hX', hW⟩ := hX2.2.1 τ h a1 k1 d1.1 d1.2.1 c1 k' hX ht1 hpr hh1
            refine ⟨s, _, τ, hz, xHI_set hH hh1 ht1 hK1 ⟨k', rfl, hka', fun i hi => ?_⟩, hX', ⟨⟨[], (List.append_nil τ).symm⟩, fun b kb f w hb2 hm hw => ?_, fun b kb c hb2 hm hw => ?_⟩, _, List.mem_singleton.mpr rfl, [], [], ?_, ?_, ?_⟩
            · rcases hup i with e | ⟨i', hi', e⟩
              · rw [e]
                exact hel1 i hi
              · rw [e]
                obtain ⟨q, hq, hsat, -⟩ := hel0 i' hi'
                obtain ⟨p, hp, e2, hjk⟩ := xcpa_ok hcpa hq hi
                exact ⟨p, hp, by rw [e2]; exact hsat, hjk⟩
            · unfold xfd at hw ⊢
              rw [xgs hh1]
              by_cases e : a1 = b
              · subst e
                rw [hh1] at hw
                cases hw
              · rw [if_neg e]
                exact hw
            · rw [xgs hh1]
              by_cases e : a1 = b
              · subst e
                rw [ht1] at hb2
                cases hb2
                rw [hms] at hm
                cases hm
              · rw [if_neg e]
                exact hw
            · rw [List.append_nil, List.append_nil]
              refine ⟨hD.1, hD.2.1, ?_, ?_⟩
              · intro p hp
                obtain ⟨a2, w2, p1, p2, p3⟩ := hD.2.2.1 p hp
                refine ⟨a2, w2, p1, ?_, p3⟩
                unfold xfd at p2 ⊢
                rw [xgs hh1]
                by_cases e : a1 = a2
                · subst e
                  rw [hh1] at p2
                  cases p2
                · rw [if_neg e]
                  exact p2
              · intro p hp
                obtain ⟨hpm, hpk⟩ := List.mem_filter.mp hp
                obtain ⟨a2, j2, w2, p1, p2, p3, p4⟩ := hD.2.2.2 p hpm
                refine ⟨a2, j2, w2, p1, p2, ?_, p4⟩
                unfold xar at p3 ⊢
                rw [xgs hh1]
                by_cases e : a1 = a2
                · subst e
                  simp only [Bool.not_eq_true'] at hpk
                  split at hpk
                  · rename_i k2 hk2
                    have := xkd_ad hH hD.2.1 p1 hk2
                    rw [ht1] at this
                    cases this
                    rw [Nat.beq_refl] at hpk
                    cases hpk
                  · cases hpk
                · rw [if_neg e]
                  exact p3
            · rw [List.append_nil, List.append_nil]
              exact hs'
            · rw [hW]
              exact Nat.le_refl _
        · cases hx
      · cases hx
  · cases hx
end XCPY
end
section
/-! Eleventh part: Math; all that touches the heap -/
theorem xmax_l (a b : Int) : a ≤ xmax a b := by
  unfold xmax
  cases hh : xle a b with
  | true => exact xle_iff.mp hh
  | false => exact Int.le_refl _
theorem xmax_r (a b : Int) : b ≤ xmax a b := by
  unfold xmax
  cases hh : xle a b with
  | true => exact Int.le_refl _
  | false =>
    have : ¬ a ≤ b := fun h => by rw [xle_iff.mpr h] at hh; cases hh
    show b ≤ a
    omega
theorem xmin_l (a b : Int) : xmin a b ≤ a := by
  unfold xmin
  cases hh : xle a b with
  | true => exact Int.le_refl _
  | false =>
    have : ¬ a ≤ b := fun h => by rw [xle_iff.mpr h] at hh; cases hh
    show b ≤ a
    omega
theorem xmin_r (a b : Int) : xmin a b ≤ b := by
  unfold xmin
  cases hh : xle a b with
  | true => exact xle_iff.mp hh
  | false => exact Int.le_refl _
/-- the greater, or the lesser, of two -/
def xmm (f : Int → Int → Int) (C : xC) (a b : xl) : Option (xC × xl) := match xlo C.1.1 a, xhi C.1.1 a, xlo C.1.1 b, xhi C.1.1 b with
  | some al, some ah, some bl, some bh => bif xle (f ah bh) (f al bl) then some (C, xk (f al bl)) else some (xfr C (f al bl) (f ah bh))
  | _, _, _, _ => none
theorem xmm_max {ρ : List Int} {C : xC} {a b : xl} {x y z : Int} {q : xC × xl} (hC : xCok ρ C) (ha : xe ρ a = some x) (hb : xe ρ b = some y) (hz : z = x ∧ y ≤ x ∨ z = y ∧ x ≤ y) (h : xmm xmax C a b = some q) : xR ρ q z := by
  unfold xmm at h
  split at h
  · rename_i al ah bl bh e1 e2 e3 e4
    obtain ⟨x1, p1, q1⟩ := xlo_ok hC.1.1 e1
    obtain ⟨x2, p2, q2⟩ := xhi_ok hC.1.1 e2
    obtain ⟨x3, p3, q3⟩ := xlo_ok hC.1.1 e3
    obtain ⟨x4, p4, q4⟩ := xhi_ok hC.1.1 e4
    rw [ha] at p1 p2
    rw [hb] at p3 p4
    cases p1; cases p2; cases p3; cases p4
    have m1 := xmax_l ah bh
    have m2 := xmax_r ah bh
    have hlo : xmax al bl ≤ z := xmax_ok (by omega) (by omega)
    have hhi : z ≤ xmax ah bh := by omega
    cases hc : xle (xmax ah bh) (xmax al bl) with
    | true =>
      rw [hc] at h
      cases h
      have hc := xle_iff.mp hc
      have e : xmax al bl = z := by omega
      rw [e]
      exact xR_id hC (xe_k z)
    | false =>
      rw [hc] at h
      cases h
      exact xR_fr hC hlo hhi
  · cases h
theorem xmm_min {ρ : List Int} {C : xC} {a b : xl} {x y z : Int} {q : xC × xl} (hC : xCok ρ C) (ha : xe ρ a = some x) (hb : xe ρ b = some y) (hz : z = x ∧ x ≤ y ∨ z = y ∧ y ≤ x) (h : xmm xmin C a b = some q) : xR ρ q z := by
  unfold xmm at h
  split at h
  · rename_i al ah bl bh e1 e2 e3 e4
    obtain ⟨x1, p1, q1⟩ := xlo_ok hC.1.1 e1
    obtain ⟨x2, p2, q2⟩ := xhi_ok hC.1.1 e2
    obtain ⟨x3, p3, q3⟩ := xlo_ok hC.1.1 e3
    obtain ⟨x4, p4, q4⟩ := xhi_ok hC.1.1 e4
    rw [ha] at p1 p2
    rw [hb] at p3 p4
    cases p1; cases p2; cases p3; cases p4
    have m1 := xmin_l al bl
    have m2 := xmin_r al bl
    have hlo : xmin al bl ≤ z := by omega
    have hhi : z ≤ xmin ah bh := xmin_ok (by omega) (by omega)
    cases hc : xle (xmin ah bh) (xmin al bl) with
    | true =>
      rw [hc] at h
      cases h
      have hc := xle_iff.mp hc
      have e : xmin al bl = z := by omega
      rw [e]
      exact xR_id hC (xe_k z)
    | false =>
      rw [hc] at h
      cases h
      exact xR_fr hC hlo hhi
  · cases h
/-- without its sign -/
def xabs (lo hi : Int) (C : xC) (a : xl) : xC × xl := match xlo C.1.1 a, xhi C.1.1 a with
  | some al, some ah => bif xle 0 al then (C, a) else bif xle (lo + 1) al then xfr C 0 (xmax (-al) ah) else xfr C lo hi
  | _, _ => xfr C lo hi
theorem xabs_ok {ρ : List Int} {C : xC} {a : xl} {lo hi x z : Int} (hC : xCok ρ C) (ha : xe ρ a = some x) (hz : lo ≤ z ∧ z ≤ hi) (h0 : 0 ≤ x → z = x) (h1 : lo + 1 ≤ x → x < 0 → z = -x) : xR ρ (xabs lo hi C a) z := by
  unfold xabs
  split
  · rename_i al ah e1 e2
    obtain ⟨x1, p1, q1⟩ := xlo_ok hC.1.1 e1
    obtain ⟨x2, p2, q2⟩ := xhi_ok hC.1.1 e2
    rw [ha] at p1 p2
    cases p1; cases p2
    cases h2 : xle 0 al with
    | true =>
      have h2 := xle_iff.mp h2
      rw [h0 (by omega)]
      exact xR_id hC ha
    | false =>
      simp only [cond_false]
      cases h3 : xle (lo + 1) al with
      | true =>
        have h3 := xle_iff.mp h3
        have m1 := xmax_l (-al) ah
        have m2 := xmax_r (-al) ah
        simp only [cond_true]
        by_cases hx : 0 ≤ x
        · rw [h0 hx]
          exact xR_fr hC hx (by omega)
        · rw [h1 (by omega) (by omega)]
          exact xR_fr hC (by omega) (by omega)
      | false => exact xR_fr hC hz.1 hz.2
  · exact xR_fr hC hz.1 hz.2
/-- where one is surely the greater, it itself -/
def xmx (C : xC) (a b : xl) : Option (xC × xl) := match xlo C.1.1 a, xhi C.1.1 a, xlo C.1.1 b, xhi C.1.1 b with
  | some al, some ah, some bl, some bh => bif xle bh al then some (C, a) else bif xle ah bl then some (C, b) else xmm xmax C a b
  | _, _, _, _ => none
def xmn (C : xC) (a b : xl) : Option (xC × xl) := match xlo C.1.1 a, xhi C.1.1 a, xlo C.1.1 b, xhi C.1.1 b with
  | some al, some ah, some bl, some bh => bif xle ah bl then some (C, a) else bif xle bh al then some (C, b) else xmm xmin C a b
  | _, _, _, _ => none
theorem xmx_ok {ρ : List Int} {C : xC} {a b : xl} {x y z : Int} {q : xC × xl} (hC : xCok ρ C) (ha : xe ρ a = some x) (hb : xe ρ b = some y) (hz : z = x ∧ y ≤ x ∨ z = y ∧ x ≤ y) (h : xmx C a b = some q) : xR ρ q z := by
  unfold xmx at h
  split at h
  · rename_i al ah bl bh e1 e2 e3 e4
    obtain ⟨x1, p1, q1⟩ := xlo_ok hC.1.1 e1
    obtain ⟨x2, p2, q2⟩ := xhi_ok hC.1.1 e2
    obtain ⟨x3, p3, q3⟩ := xlo_ok hC.1.1 e3
    obtain ⟨x4, p4, q4⟩ := xhi_ok hC.1.1 e4
    rw [ha] at p1 p2
    rw [hb] at p3 p4
    cases p1; cases p2; cases p3; cases p4
    cases h1 : xle bh al with
    | true =>
      rw [h1] at h
      cases h
      have h1 := xle_iff.mp h1
      have e : z = x := by omega
      rw [e]
      exact xR_id hC ha
    | false =>
      rw [h1] at h
      simp only [cond_false] at h
      cases h2 : xle ah bl with
      | true =>
        rw [h2] at h
        cases h
        have h2 := xle_iff.mp h2
        have e : z = y := by omega
        rw [e]
        exact xR_id hC hb
      | false =>
        rw [h2] at h
        exact xmm_max hC ha hb hz h
  · cases h
theorem xmn_ok {ρ : List Int} {C : xC} {a b : xl} {x y z : Int} {q : xC × xl} (hC : xCok ρ C) (ha : xe ρ a = some x) (hb : xe ρ b = some y) (hz : z = x ∧ x ≤ y ∨ z = y ∧ y ≤ x) (h : xmn C a b = some q) : xR ρ q z := by
  unfold xmn at h
  split at h
  · rename_i al ah bl bh e1 e2 e3 e4
    obtain ⟨x1, p1, q1⟩ := xlo_ok hC.1.1 e1
    obtain ⟨x2, p2, q2⟩ := xhi_ok hC.1.1 e2
    obtain ⟨x3, p3, q3⟩ := xlo_ok hC.1.1 e3
    obtain ⟨x4, p4, q4⟩ := xhi_ok hC.1.1 e4
    rw [ha] at p1 p2
    rw [hb] at p3 p4
    cases p1; cases p2; cases p3; cases p4
    cases h1 : xle ah bl with
    | true =>
      rw [h1] at h
      cases h
      have h1 := xle_iff.mp h1
      have e : z = x := by omega
      rw [e]
      exact xR_id hC ha
    | false =>
      rw [h1] at h
      simp only [cond_false] at h
      cases h2 : xle bh al with
      | true =>
        rw [h2] at h
        cases h
        have h2 := xle_iff.mp h2
        have e : z = y := by omega
        rw [e]
        exact xR_id hC hb
      | false =>
        rw [h2] at h
        exact xmm_min hC ha hb hz h
  · cases h
def xmath (c : Nat) (D : xD) (st : List xv) : Option (List xHS) := match c with
  | 1 => (match st with
    | b :: a :: t => bif Nat.beq a.1 0 && Nat.beq b.1 0 && Nat.ble (xcat t + 2) 8 then (match xmx D.1 a.2.1 b.2.1 with
      | some q => some [(xwC D q.1, xi q.2 :: t)]
      | none => none) else none
    | _ => none)
  | 2 => (match st with
    | b :: a :: t => bif Nat.beq a.1 0 && Nat.beq b.1 0 && Nat.ble (xcat t + 2) 8 then (match xmn D.1 a.2.1 b.2.1 with
      | some q => some [(xwC D q.1, xi q.2 :: t)]
      | none => none) else none
    | _ => none)
  | 3 => (match st with
    | a :: t => bif Nat.beq a.1 0 && Nat.ble (xcat t + 2) 8 then (let q := xabs xI32a xI32b D.1 a.2.1; some [(xwC D q.1, xi q.2 :: t)]) else none
    | _ => none)
  | 4 => (match st with
    | b :: a :: t => bif Nat.beq a.1 1 && Nat.beq b.1 1 && Nat.ble (xcat t + 2) 8 then (match xmx D.1 a.2.1 b.2.1 with
      | some q => some [(xwC D q.1, xL q.2 :: t)]
      | none => none) else none
    | _ => none)
  | 5 => (match st with
    | b :: a :: t => bif Nat.beq a.1 1 && Nat.beq b.1 1 && Nat.ble (xcat t + 2) 8 then (match xmn D.1 a.2.1 b.2.1 with
      | some q => some [(xwC D q.1, xL q.2 :: t)]
      | none => none) else none
    | _ => none)
  | 6 => (match st with
    | a :: t => bif Nat.beq a.1 1 && Nat.ble (xcat t + 2) 8 then (let q := xabs xI64a xI64b D.1 a.2.1; some [(xwC D q.1, xL q.2 :: t)]) else none
    | _ => none)
  | _ => none
section XMA
variable {ρ : List Int} {σ τ : List Nat} {h : zm_H} {D : xD} {st : List xv} {sc : List Value} {l : List xHS} {df : Nat → List Value} {og : Nat → Option zm_C}
theorem xmath_z {x : zm_X} {i : Nat} {sc' : List Value} (h1 : zm_math x.2.2.1 sc = some sc') (h2 : zm_cat sc' ≤ 8) : zm_hp df og (.invokestatic i) x sc h = some (sc', h) := by
  have h7 : Nat.beq x.2.2.1 7 = false := by
    cases e : Nat.beq x.2.2.1 7 with
    | false => rfl
    | true => rw [Nat.eq_of_beq_eq_true e] at h1; cases h1
  simp only [zm_hp, h7, h1, Nat.ble_eq_true_of_le h2, cond_true, cond_false]
theorem xmath_r {q : xC × xl} {z : Int} {f : xl → xv} {t : List xv} {s : List Value} {w : Value} (hD : xdok ρ σ τ h D) (hq : xR ρ q z) (hs : xsk ρ σ t s) (hw : ∀ r, xe (ρ ++ r) q.2 = some z → xc (ρ ++ r) σ (f q.2) w) : xLR ρ σ τ h D.2.2.2.2 [(xwC D q.1, f q.2 :: t)] (some (w :: s, h)) := by
  obtain ⟨r, h1, h2⟩ := hq
  refine ⟨_, rfl, _, List.mem_singleton.mpr rfl, r, [], ?_, ?_, rfl⟩
  · have e : σ ++ [] = σ := List.append_nil σ
    rw [e]
    refine ⟨h1, hD.2.1, ?_, ?_⟩
    · have := xmo_mono (r := r) (s := []) hD.2.2.1
      rwa [e] at this
    · have := xmao_mono (r := r) (s := []) hD.2.2.2
      rwa [e] at this
  · have e : σ ++ [] = σ := List.append_nil σ
    rw [e]
    exact ⟨hw r h2, xsk_m hs⟩
theorem xb_neg32 {i : Int32} (h : xI32a + 1 ≤ i.toInt) : (0 - i).toInt = -i.toInt := by
  have hr := xb_rng i
  rw [Int32.toInt_sub]
  have e0 : (0 : Int32).toInt = 0 := rfl
  have e1 : xI32a = -2147483648 := rfl
  have e2 : xI32b = 2147483647 := rfl
  rw [e0, xb_bm32 (by omega) (by omega)]
  omega
theorem xb_neg64 {i : Int64} (h : xI64a + 1 ≤ i.toInt) : (-i).toInt = -i.toInt := by
  have hr := xb_rngL i
  rw [Int64.toInt_neg]
  have e1 : xI64a = -9223372036854775808 := rfl
  have e2 : xI64b = 9223372036854775807 := rfl
  rw [xb_bm64 (by omega) (by omega)]
theorem xmath_ok {x : zm_X} {i : Nat} (hD : xdok ρ σ τ h D) (hs : xsk ρ σ st sc) (hx : xmath x.2.2.1 D st = some l) : xLR ρ σ τ h D.2.2.2.2 l (zm_hp df og (.invokestatic i) x sc h) := by
  unfold xmath at hx
  split at hx
  · rename_i hc
    split at hx
    · rename_i b a t
      obtain ⟨wb, s1, rfl, hb, hs1⟩ := xsk_cons hs
      obtain ⟨wa, s, rfl, ha, hs'⟩ := xsk_cons hs1
      cases h1 : Nat.beq a.1 0 && Nat.beq b.1 0 && Nat.ble (xcat t + 2) 8 with
      | false => rw [h1] at hx; cases hx
      | true =>
        rw [h1] at hx
        simp only [Bool.and_eq_true] at h1
        obtain ⟨ia, rfl, ea⟩ := xc_i ha h1.1.1
        obtain ⟨ib, rfl, eb⟩ := xc_i hb h1.1.2
        simp only [cond_true] at hx
        split at hx
        · rename_i q hq
          cases hx
          have hcat := xcat_ok hs'
          have hle := Nat.le_of_ble_eq_true h1.2
          rw [xmath_z (sc' := .int (if ia < ib then ib else ia) :: s) (by rw [hc]; rfl) (by show 1 + zm_cat s ≤ 8; omega)]
          refine xmath_r (f := xi) hD (xmx_ok hD.1 ea eb (z := (if ia < ib then ib else ia).toInt) ?_ hq) hs' (fun r hr => ⟨_, rfl, hr⟩)
          by_cases hlt : ia < ib
          · have := Int32.lt_iff_toInt_lt.mp hlt
            rw [if_pos hlt]; right; exact ⟨rfl, by omega⟩
          · have : ¬ ia.toInt < ib.toInt := fun h => hlt (Int32.lt_iff_toInt_lt.mpr h)
            rw [if_neg hlt]; left; exact ⟨rfl, by omega⟩
        · cases hx
    · cases hx
  · rename_i hc
    split at hx
    · rename_i b a t
      obtain ⟨wb, s1, rfl, hb, hs1⟩ := xsk_cons hs
      obtain ⟨wa, s, rfl, ha, hs'⟩ := xsk_cons hs1
      cases h1 : Nat.beq a.1 0 && Nat.beq b.1 0 && Nat.ble (xcat t + 2) 8 with
      | false => rw [h1] at hx; cases hx
      | true =>
        rw [h1] at hx
        simp only [Bool.and_eq_true] at h1
        obtain ⟨ia, rfl, ea⟩ := xc_i ha h1.1.1
        obtain ⟨ib, rfl, eb⟩ := xc_i hb h1.1.2
        simp only [cond_true] at hx
        split at hx
        · rename_i q hq
          cases hx
          have hcat := xcat_ok hs'
          have hle := Nat.le_of_ble_eq_true h1.2
          rw [xmath_z (sc' := .int (if ib < ia then ib else ia) :: s) (by rw [hc]; rfl) (by show 1 + zm_cat s ≤ 8; omega)]
          refine xmath_r (f := xi) hD (xmn_ok hD.1 ea eb (z := (if ib < ia then ib else ia).toInt) ?_ hq) hs' (fun r hr => ⟨_, rfl, hr⟩)
          by_cases hlt : ib < ia
          · have := Int32.lt_iff_toInt_lt.mp hlt
            rw [if_pos hlt]; right; exact ⟨rfl, by omega⟩
          · have : ¬ ib.toInt < ia.toInt := fun h => hlt (Int32.lt_iff_toInt_lt.mpr h)
            rw [if_neg hlt]; left; exact ⟨rfl, by omega⟩
        · cases hx
    · cases hx
  · rename_i hc
    split at hx
    · rename_i a t
      obtain ⟨wa, s, rfl, ha, hs'⟩ := xsk_cons hs
      cases h1 : Nat.beq a.1 0 && Nat.ble (xcat t + 2) 8 with
      | false => rw [h1] at hx; cases hx
      | true =>
        rw [h1] at hx
        simp only [Bool.and_eq_true] at h1
        obtain ⟨ia, rfl, ea⟩ := xc_i ha h1.1
        cases hx
        have hcat := xcat_ok hs'
        have hle := Nat.le_of_ble_eq_true h1.2
        rw [xmath_z (sc' := .int (if 0 ≤ ia then ia else 0 - ia) :: s) (by rw [hc]; rfl) (by show 1 + zm_cat s ≤ 8; omega)]
        refine xmath_r (f := xi) hD (xabs_ok hD.1 ea (z := (if 0 ≤ ia then ia else 0 - ia).toInt) (xb_rng _) (fun h0 => ?_) (fun h0 h2 => ?_)) hs' (fun r hr => ⟨_, rfl, hr⟩)
        · rw [if_pos (show (0 : Int32) ≤ ia from Int32.le_iff_toInt_le.mpr (show (0 : Int32).toInt ≤ ia.toInt from h0))]
        · rw [if_neg (fun h => by have := Int32.le_iff_toInt_le.mp h; have e0 : (0 : Int32).toInt = 0 := rfl; omega)]
          exact xb_neg32 h0
    · cases hx
  · rename_i hc
    split at hx
    · rename_i b a t
      obtain ⟨wb, s1, rfl, hb, hs1⟩ := xsk_cons hs
      obtain ⟨wa, s, rfl, ha, hs'⟩ := xsk_cons hs1
      cases h1 : Nat.beq a.1 1 && Nat.beq b.1 1 && Nat.ble (xcat t + 2) 8 with
      | false => rw [h1] at hx; cases hx
      | true =>
        rw [h1] at hx
        simp only [Bool.and_eq_true] at h1
        obtain ⟨ia, rfl, ea⟩ := xc_L ha h1.1.1
        obtain ⟨ib, rfl, eb⟩ := xc_L hb h1.1.2
        simp only [cond_true] at hx
        split at hx
        · rename_i q hq
          cases hx
          have hcat := xcat_ok hs'
          have hle := Nat.le_of_ble_eq_true h1.2
          rw [xmath_z (sc' := .long (if ib < ia then ia else ib) :: s) (by rw [hc]; rfl) (by show 2 + zm_cat s ≤ 8; omega)]
          refine xmath_r (f := xL) hD (xmx_ok hD.1 ea eb (z := (if ib < ia then ia else ib).toInt) ?_ hq) hs' (fun r hr => ⟨_, rfl, hr⟩)
          by_cases hlt : ib < ia
          · have := Int64.lt_iff_toInt_lt.mp hlt
            rw [if_pos hlt]; left; exact ⟨rfl, by omega⟩
          · have : ¬ ib.toInt < ia.toInt := fun h => hlt (Int64.lt_iff_toInt_lt.mpr h)
            rw [if_neg hlt]; right; exact ⟨rfl, by omega⟩
        · cases hx
    · cases hx
  · rename_i hc
    split at hx
    · rename_i b a t
      obtain ⟨wb, s1, rfl, hb, hs1⟩ := xsk_cons hs
      obtain ⟨wa, s, rfl, ha, hs'⟩ := xsk_cons hs1
      cases h1 : Nat.beq a.1 1 && Nat.beq b.1 1 && Nat.ble (xcat t + 2) 8 with
      | false => rw [h1] at hx; cases hx
      | true =>
        rw [h1] at hx
        simp only [Bool.and_eq_true] at h1
        obtain ⟨ia, rfl, ea⟩ := xc_L ha h1.1.1
        obtain ⟨ib, rfl, eb⟩ := xc_L hb h1.1.2
        simp only [cond_true] at hx
        split at hx
        · rename_i q hq
          cases hx
          have hcat := xcat_ok hs'
          have hle := Nat.le_of_ble_eq_true h1.2
          rw [xmath_z (sc' := .long (if ib < ia then ib else ia) :: s) (by rw [hc]; rfl) (by show 2 + zm_cat s ≤ 8; omega)]
          refine xmath_r (f := xL) hD (xmn_ok hD.1 ea eb (z := (if ib < ia then ib else ia).toInt) ?_ hq) hs' (fun r hr => ⟨_, rfl, hr⟩)
          by_cases hlt : ib < ia
          · have := Int64.lt_iff_toInt_lt.mp hlt
            rw [if_pos hlt]; right; exact ⟨rfl, by omega⟩
          · have : ¬ ib.toInt < ia.toInt := fun h => hlt (Int64.lt_iff_toInt_lt.mpr h)
            rw [if_neg hlt]; left; exact ⟨rfl, by omega⟩
        · cases hx
    · cases hx
  · rename_i hc
    split at hx
    · rename_i a t
      obtain ⟨wa, s, rfl, ha, hs'⟩ := xsk_cons hs
      cases h1 : Nat.beq a.1 1 && Nat.ble (xcat t + 2) 8 with
      | false => rw [h1] at hx; cases hx
      | true =>
        rw [h1] at hx
        simp only [Bool.and_eq_true] at h1
        obtain ⟨ia, rfl, ea⟩ := xc_L ha h1.1
        cases hx
        have hcat := xcat_ok hs'
        have hle := Nat.le_of_ble_eq_true h1.2
        rw [xmath_z (sc' := .long (if 0 < ia then ia else -ia) :: s) (by rw [hc]; rfl) (by show 2 + zm_cat s ≤ 8; omega)]
        have e0 : (0 : Int64).toInt = 0 := rfl
        refine xmath_r (f := xL) hD (xabs_ok hD.1 ea (z := (if 0 < ia then ia else -ia).toInt) (xb_rngL _) (fun h0 => ?_) (fun h0 h2 => ?_)) hs' (fun r hr => ⟨_, rfl, hr⟩)
        · by_cases hp : 0 < ia
          · rw [if_pos hp]
          · have hz : ia = 0 := by
              rw [← Int64.toInt_inj, e0]
              have : ¬ (0 : Int64).toInt < ia.toInt := fun h => hp (Int64.lt_iff_toInt_lt.mpr h)
              omega
            subst hz
            rfl
        · rw [if_neg (fun h => by have := Int64.lt_iff_toInt_lt.mp h; omega)]
          exact xb_neg64 h0
    · cases hx
  · cases hx
end XMA
def xh (V : xEnv) (MS : Nat → Nat → Bool) (mi pc : Nat) (i : Jvm.ClassFile.Instr) (x : zm_X) (D : xD) (st : List xv) : Option (List xHS) := match i with
  | .getfield _ => xgf V x D st
  | .putfield _ => xpf V MS x D st
  | .getstatic _ => (match x.2.2.2.1 with
    | .retAddr j => bif Nat.beq j 95 then some [(D, (5, xk 0, j) :: st), (D, (2, xk 0, 0) :: st)] else some [(D, (5, xk 0, j) :: st)]
    | .int i => some [(D, xi (xk i.toInt) :: st)]
    | _ => none)
  | .arraylength => xalen V D st
  | .iaload => xal V mi pc .iaload D st
  | .laload => xal V mi pc .laload D st
  | .baload => xal V mi pc .baload D st
  | .aaload => xal V mi pc .aaload D st
  | .iastore => xast V MS .iastore D st
  | .lastore => xast V MS .lastore D st
  | .bastore => xast V MS .bastore D st
  | .newarray _ => xnew V mi pc x D st
  | .invokestatic _ => bif Nat.beq x.2.2.1 7 then xcpy V MS D st else xmath x.2.2.1 D st
  | _ => none
section XHK
variable {ρ : List Int} {σ τ : List Nat} {h : zm_H} {V : xEnv} {X : List Nat → zm_H → Prop} {W : zm_H → Nat} {MS : Nat → Nat → Bool} {D : xD} {st : List xv} {sc : List Value} {l : List xHS} {df : Nat → List Value} {og : Nat → Option zm_C}
theorem xLR_W {z : Option (List Value × zm_H)} (hH : xHI V.1 V.2.1 τ h) (hX : X τ h) (hr : xLR ρ σ τ h D.2.2.2.2 l z) : xWR V X W MS ρ σ τ h D.2.2.2.2 l z := by
  obtain ⟨sc, h1, s, h2, r, s', h3, h4, h5⟩ := hr
  exact ⟨sc, h, τ, h1, hH, hX, xF_refl _ _ _, s, h2, r, s', h3, h4, by rw [h5]; exact Nat.le_refl _⟩
theorem xh_ok {x : zm_X} {mi pc : Nat} {i : Jvm.ClassFile.Instr} (hF : xFl_ok V X) (hX2 : xXW V X W) (hH : xHI V.1 V.2.1 τ h) (hX : X τ h) (hD : xdok ρ σ τ h D) (hs : xsk ρ σ st sc) (hx : xh V MS mi pc i x D st = some l) : xWR V X W MS ρ σ τ h D.2.2.2.2 l (zm_hp df og i x sc h) := by
  cases i with
  | getfield k => exact xLR_W hH hX (xgf_ok hH hD hs hx)
  | putfield k => exact xpf_ok hX2 hH hX hD hs hx
  | getstatic k =>
    simp only [xh] at hx
    split at hx
    · rename_i j hj
      refine xLR_W hH hX ?_
      cases h95 : Nat.beq j 95 with
      | true =>
        rw [h95] at hx
        cases hx
        have h95 := Nat.eq_of_beq_eq_true h95
        subst h95
        cases hog : og 95 with
        | none =>
          have e : zm_hp df og (.getstatic k) x sc h = some (.null :: sc, h) := by simp only [zm_hp, hj, zm_gs, hog]
          rw [e]
          exact xLR_id (s := (D, (2, xk 0, 0) :: st)) hD ⟨rfl, hs⟩ rfl (List.mem_cons_of_mem _ (List.mem_singleton.mpr rfl))
        | some c =>
          have e : zm_hp df og (.getstatic k) x sc h = some (.retAddr 95 :: sc, h) := by simp only [zm_hp, hj, zm_gs, hog]
          rw [e]
          exact xLR_id (s := (D, (5, xk 0, 95) :: st)) hD ⟨rfl, hs⟩ rfl List.mem_cons_self
      | false =>
        rw [h95] at hx
        cases hx
        have hne : ¬ j = 95 := fun e => by rw [e] at h95; cases h95
        have e : zm_hp df og (.getstatic k) x sc h = some (.retAddr j :: sc, h) := by
          have e2 : zm_gs og (.retAddr j) = .retAddr j := by
            unfold zm_gs
            split
            · rename_i z; exact absurd (Value.retAddr.inj z) hne
            · rfl
          simp only [zm_hp, hj, e2]
        rw [e]
        exact xLR_id (s := (D, (5, xk 0, j) :: st)) hD ⟨rfl, hs⟩ rfl (List.mem_singleton.mpr rfl)
    · rename_i j hj
      cases hx
      refine xLR_W hH hX ?_
      have e : zm_hp df og (.getstatic k) x sc h = some (.int j :: sc, h) := by simp only [zm_hp, hj, zm_gs]
      rw [e]
      exact xLR_id (s := (D, xi (xk j.toInt) :: st)) hD ⟨⟨j, rfl, xe_k _⟩, hs⟩ rfl (List.mem_singleton.mpr rfl)
    · cases hx
  | arraylength => exact xLR_W hH hX (xalen_ok hH hD hs hx)
  | iaload => exact xLR_W hH hX (xal_ok rfl hF hH hX hD hs hx)
  | laload => exact xLR_W hH hX (xal_ok rfl hF hH hX hD hs hx)
  | baload => exact xLR_W hH hX (xal_ok rfl hF hH hX hD hs hx)
  | aaload => exact xLR_W hH hX (xal_ok rfl hF hH hX hD hs hx)
  | iastore => exact xast_ok hX2 hH hX hD hs hx
  | lastore => exact xast_ok hX2 hH hX hD hs hx
  | bastore => exact xast_ok hX2 hH hX hD hs hx
  | newarray ty => exact xnew_ok hX2 hH hX hD hs hx
  | invokestatic k =>
    simp only [xh] at hx
    cases h7 : Nat.beq x.2.2.1 7 with
    | true =>
      rw [h7] at hx
      exact xcpy_ok h7 hX2 hH hX hD hs hx
    | false =>
      rw [h7] at hx
      exact xLR_W hH hX (xmath_ok hD hs hx)
  | _ => cases hx
end XHK
end
section
/-! Twelfth part: templates, and when a state is an instance of one -/
abbrev xTh : Type := List (Nat × xl)
abbrev xPh : Type := List (Nat × Nat)
abbrev xT : Type := xLS × List xv × xD
def xlu : xTh → Nat → Option xl
  | [], _ => none
  | q :: t, k => bif Nat.beq q.1 k then some q.2 else xlu t k
def xlr : xPh → Nat → Option Nat
  | [], _ => none
  | q :: t, k => bif Nat.beq q.1 k then some q.2 else xlr t k
def xsubt (θ : xTh) : List (Nat × Int) → Option xl
  | [] => some (xk 0)
  | q :: t => match xlu θ q.1, xsubt θ t with
    | some e, some s => some (xadd q.2 s e)
    | _, _ => none
def xsub (θ : xTh) (e : xl) : Option xl := match xsubt θ e.2 with
  | some s => some (xpl e.1 s)
  | none => none
def xlin (a : xv) : Bool := match a.1 with
  | 0 => true
  | 1 => true
  | 6 => true
  | 7 => true
  | 8 => true
  | _ => false
def xsubv (θ : xTh) (φ : xPh) (a : xv) : Option xv := bif xlin a then (match xsub θ a.2.1 with
  | some e => some (a.1, e, a.2.2)
  | none => none) else bif Nat.beq a.1 4 then (match xlr φ a.2.2 with
  | some n => some (4, a.2.1, n)
  | none => none) else some a
/-- the bindings say of the other's symbols what they stand for -/
def xbok (ρ : List Int) (σ : List Nat) (θ : xTh) (φ : xPh) (ρc : List Int) (σc : List Nat) : Prop := (∀ k t, xlu θ k = some t → ∃ x, ρc[k]? = some x ∧ xe ρ t = some x) ∧ ∀ k n, xlr φ k = some n → ∃ b, σc[k]? = some b ∧ σ[n]? = some b
section XTM
variable {ρ ρc : List Int} {σ σc τ : List Nat} {θ : xTh} {φ : xPh} {h : zm_H}
theorem xsubt_ok (hb : xbok ρ σ θ φ ρc σc) : ∀ {l : List (Nat × Int)} {s : xl}, xsubt θ l = some s → ∃ z, xt ρc l = some z ∧ xe ρ s = some z
  | [], s, hs => by
    simp only [xsubt] at hs
    cases hs
    exact ⟨0, rfl, xe_k 0⟩
  | q :: t, s, hs => by
    simp only [xsubt] at hs
    split at hs
    · rename_i e s' he hs'
      cases hs
      obtain ⟨z, h1, h2⟩ := xsubt_ok hb hs'
      obtain ⟨x, h3, h4⟩ := hb.1 _ _ he
      refine ⟨q.2 * x + z, xt_cons.mpr ⟨x, z, h3, h1, rfl⟩, ?_⟩
      rw [xe_add h2 h4]
      congr 1
      omega
    · cases hs
theorem xsub_ok (hb : xbok ρ σ θ φ ρc σc) {e e' : xl} (hs : xsub θ e = some e') : ∃ z, xe ρc e = some z ∧ xe ρ e' = some z := by
  unfold xsub at hs
  split at hs
  · rename_i s hs'
    cases hs
    obtain ⟨z, h1, h2⟩ := xsubt_ok hb hs'
    refine ⟨e.1 + z, ?_, ?_⟩
    · simp only [xe, h1]
    · rw [xe_pl e.1 h2]
      congr 1
      omega
  · cases hs
/-- what the substituted value stands for, the value itself stands for -/
theorem xsubv_ok (hb : xbok ρ σ θ φ ρc σc) {a a' : xv} {v : Value} (hs : xsubv θ φ a = some a') : xc ρ σ a' v ↔ xc ρc σc a v := by
  obtain ⟨t, e, n⟩ := a
  unfold xsubv at hs
  cases hl : xlin (t, e, n) with
  | true =>
    rw [hl] at hs
    simp only [cond_true] at hs
    split at hs
    · rename_i e' he
      cases hs
      obtain ⟨z, h1, h2⟩ := xsub_ok hb he
      unfold xlin at hl
      split at hl
      · rename_i h; have h : t = 0 := h; subst h
        show (∃ i : Int32, v = .int i ∧ xe ρ e' = some i.toInt) ↔ ∃ i : Int32, v = .int i ∧ xe ρc e = some i.toInt
        rw [h1, h2]
      · rename_i h; have h : t = 1 := h; subst h
        show (∃ i : Int64, v = .long i ∧ xe ρ e' = some i.toInt) ↔ ∃ i : Int64, v = .long i ∧ xe ρc e = some i.toInt
        rw [h1, h2]
      · rename_i h; have h : t = 6 := h; subst h
        show (∃ x, v = .int (xsgn x) ∧ xe ρ e' = some x) ↔ ∃ x, v = .int (xsgn x) ∧ xe ρc e = some x
        rw [h1, h2]
      · rename_i h; have h : t = 7 := h; subst h
        show (∃ (x j : Nat), xe ρ e' = some (x : Int) ∧ xwh[x]? = some j ∧ v = .retAddr j) ↔ ∃ (x j : Nat), xe ρc e = some (x : Int) ∧ xwh[x]? = some j ∧ v = .retAddr j
        rw [h1, h2]
      · rename_i h; have h : t = 8 := h; subst h
        show (∃ (x j : Nat), xe ρ e' = some (x : Int) ∧ xsl j = some x ∧ v = .retAddr j) ↔ ∃ (x j : Nat), xe ρc e = some (x : Int) ∧ xsl j = some x ∧ v = .retAddr j
        rw [h1, h2]
      · cases hl
    · cases hs
  | false =>
    rw [hl] at hs
    simp only [cond_false] at hs
    cases h4 : Nat.beq t 4 with
    | true =>
      have h4' : t = 4 := Nat.eq_of_beq_eq_true h4
      subst h4'
      simp only [cond_true, Nat.beq_refl] at hs
      split at hs
      · rename_i m hm
        cases hs
        obtain ⟨b, h1, h2⟩ := hb.2 _ _ hm
        show (∃ b, σ[m]? = some b ∧ v = .ref b) ↔ ∃ b, σc[n]? = some b ∧ v = .ref b
        have h1 : σc[n]? = some b := h1
        rw [h1, h2]
      · cases hs
    | false =>
      simp only [h4, cond_false, Option.some.injEq] at hs
      subst hs
      unfold xc
      split
      · rename_i hq; have hq : t = 0 := hq; subst hq; cases hl
      · rename_i hq; have hq : t = 1 := hq; subst hq; cases hl
      · exact Iff.rfl
      · exact Iff.rfl
      · rename_i hq; have hq : t = 4 := hq; subst hq; cases h4
      · exact Iff.rfl
      · rename_i hq; have hq : t = 6 := hq; subst hq; cases hl
      · rename_i hq; have hq : t = 7 := hq; subst hq; cases hl
      · rename_i hq; have hq : t = 8 := hq; subst hq; cases hl
      · exact Iff.rfl
theorem xsubv_ad (hb : xbok ρ σ θ φ ρc σc) {a a' : xv} {ad : Nat} (hs : xsubv θ φ a = some a') (ha : xad σ a' = some ad) : xad σc a = some ad := by
  obtain ⟨t, e, n⟩ := a
  unfold xsubv at hs
  cases hl : xlin (t, e, n) with
  | true =>
    rw [hl] at hs
    simp only [cond_true] at hs
    split at hs
    · cases hs
      unfold xad at ha
      split at ha
      · rename_i h; have h : t = 3 := h; subst h; cases hl
      · rename_i h; have h : t = 4 := h; subst h; cases hl
      · cases ha
    · cases hs
  | false =>
    rw [hl] at hs
    simp only [cond_false] at hs
    cases h4 : Nat.beq t 4 with
    | true =>
      have h4' : t = 4 := Nat.eq_of_beq_eq_true h4
      subst h4'
      simp only [cond_true, Nat.beq_refl] at hs
      split at hs
      · rename_i m hm
        cases hs
        obtain ⟨b, h1, h2⟩ := hb.2 _ _ hm
        have ha : σ[m]? = some ad := ha
        rw [h2] at ha
        cases ha
        exact h1
      · cases hs
    | false =>
      simp only [h4, cond_false, Option.some.injEq] at hs
      subst hs
      unfold xad at ha ⊢
      split at ha
      · exact ha
      · rename_i hq; have hq : t = 4 := hq; subst hq; cases h4
      · cases ha
theorem xsubv_ad2 (hb : xbok ρ σ θ φ ρc σc) {a a' : xv} {ad : Nat} (hs : xsubv θ φ a = some a') (ha : xad σc a = some ad) : xad σ a' = some ad := by
  obtain ⟨t, e, n⟩ := a
  unfold xad at ha
  split at ha
  · rename_i h; have h : t = 3 := h; subst h
    cases ha
    unfold xsubv at hs
    cases hs
    rfl
  · rename_i h; have h : t = 4 := h; subst h
    unfold xsubv at hs
    have hs : (match xlr φ n with
      | some m => some ((4 : Nat), e, m)
      | none => none) = some a' := hs
    split at hs
    · rename_i m hm
      cases hs
      obtain ⟨b, h1, h2⟩ := hb.2 _ _ hm
      have ha : σc[n]? = some ad := ha
      rw [h1] at ha
      cases ha
      exact h2
    · cases hs
  · cases ha
/-! an actual value as a wanted one -/
def xeql (n : xN) (e f : xl) : Bool := bif xeq e f then true else (let d := xadd (.negSucc 0) e f; xpv n.1 n.2 8 d && xpv n.1 n.2 8 (xng d))
theorem xeql_ok {n : xN} {e f : xl} {x y : Int} (hn : xnok ρ n) (he : xe ρ e = some x) (hf : xe ρ f = some y) (h : xeql n e f = true) : x = y := by
  unfold xeql at h
  cases h1 : xeq e f with
  | true =>
    have e1 := of_decide_eq_true h1
    rw [e1, hf] at he
    cases he
    rfl
  | false =>
    rw [h1] at h
    simp only [cond_false, Bool.and_eq_true] at h
    have hd := xe_add (k := .negSucc 0) he hf
    have k1 := xpv_ok hn.1 hn.2 8 hd h.1
    have k2 := xpv_ok hn.1 hn.2 8 (xe_ng hd) h.2
    have e2 : x + Int.negSucc 0 * y = x - y := by show x + (-1) * y = _; omega
    omega
def xsame (n : xN) (b a : xv) : Bool := bif Nat.beq a.1 b.1 then (bif xlin a then xeql n a.2.1 b.2.1 else Nat.beq a.1 2 || Nat.beq a.2.2 b.2.2) else Nat.beq a.1 8 && (Nat.beq b.1 5 && (match xsl b.2.2 with
  | some m => xeql n a.2.1 (xk (.ofNat m))
  | none => false))
theorem xsame_ok {n : xN} {b a : xv} {v : Value} (hn : xnok ρ n) (hb : xc ρ σ b v) (hd : xlin a = true → ∃ z, xe ρ a.2.1 = some z) (h : xsame n b a = true) : xc ρ σ a v := by
  obtain ⟨t, e, k⟩ := a
  obtain ⟨t', e', k'⟩ := b
  unfold xsame at h
  cases h1 : Nat.beq t t' with
  | true =>
    have e1 : t = t' := Nat.eq_of_beq_eq_true h1
    subst e1
    have h : (bif Nat.beq t t then (bif xlin (t, e, k) then xeql n e e' else Nat.beq t 2 || Nat.beq k k') else _) = true := h
    rw [Nat.beq_refl] at h
    simp only [cond_true] at h
    cases hl : xlin (t, e, k) with
    | true =>
      rw [hl] at h
      simp only [cond_true] at h
      obtain ⟨z, hz⟩ := hd hl
      have hz : xe ρ e = some z := hz
      have key : ∀ y, xe ρ e' = some y → xe ρ e = some y := fun y hy => by
        rw [hz, xeql_ok hn hz hy h]
      unfold xlin at hl
      split at hl
      · rename_i h; have h : t = 0 := h; subst h; obtain ⟨i, h5, h6⟩ := hb; exact ⟨i, h5, key _ h6⟩
      · rename_i h; have h : t = 1 := h; subst h; obtain ⟨i, h5, h6⟩ := hb; exact ⟨i, h5, key _ h6⟩
      · rename_i h; have h : t = 6 := h; subst h; obtain ⟨i, h5, h6⟩ := hb; exact ⟨i, h5, key _ h6⟩
      · rename_i h; have h : t = 7 := h; subst h; obtain ⟨i, j, h5, h6⟩ := hb; exact ⟨i, j, key _ h5, h6⟩
      · rename_i h; have h : t = 8 := h; subst h; obtain ⟨i, j, h5, h6⟩ := hb; exact ⟨i, j, key _ h5, h6⟩
      · cases hl
    | false =>
      rw [hl] at h
      simp only [cond_false, Bool.or_eq_true] at h
      rcases h with h | h
      · have h : t = 2 := Nat.eq_of_beq_eq_true h
        subst h
        exact hb
      · have h : k = k' := Nat.eq_of_beq_eq_true h
        subst h
        unfold xc at hb
        split at hb
        · rename_i hq; have hq : t = 0 := hq; subst hq; cases hl
        · rename_i hq; have hq : t = 1 := hq; subst hq; cases hl
        · rename_i hq; have hq : t = 2 := hq; subst hq; exact hb
        · rename_i hq; have hq : t = 3 := hq; subst hq; exact hb
        · rename_i hq; have hq : t = 4 := hq; subst hq; exact hb
        · rename_i hq; have hq : t = 5 := hq; subst hq; exact hb
        · rename_i hq; have hq : t = 6 := hq; subst hq; cases hl
        · rename_i hq; have hq : t = 7 := hq; subst hq; cases hl
        · rename_i hq; have hq : t = 8 := hq; subst hq; cases hl
        · cases hb
  | false =>
    have h : (bif Nat.beq t t' then _ else Nat.beq t 8 && (Nat.beq t' 5 && (match xsl k' with
      | some m => xeql n e (xk (.ofNat m))
      | none => false))) = true := h
    rw [h1] at h
    simp only [cond_false, Bool.and_eq_true] at h
    have e1 : t = 8 := Nat.eq_of_beq_eq_true h.1
    have e2 : t' = 5 := Nat.eq_of_beq_eq_true h.2.1
    subst e1
    subst e2
    have hb : v = .retAddr k' := hb
    obtain ⟨-, -, h3⟩ := h
    split at h3
    · rename_i m hm
      obtain ⟨z, hz⟩ := hd rfl
      have hz : xe ρ e = some z := hz
      have := xeql_ok hn hz (xe_k (.ofNat m)) h3
      subst this
      exact ⟨m, k', hz, hm, hb⟩
    · cases h3
end XTM
/-! the check of an instance -/
def xiL (θ : xTh) (φ : xPh) (n : xN) (ls : xLS) : xLS → Bool
  | [] => true
  | q :: t => (match xget ls q.1, xsubv θ φ q.2 with
    | some b, some a => xsame n b a
    | _, _ => false) && xiL θ φ n ls t
def xiS (θ : xTh) (φ : xPh) (n : xN) : List xv → List xv → Bool
  | [], [] => true
  | b :: s, q :: t => (match xsubv θ φ q with
    | some a => xsame n b a
    | none => false) && xiS θ φ n s t
  | _, _ => false
def xiM (θ : xTh) (φ : xPh) (n : xN) (m : xM) : xM → Bool
  | [] => true
  | q :: t => (match xsubv θ φ q.1, xsubv θ φ q.2.2 with
    | some b, some a => (match xlkf m b q.2.1 with
      | some v => xsame n v a
      | none => false)
    | _, _ => false) && xiM θ φ n m t
def xiA (θ : xTh) (φ : xPh) (n : xN) (m : xMA) : xMA → Bool
  | [] => true
  | q :: t => (match xsubv θ φ q.1, xsub θ q.2.1, xsubv θ φ q.2.2 with
    | some b, some e, some a => (match xlka m b e with
      | some v => xsame n v a
      | none => false)
    | _, _, _ => false) && xiA θ φ n m t
def xiI (θ : xTh) (n : xN) : xI → Bool
  | [] => true
  | q :: t => (match xlu θ q.1 with
    | some e => xpv n.1 n.2 8 (xpl (-q.2.1) e) && xpv n.1 n.2 8 (xpl q.2.2 (xng e))
    | none => false) && xiI θ n t
def xiC (θ : xTh) (n : xN) : List xl → Bool
  | [] => true
  | c :: t => (match xsub θ c with
    | some e => xpv n.1 n.2 8 e
    | none => false) && xiC θ n t
def xiK (φ : xPh) (rk : List Nat) : Nat → List Nat → Bool
  | _, [] => true
  | k, kd :: t => (match xlr φ k with
    | some m => (match rk[m]? with
      | some kd' => Nat.beq kd kd'
      | none => false)
    | none => false) && xiK φ rk (k + 1) t
def xcov (θ : xTh) (iv : xI) : Nat → Bool
  | 0 => true
  | k + 1 => (match xlu θ k with
    | some e => (xlo iv e).isSome
    | none => false) && xcov θ iv k
/-- the state (locals, stack, data) is an instance of the template -/
def xinst (θ : xTh) (φ : xPh) (ls : xLS) (st : List xv) (D : xD) (T : xT) : Bool :=
  θ.all (fun q => Nat.blt q.1 T.2.2.1.2) && (φ.all (fun q => Nat.blt q.1 T.2.2.2.1.length) && (xcov θ D.1.1.1 T.2.2.1.2 && (xiK φ D.2.1 0 T.2.2.2.1 && (xiL θ φ D.1.1 ls T.1 && (xiS θ φ D.1.1 st T.2.1 && (xiI θ D.1.1 T.2.2.1.1.1 && (xiC θ D.1.1 T.2.2.1.1.2 && (xiM θ φ D.1.1 D.2.2.1 T.2.2.2.2.1 && xiA θ φ D.1.1 D.2.2.2.1 T.2.2.2.2.2.1))))))))
end
section
/-! An instance is one -/
theorem xlist {α : Type} {P : Nat → α → Prop} : ∀ n : Nat, (∀ k, k < n → ∃ x, P k x) → ∃ l : List α, l.length = n ∧ ∀ k x, l[k]? = some x → P k x
  | 0, _ => ⟨[], rfl, fun k x h => by simp at h⟩
  | n + 1, h => by
    obtain ⟨l, h1, h2⟩ := xlist n (fun k hk => h k (by omega))
    obtain ⟨x, hx⟩ := h n (by omega)
    refine ⟨l ++ [x], by simp [h1], fun k y hy => ?_⟩
    by_cases hlt : k < l.length
    · rw [List.getElem?_append_left hlt] at hy
      exact h2 k y hy
    · have hl := (List.getElem?_eq_some_iff.mp hy).1
      rw [List.length_append, List.length_singleton] at hl
      have e : k = l.length := by omega
      subst e
      have hy : x = y := by simpa using hy
      subst hy
      rw [h1]
      exact hx
theorem xlu_mem : ∀ {θ : xTh} {k : Nat} {t : xl}, xlu θ k = some t → (k, t) ∈ θ
  | [], k, t, h => by cases h
  | q :: r, k, t, h => by
    simp only [xlu] at h
    cases h1 : Nat.beq q.1 k with
    | true =>
      rw [h1] at h
      cases h
      have e := Nat.eq_of_beq_eq_true h1
      rw [← e]
      exact List.mem_cons_self
    | false =>
      rw [h1] at h
      exact List.mem_cons_of_mem _ (xlu_mem h)
theorem xlr_mem : ∀ {φ : xPh} {k n : Nat}, xlr φ k = some n → (k, n) ∈ φ
  | [], k, n, h => by cases h
  | q :: r, k, n, h => by
    simp only [xlr] at h
    cases h1 : Nat.beq q.1 k with
    | true =>
      rw [h1] at h
      cases h
      have e := Nat.eq_of_beq_eq_true h1
      rw [← e]
      exact List.mem_cons_self
    | false =>
      rw [h1] at h
      exact List.mem_cons_of_mem _ (xlr_mem h)
section XIN
variable {ρ ρc : List Int} {σ σc τ : List Nat} {θ : xTh} {φ : xPh} {h : zm_H} {n : xN}
theorem xcov_ok {iv : xI} (hi : xiok ρ iv) : ∀ {m : Nat}, xcov θ iv m = true → ∀ k, k < m → ∃ x : Int, ∃ t, xlu θ k = some t ∧ xe ρ t = some x
  | 0, _, k, hk => by omega
  | m + 1, hc, k, hk => by
    simp only [xcov, Bool.and_eq_true] at hc
    by_cases e : k = m
    · subst e
      have h1 := hc.1
      split at h1
      · rename_i t ht
        obtain ⟨z, hz⟩ := Option.isSome_iff_exists.mp h1
        obtain ⟨x, hx, -⟩ := xlo_ok hi hz
        exact ⟨x, t, ht, hx⟩
      · cases h1
    · exact xcov_ok hi hc.2 k (by omega)
theorem xiK_ok {rk : List Nat} (hr : xrk σ τ rk) : ∀ {l : List Nat} {k0 : Nat}, xiK φ rk k0 l = true → ∀ k kd, l[k]? = some kd → ∃ b : Nat, ∃ m, xlr φ (k0 + k) = some m ∧ σ[m]? = some b ∧ τ[b]? = some kd
  | [], k0, _, k, kd, hk => by simp at hk
  | kd0 :: t, k0, hc, k, kd, hk => by
    simp only [xiK, Bool.and_eq_true] at hc
    cases k with
    | zero =>
      simp only [List.getElem?_cons_zero, Option.some.injEq] at hk
      subst hk
      have h1 := hc.1
      split at h1
      · rename_i m hm
        split at h1
        · rename_i kd' hkd
          have e := Nat.eq_of_beq_eq_true h1
          subst e
          obtain ⟨b, h2, h3⟩ := hr.2 m _ hkd
          exact ⟨b, m, hm, h2, h3⟩
        · cases h1
      · cases h1
    | succ k =>
      rw [List.getElem?_cons_succ] at hk
      obtain ⟨b, m, h1, h2, h3⟩ := xiK_ok hr hc.2 k kd hk
      exact ⟨b, m, by rw [show k0 + (k + 1) = k0 + 1 + k by omega]; exact h1, h2, h3⟩
theorem xsubv_df (hb : xbok ρ σ θ φ ρc σc) {q a : xv} (hs : xsubv θ φ q = some a) : xlin a = true → ∃ z, xe ρ a.2.1 = some z := by
  intro hl
  unfold xsubv at hs
  cases h1 : xlin q with
  | true =>
    rw [h1] at hs
    simp only [cond_true] at hs
    split at hs
    · rename_i e he
      cases hs
      obtain ⟨z, -, h2⟩ := xsub_ok hb he
      exact ⟨z, h2⟩
    · cases hs
  | false =>
    rw [h1] at hs
    simp only [cond_false] at hs
    cases h4 : Nat.beq q.1 4 with
    | true =>
      rw [h4] at hs
      simp only [cond_true] at hs
      split at hs
      · cases hs; cases hl
      · cases hs
    | false =>
      rw [h4] at hs
      simp only [cond_false, Option.some.injEq] at hs
      subst hs
      rw [h1] at hl
      cases hl
theorem xiL_ok {ls : xLS} {lc : zm_L} (hb : xbok ρ σ θ φ ρc σc) (hn : xnok ρ n) (hl : xlk ρ σ ls lc) : ∀ {T : xLS}, xiL θ φ n ls T = true → xlk ρc σc T lc
  | [], _ => fun q hq => by cases hq
  | p :: t, hc => by
    simp only [xiL, Bool.and_eq_true] at hc
    intro q hq
    rcases List.mem_cons.mp hq with rfl | hq
    · have h1 := hc.1
      split at h1
      · rename_i b a hb2 ha
        obtain ⟨v, h2, h3⟩ := xget_ok hl hb2
        exact ⟨v, h2, (xsubv_ok hb ha).mp (xsame_ok hn h3 (xsubv_df hb ha) h1)⟩
      · cases h1
    · exact xiL_ok hb hn hl hc.2 q hq
theorem xiS_ok (hb : xbok ρ σ θ φ ρc σc) (hn : xnok ρ n) : ∀ {st T : List xv} {sc : List Value}, xsk ρ σ st sc → xiS θ φ n st T = true → xsk ρc σc T sc
  | [], [], sc, hs, _ => by rw [xsk_nil hs]; trivial
  | [], _ :: _, _, _, h => by cases h
  | _ :: _, [], _, _, h => by cases h
  | b :: s, q :: t, sc, hs, hc => by
    obtain ⟨v, s', rfl, h1, h2⟩ := xsk_cons hs
    simp only [xiS, Bool.and_eq_true] at hc
    have h3 := hc.1
    split at h3
    · rename_i a ha
      exact ⟨(xsubv_ok hb ha).mp (xsame_ok hn h1 (xsubv_df hb ha) h3), xiS_ok hb hn h2 hc.2⟩
    · cases h3
theorem xiM_ok {m : xM} (hb : xbok ρ σ θ φ ρc σc) (hn : xnok ρ n) (hm : xmo ρ σ h m) : ∀ {T : xM}, xiM θ φ n m T = true → (∀ q ∈ T, ∀ b, xsubv θ φ q.1 = some b → ∃ ad, xad σ b = some ad) → xmo ρc σc h T
  | [], _, _ => fun q hq => by cases hq
  | p :: t, hc, hd => by
    simp only [xiM, Bool.and_eq_true] at hc
    intro q hq
    rcases List.mem_cons.mp hq with rfl | hq
    · have h1 := hc.1
      split at h1
      · rename_i b a hb2 ha
        split at h1
        · rename_i v hv
          obtain ⟨ad, had⟩ := hd q List.mem_cons_self b hb2
          obtain ⟨w, h2, h3⟩ := xlkf_ok had hm hv
          exact ⟨ad, w, xsubv_ad hb hb2 had, h2, (xsubv_ok hb ha).mp (xsame_ok hn h3 (xsubv_df hb ha) h1)⟩
        · cases h1
      · cases h1
    · exact xiM_ok hb hn hm hc.2 (fun q hq => hd q (List.mem_cons_of_mem _ hq)) q hq
theorem xlkf_ad {m : xM} {b v : xv} {f : Nat} (hm : xmo ρ σ h m) (hl : xlkf m b f = some v) : ∃ ad, xad σ b = some ad := by
  induction m with
  | nil => cases hl
  | cons q t ih =>
    simp only [xlkf] at hl
    cases hc : Nat.beq q.2.1 f && (Nat.beq q.1.1 b.1 && Nat.beq q.1.2.2 b.2.2) with
    | false => rw [hc] at hl; exact ih (fun q hq => hm q (List.mem_cons_of_mem _ hq)) hl
    | true =>
      simp only [Bool.and_eq_true] at hc
      obtain ⟨ad, w, h1, -, -⟩ := hm q List.mem_cons_self
      exact ⟨ad, xad_same hc.2.1 hc.2.2 h1⟩
theorem xlka_ad {m : xMA} {b v : xv} {e : xl} (hm : xmao ρ σ h m) (hl : xlka m b e = some v) : ∃ ad, xad σ b = some ad := by
  induction m with
  | nil => cases hl
  | cons q t ih =>
    simp only [xlka] at hl
    cases hc : (Nat.beq q.1.1 b.1 && Nat.beq q.1.2.2 b.2.2) && xeq q.2.1 e with
    | false => rw [hc] at hl; exact ih (fun q hq => hm q (List.mem_cons_of_mem _ hq)) hl
    | true =>
      simp only [Bool.and_eq_true] at hc
      obtain ⟨ad, j, w, h1, -, -, -⟩ := hm q List.mem_cons_self
      exact ⟨ad, xad_same hc.1.1 hc.1.2 h1⟩
theorem xiM_ok2 {m : xM} (hb : xbok ρ σ θ φ ρc σc) (hn : xnok ρ n) (hm : xmo ρ σ h m) : ∀ {T : xM}, xiM θ φ n m T = true → xmo ρc σc h T
  | [], _ => fun q hq => by cases hq
  | p :: t, hc => by
    simp only [xiM, Bool.and_eq_true] at hc
    intro q hq
    rcases List.mem_cons.mp hq with rfl | hq
    · have h1 := hc.1
      split at h1
      · rename_i b a hb2 ha
        split at h1
        · rename_i v hv
          obtain ⟨ad, had⟩ := xlkf_ad hm hv
          obtain ⟨w, h2, h3⟩ := xlkf_ok had hm hv
          exact ⟨ad, w, xsubv_ad hb hb2 had, h2, (xsubv_ok hb ha).mp (xsame_ok hn h3 (xsubv_df hb ha) h1)⟩
        · cases h1
      · cases h1
    · exact xiM_ok2 hb hn hm hc.2 q hq
theorem xiA_ok {m : xMA} (hb : xbok ρ σ θ φ ρc σc) (hn : xnok ρ n) (hm : xmao ρ σ h m) : ∀ {T : xMA}, xiA θ φ n m T = true → xmao ρc σc h T
  | [], _ => fun q hq => by cases hq
  | p :: t, hc => by
    simp only [xiA, Bool.and_eq_true] at hc
    intro q hq
    rcases List.mem_cons.mp hq with rfl | hq
    · have h1 := hc.1
      split at h1
      · rename_i b e a hb2 he ha
        split at h1
        · rename_i v hv
          obtain ⟨ad, had⟩ := xlka_ad hm hv
          obtain ⟨j, w, h2, h3, h4⟩ := xlka_ok had hm hv
          obtain ⟨z, h5, h6⟩ := xsub_ok hb he
          rw [h2] at h6
          cases h6
          exact ⟨ad, j, w, xsubv_ad hb hb2 had, h5, h3, (xsubv_ok hb ha).mp (xsame_ok hn h4 (xsubv_df hb ha) h1)⟩
        · cases h1
      · cases h1
    · exact xiA_ok hb hn hm hc.2 q hq
theorem xiI_ok (hb : xbok ρ σ θ φ ρc σc) (hn : xnok ρ n) : ∀ {T : xI}, xiI θ n T = true → xiok ρc T
  | [], _ => fun q hq => by cases hq
  | p :: t, hc => by
    simp only [xiI, Bool.and_eq_true] at hc
    intro q hq
    rcases List.mem_cons.mp hq with rfl | hq
    · have h1 := hc.1
      split at h1
      · rename_i e he
        simp only [Bool.and_eq_true] at h1
        obtain ⟨x, h2, h3⟩ := hb.1 _ _ he
        have k1 := xpv_ok hn.1 hn.2 8 (xe_pl (-q.2.1) h3) h1.1
        have k2 := xpv_ok hn.1 hn.2 8 (xe_pl q.2.2 (xe_ng h3)) h1.2
        exact ⟨x, h2, by omega, by omega⟩
      · cases h1
    · exact xiI_ok hb hn hc.2 q hq
theorem xiC_ok (hb : xbok ρ σ θ φ ρc σc) (hn : xnok ρ n) : ∀ {T : List xl}, xiC θ n T = true → xcok ρc T
  | [], _ => fun q hq => by cases hq
  | p :: t, hc => by
    simp only [xiC, Bool.and_eq_true] at hc
    intro q hq
    rcases List.mem_cons.mp hq with rfl | hq
    · have h1 := hc.1
      split at h1
      · rename_i e he
        obtain ⟨z, h2, h3⟩ := xsub_ok hb he
        exact ⟨z, h2, xpv_ok hn.1 hn.2 8 h3 h1⟩
      · cases h1
    · exact xiC_ok hb hn hc.2 q hq
theorem xinst_ok {ls : xLS} {st : List xv} {D : xD} {T : xT} {lc : zm_L} {sc : List Value} (hD : xdok ρ σ τ h D) (hl : xlk ρ σ ls lc) (hs : xsk ρ σ st sc) (hx : xinst θ φ ls st D T = true) : ∃ ρc σc, xbok ρ σ θ φ ρc σc ∧ xdok ρc σc τ h T.2.2 ∧ xlk ρc σc T.1 lc ∧ xsk ρc σc T.2.1 sc := by
  unfold xinst at hx
  simp only [Bool.and_eq_true] at hx
  obtain ⟨h1, h2, h3, h4, h5, h6, h7, h8, h9, h10⟩ := hx
  have hn := hD.1.1
  obtain ⟨ρc, r1, r2⟩ := xlist T.2.2.1.2 (xcov_ok hn.1 h3)
  obtain ⟨σc, s1, s2⟩ := xlist (P := fun k b => ∃ m, xlr φ k = some m ∧ σ[m]? = some b ∧ τ[b]? = T.2.2.2.1[k]?) T.2.2.2.1.length (fun k hk => by
    obtain ⟨b, m, a1, a2, a3⟩ := xiK_ok hD.2.1 h4 k _ (List.getElem?_eq_getElem hk)
    rw [Nat.zero_add] at a1
    exact ⟨b, m, a1, a2, by rw [a3, List.getElem?_eq_getElem hk]⟩)
  have hb : xbok ρ σ θ φ ρc σc := by
    constructor
    · intro k t hk
      have hlt := List.all_eq_true.mp h1 _ (xlu_mem hk)
      have hlt : k < T.2.2.1.2 := by simpa using hlt
      have hg : ρc[k]? = some ρc[k] := List.getElem?_eq_getElem (by omega)
      obtain ⟨t', e1, e2⟩ := r2 k _ hg
      rw [hk] at e1
      cases e1
      exact ⟨_, hg, e2⟩
    · intro k m hk
      have hlt := List.all_eq_true.mp h2 _ (xlr_mem hk)
      have hlt : k < T.2.2.2.1.length := by simpa using hlt
      have hg : σc[k]? = some σc[k] := List.getElem?_eq_getElem (by omega)
      obtain ⟨m', e1, e2, -⟩ := s2 k _ hg
      rw [hk] at e1
      cases e1
      exact ⟨_, hg, e2⟩
  refine ⟨ρc, σc, hb, ⟨⟨⟨xiI_ok hb hn h7, xiC_ok hb hn h8⟩, r1.symm⟩, ⟨s1, fun k kd hk => ?_⟩, xiM_ok2 hb hn hD.2.2.1 h9, xiA_ok hb hn hD.2.2.2 h10⟩, xiL_ok hb hn hl h5, xiS_ok hb hn hs h6⟩
  have hlt := (List.getElem?_eq_some_iff.mp hk).1
  have hg : σc[k]? = some σc[k] := List.getElem?_eq_getElem (by omega)
  obtain ⟨m, e1, e2, e3⟩ := s2 k _ hg
  exact ⟨_, hg, by rw [e3]; exact hk⟩
end XIN
end
section
/-! Thirteenth part: contracts, and what a call brings -/
abbrev xPo : Type := Option xv × xD
abbrev xCo : Type := Nat × xT × List xPo × List (Nat × Nat) × Nat × Nat
def xbare (e : xl) : Option Nat := match e.1, e.2 with
  | .ofNat 0, [q] => (match q.2 with
    | .ofNat 1 => some q.1
    | _ => none)
  | _, _ => none
def xb1 (b a : xv) (q : xTh × xPh) : xTh × xPh := bif xlin a then (match xbare a.2.1 with
  | some k => (match xlu q.1 k with
    | none => ((k, bif Nat.beq b.1 5 then (match xsl b.2.2 with
      | some m => xk (.ofNat m)
      | none => b.2.1) else b.2.1) :: q.1, q.2)
    | some _ => q)
  | none => q) else bif Nat.beq a.1 4 then (match xlr q.2 a.2.2 with
  | none => (q.1, (a.2.2, b.2.2) :: q.2)
  | some _ => q) else q
def xbL (ls : xLS) : xLS → xTh × xPh → xTh × xPh
  | [], q => q
  | p :: t, q => xbL ls t (match xget ls p.1 with
    | some b => xb1 b p.2 q
    | none => q)
def xbS : List xv → List xv → xTh × xPh → xTh × xPh
  | b :: s, a :: t, q => xbS s t (xb1 b a q)
  | _, _, q => q
def xbM (m : xM) : xM → xTh × xPh → xTh × xPh
  | [], q => q
  | p :: t, q => xbM m t (match xsubv q.1 q.2 p.1 with
    | some b => (match xlkf m b p.2.1 with
      | some v => xb1 v p.2.2 q
      | none => q)
    | none => q)
def xbA (m : xMA) : xMA → xTh × xPh → xTh × xPh
  | [], q => q
  | p :: t, q => xbA m t (match xsubv q.1 q.2 p.1, xsub q.1 p.2.1 with
    | some b, some e => (match xlka m b e with
      | some v => xb1 v p.2.2 q
      | none => q)
    | _, _ => q)
/-- a guess of the bindings -/
def xbind (q : xTh × xPh) (ls : xLS) (st : List xv) (D : xD) (T : xT) : xTh × xPh := xbA D.2.2.2.1 T.2.2.2.2.2.1 (xbM D.2.2.1 T.2.2.2.2.1 (xbS st T.2.1 (xbL ls T.1 q)))
/-! a field that a template wants and that nobody has read yet -/
def xpre1 (V : xEnv) (D : xD) (b : xv) (f : Nat) : xD := bif Nat.beq b.1 3 then (match xkd V.2.1 D.2.1 b with
  | some kd => (match V.1 kd with
    | some (.inl d) => (match xgf V (d.1, f, 0, .null, []) D [b] with
      | some [s] => s.1
      | _ => D)
    | _ => D)
  | none => D) else D
def xprel (V : xEnv) : xM → xD → xD
  | [], D => D
  | q :: t, D => xprel V t (xpre1 V D q.1 q.2.1)
def xms (l : List (Nat × Nat)) (k f : Nat) : Bool := l.any (fun q => Nat.beq q.1 k && Nat.beq q.2 f)
def xkM (V : xEnv) (rk : List Nat) (ms : List (Nat × Nat)) (m : xM) : xM := m.filter (fun q => match xkd V.2.1 rk q.1 with
  | some k => !(xms ms k q.2.1)
  | none => false)
def xkA (V : xEnv) (rk : List Nat) (ms : List (Nat × Nat)) (m : xMA) : xMA := m.filter (fun q => match xkd V.2.1 rk q.1 with
  | some k => !(xms ms k 0)
  | none => false)
def xnsy (np nx : Nat) : Nat → xTh → xTh
  | 0, θ => θ
  | m + 1, θ => (np + m, xsym (nx + m)) :: xnsy np nx m θ
def xnrf (nrp nr : Nat) : Nat → xPh → xPh
  | 0, φ => φ
  | m + 1, φ => (nrp + m, nr + m) :: xnrf nrp nr m φ
/-- none: it can't be told; some none: it can't be so -/
def xpI (θ : xTh) (np nx : Nat) : xI → xN → Option (Option xN)
  | [], n => some (some n)
  | q :: t, n => bif Nat.ble np q.1 then xpI θ np nx t ((nx + (q.1 - np), q.2.1, q.2.2) :: n.1, n.2) else (match xlu θ q.1 with
    | none => none
    | some e => (match xas n (xpl (-q.2.1) e) with
      | none => some none
      | some n1 => (match xas n1 (xpl q.2.2 (xng e)) with
        | none => some none
        | some n2 => xpI θ np nx t n2)))
def xpC (θ : xTh) : List xl → xN → Option (Option xN)
  | [], n => some (some n)
  | c :: t, n => (match xsub θ c with
    | none => none
    | some e => (match xas n e with
      | none => some none
      | some n1 => xpC θ t n1))
def xpM (θ : xTh) (φ : xPh) : xM → xM → Option xM
  | [], m => some m
  | q :: t, m => (match xsubv θ φ q.1, xsubv θ φ q.2.2, xpM θ φ t m with
    | some b, some v, some l => some ((b, q.2.1, v) :: l)
    | _, _, _ => none)
def xpA (θ : xTh) (φ : xPh) : xMA → xMA → Option xMA
  | [], m => some m
  | q :: t, m => (match xsubv θ φ q.1, xsub θ q.2.1, xsubv θ φ q.2.2, xpA θ φ t m with
    | some b, some e, some v, some l => some ((b, e, v) :: l)
    | _, _, _, _ => none)
def xpV (θ : xTh) (φ : xPh) (o : Option xv) : Option (Option xv) := match o with
  | none => some none
  | some a => (match xsubv θ φ a with
    | some b => some (some b)
    | none => none)
/-- one way in which a call may end -/
def xpost (V : xEnv) (c : xCo) (θ : xTh) (φ : xPh) (D : xD) (p : xPo) : Option (Option (xD × Option xv)) :=
  let np := c.2.1.2.2.1.2
  let nrp := c.2.1.2.2.2.1.length
  let m := p.2.1.2 - np
  let mr := p.2.2.1.length - nrp
  let θ' := xnsy np D.1.2 m θ
  let φ' := xnrf nrp D.2.1.length mr φ
  match xpI θ' np D.1.2 p.2.1.1.1 D.1.1 with
  | none => none
  | some none => some none
  | some (some n1) => (match xpC θ' p.2.1.1.2 n1 with
    | none => none
    | some none => some none
    | some (some n2) => (match xpM θ' φ' p.2.2.2.1 (xkM V D.2.1 c.2.2.2.1 D.2.2.1), xpA θ' φ' p.2.2.2.2.1 (xkA V D.2.1 c.2.2.2.1 D.2.2.2.1), xpV θ' φ' p.1 with
      | some M, some A, some v => some (some (((n2, D.1.2 + m), D.2.1 ++ p.2.2.1.drop nrp, M, A, D.2.2.2.2 + c.2.2.2.2.1), v))
      | _, _, _ => none))
def xposts (V : xEnv) (c : xCo) (θ : xTh) (φ : xPh) (D : xD) : List xPo → Option (List (xD × Option xv))
  | [] => some []
  | p :: t => (match xposts V c θ φ D t, xpost V c θ φ D p with
    | some l, some (some s) => some (s :: l)
    | some l, some none => some l
    | _, _ => none)
def xrs (ρ : List Int) (σ : List Nat) (o : Option xv) (r : Option Value) : Prop := match o, r with
  | none, none => True
  | some a, some v => xc ρ σ a v
  | _, _ => False
/-- what a contract says -/
def xQc (V : xEnv) (X : List Nat → zm_H → Prop) (W : zm_H → Nat) (c : xCo) (ρ : List Int) (σ τ : List Nat) (h : zm_H) (r : Option Value) (h' : zm_H) : Prop := ∃ τ', xHI V.1 V.2.1 τ' h' ∧ X τ' h' ∧ xF (xms c.2.2.2.1) τ h τ' h' ∧ W h' ≤ W h + c.2.2.2.2.1 ∧ ∃ p ∈ c.2.2.1, ∃ r' s', xdok (ρ ++ r') (σ ++ s') τ' h' p.2 ∧ xrs (ρ ++ r') (σ ++ s') p.1 r
def xV (V : xEnv) (X : List Nat → zm_H → Prop) (W : zm_H → Nat) (og : Nat → Option zm_C) (c : xCo) : Prop := ∀ (ρ : List Int) (σ τ : List Nat) (h : zm_H) (lc : zm_L), xHI V.1 V.2.1 τ h → X τ h → xdok ρ σ τ h c.2.1.2.2 → xlk ρ σ c.2.1.1 lc → zm_Y og c.2.2.2.2.2 c.1 0 lc [] h (xQc V X W c ρ σ τ h)
section XCN
variable {ρ ρc r' : List Int} {σ σc s' τ τ' : List Nat} {θ : xTh} {φ : xPh} {h h' : zm_H} {V : xEnv} {X : List Nat → zm_H → Prop} {W : zm_H → Nat} {D : xD} {c : xCo} {p : xPo}
theorem xnsy_ok {np nx : Nat} (h1 : ρc.length = np) (h2 : ρ.length = nx) (hb : ∀ k t, xlu θ k = some t → ∃ x, ρc[k]? = some x ∧ xe ρ t = some x) : ∀ {m : Nat}, m ≤ r'.length → ∀ k t, xlu (xnsy np nx m θ) k = some t → ∃ x, (ρc ++ r')[k]? = some x ∧ xe (ρ ++ r') t = some x
  | 0, _, k, t, hk => by
    obtain ⟨x, a, b⟩ := hb k t hk
    refine ⟨x, ?_, xe_mono b⟩
    rw [List.getElem?_append_left (List.getElem?_eq_some_iff.mp a).1]
    exact a
  | m + 1, hm, k, t, hk => by
    simp only [xnsy, xlu] at hk
    cases hc : Nat.beq (np + m) k with
    | true =>
      rw [hc] at hk
      cases hk
      have e : np + m = k := Nat.eq_of_beq_eq_true hc
      subst e
      have hg : r'[m]? = some r'[m] := List.getElem?_eq_getElem (by omega)
      refine ⟨r'[m], ?_, xe_sym ?_⟩
      · rw [List.getElem?_append_right (by omega), h1, Nat.add_sub_cancel_left]
        exact hg
      · rw [List.getElem?_append_right (by omega), h2, Nat.add_sub_cancel_left]
        exact hg
    | false =>
      rw [hc] at hk
      exact xnsy_ok h1 h2 hb (by omega) k t hk
theorem xnrf_ok {nrp nr : Nat} (h1 : σc.length = nrp) (h2 : σ.length = nr) (hb : ∀ k n, xlr φ k = some n → ∃ b, σc[k]? = some b ∧ σ[n]? = some b) : ∀ {m : Nat}, m ≤ s'.length → ∀ k n, xlr (xnrf nrp nr m φ) k = some n → ∃ b, (σc ++ s')[k]? = some b ∧ (σ ++ s')[n]? = some b
  | 0, _, k, n, hk => by
    obtain ⟨b, a1, a2⟩ := hb k n hk
    exact ⟨b, xgl a1, xgl a2⟩
  | m + 1, hm, k, n, hk => by
    simp only [xnrf, xlr] at hk
    cases hc : Nat.beq (nrp + m) k with
    | true =>
      rw [hc] at hk
      cases hk
      have e : nrp + m = k := Nat.eq_of_beq_eq_true hc
      subst e
      have hg : s'[m]? = some s'[m] := List.getElem?_eq_getElem (by omega)
      refine ⟨s'[m], ?_, ?_⟩
      · rw [List.getElem?_append_right (by omega), h1, Nat.add_sub_cancel_left]
        exact hg
      · rw [List.getElem?_append_right (by omega), h2, Nat.add_sub_cancel_left]
        exact hg
    | false =>
      rw [hc] at hk
      exact xnrf_ok h1 h2 hb (by omega) k n hk
theorem xpI_ok {θ' : xTh} {np nx : Nat} (h1 : ρc.length = np) (h2 : ρ.length = nx) (hb : ∀ k t, xlu θ' k = some t → ∃ x, (ρc ++ r')[k]? = some x ∧ xe (ρ ++ r') t = some x) : ∀ {I : xI} {n : xN} {o : Option xN}, xnok (ρ ++ r') n → xiok (ρc ++ r') I → xpI θ' np nx I n = some o → ∃ n', o = some n' ∧ xnok (ρ ++ r') n'
  | [], n, o, hn, _, hx => by cases hx; exact ⟨n, rfl, hn⟩
  | q :: t, n, o, hn, hi, hx => by
    simp only [xpI] at hx
    obtain ⟨x, hq, h3, h4⟩ := hi q List.mem_cons_self
    have hi' : xiok (ρc ++ r') t := fun q hq => hi q (List.mem_cons_of_mem _ hq)
    cases hc : Nat.ble np q.1 with
    | true =>
      rw [hc] at hx
      have hle := Nat.le_of_ble_eq_true hc
      simp only [cond_true] at hx
      refine xpI_ok (n := ((nx + (q.1 - np), q.2.1, q.2.2) :: n.1, n.2)) h1 h2 hb ⟨fun p hp => ?_, hn.2⟩ hi' hx
      rcases List.mem_cons.mp hp with rfl | hp
      · refine ⟨x, ?_, h3, h4⟩
        rw [List.getElem?_append_right (by omega), h1] at hq
        show (ρ ++ r')[nx + (q.1 - np)]? = some x
        rw [List.getElem?_append_right (by omega), h2, Nat.add_sub_cancel_left]
        exact hq
      · exact hn.1 p hp
    | false =>
      rw [hc] at hx
      simp only [cond_false] at hx
      split at hx
      · cases hx
      · rename_i e he
        obtain ⟨x', a1, a2⟩ := hb _ _ he
        rw [hq] at a1
        cases a1
        obtain ⟨n1, b1, b2⟩ := xas_ok hn (xe_pl (-q.2.1) a2) (by omega)
        rw [b1] at hx
        obtain ⟨n2, c1, c2⟩ := xas_ok b2 (xe_pl q.2.2 (xe_ng a2)) (by omega)
        simp only [c1] at hx
        exact xpI_ok h1 h2 hb c2 hi' hx
theorem xpC_ok {ρ1 ρ2 : List Int} {σ1 σ2 : List Nat} (hb : xbok ρ1 σ1 θ φ ρ2 σ2) : ∀ {I : List xl} {n : xN} {o : Option xN}, xnok ρ1 n → xcok ρ2 I → xpC θ I n = some o → ∃ n', o = some n' ∧ xnok ρ1 n'
  | [], n, o, hn, _, hx => by cases hx; exact ⟨n, rfl, hn⟩
  | q :: t, n, o, hn, hi, hx => by
    simp only [xpC] at hx
    split at hx
    · cases hx
    · rename_i e he
      obtain ⟨z, h1, h2⟩ := xsub_ok hb he
      obtain ⟨x, h3, h4⟩ := hi q List.mem_cons_self
      rw [h1] at h3
      cases h3
      obtain ⟨n1, b1, b2⟩ := xas_ok hn h2 h4
      rw [b1] at hx
      exact xpC_ok hb b2 (fun q hq => hi q (List.mem_cons_of_mem _ hq)) hx
theorem xpM_ok {ρ1 ρ2 : List Int} {σ1 σ2 : List Nat} (hb : xbok ρ1 σ1 θ φ ρ2 σ2) {m : xM} (hm : xmo ρ1 σ1 h m) : ∀ {I M : xM}, xmo ρ2 σ2 h I → xpM θ φ I m = some M → xmo ρ1 σ1 h M
  | [], M, _, hx => by cases hx; exact hm
  | q :: t, M, hi, hx => by
    simp only [xpM] at hx
    split at hx
    · rename_i b v l h1 h2 h3
      cases hx
      intro p hp
      rcases List.mem_cons.mp hp with rfl | hp
      · obtain ⟨ad, w, a1, a2, a3⟩ := hi q List.mem_cons_self
        exact ⟨ad, w, xsubv_ad2 hb h1 a1, a2, (xsubv_ok hb h2).mpr a3⟩
      · exact xpM_ok hb hm (fun q hq => hi q (List.mem_cons_of_mem _ hq)) h3 p hp
    · cases hx
theorem xpA_ok {ρ1 ρ2 : List Int} {σ1 σ2 : List Nat} (hb : xbok ρ1 σ1 θ φ ρ2 σ2) {m : xMA} (hm : xmao ρ1 σ1 h m) : ∀ {I M : xMA}, xmao ρ2 σ2 h I → xpA θ φ I m = some M → xmao ρ1 σ1 h M
  | [], M, _, hx => by cases hx; exact hm
  | q :: t, M, hi, hx => by
    simp only [xpA] at hx
    split at hx
    · rename_i b e v l h1 h4 h2 h3
      cases hx
      intro p hp
      rcases List.mem_cons.mp hp with rfl | hp
      · obtain ⟨ad, j, w, a1, a2, a3, a4⟩ := hi q List.mem_cons_self
        obtain ⟨z, b1, b2⟩ := xsub_ok hb h4
        rw [a2] at b1
        cases b1
        exact ⟨ad, j, w, xsubv_ad2 hb h1 a1, b2, a3, (xsubv_ok hb h2).mpr a4⟩
      · exact xpA_ok hb hm (fun q hq => hi q (List.mem_cons_of_mem _ hq)) h3 p hp
    · cases hx
theorem xpV_ok {ρ1 ρ2 : List Int} {σ1 σ2 : List Nat} (hb : xbok ρ1 σ1 θ φ ρ2 σ2) {o o' : Option xv} {r : Option Value} (h1 : xpV θ φ o = some o') (h2 : xrs ρ2 σ2 o r) : xrs ρ1 σ1 o' r := by
  cases o with
  | none =>
    cases h1
    cases r with
    | none => trivial
    | some v => cases h2
  | some a =>
    simp only [xpV] at h1
    split at h1
    · rename_i b hb2
      cases h1
      cases r with
      | none => cases h2
      | some v => exact (xsubv_ok hb hb2).mpr h2
    · cases h1
theorem xkM_ok (hH : xHI V.1 V.2.1 τ h) (hD : xdok ρ σ τ h D) {ms : List (Nat × Nat)} (hf : xF (xms ms) τ h τ' h') : xmo ρ σ h' (xkM V D.2.1 ms D.2.2.1) := by
  intro q hq
  obtain ⟨h1, h2⟩ := List.mem_filter.mp hq
  obtain ⟨ad, v, a1, a2, a3⟩ := hD.2.2.1 q h1
  split at h2
  · rename_i k hk
    have ht := xkd_ad hH hD.2.1 a1 hk
    exact ⟨ad, v, a1, hf.2.1 ad k _ v ht (by simpa using h2) a2, a3⟩
  · cases h2
theorem xkA_ok (hH : xHI V.1 V.2.1 τ h) (hD : xdok ρ σ τ h D) {ms : List (Nat × Nat)} (hf : xF (xms ms) τ h τ' h') : xmao ρ σ h' (xkA V D.2.1 ms D.2.2.2.1) := by
  intro q hq
  obtain ⟨h1, h2⟩ := List.mem_filter.mp hq
  obtain ⟨ad, j, v, a1, a2, a3, a4⟩ := hD.2.2.2 q h1
  split at h2
  · rename_i k hk
    have ht := xkd_ad hH hD.2.1 a1 hk
    refine ⟨ad, j, v, a1, a2, ?_, a4⟩
    unfold xar at a3 ⊢
    split at a3
    · rename_i cc hcc
      rw [hf.2.2 ad k cc ht (by simpa using h2) hcc]
      exact a3
    · cases a3
  · cases h2
theorem xpost_ok {o : Option (xD × Option xv)} {r : Option Value} (hH : xHI V.1 V.2.1 τ h) (hD : xdok ρ σ τ h D) (hb : xbok ρ σ θ φ ρc σc) (hc1 : ρc.length = c.2.1.2.2.1.2) (hc2 : σc.length = c.2.1.2.2.2.1.length) (hf : xF (xms c.2.2.2.1) τ h τ' h') (hp : xdok (ρc ++ r') (σc ++ s') τ' h' p.2) (hr : xrs (ρc ++ r') (σc ++ s') p.1 r) (hx : xpost V c θ φ D p = some o) : ∃ s, o = some s ∧ xdok (ρ ++ r') (σ ++ s') τ' h' s.1 ∧ xrs (ρ ++ r') (σ ++ s') s.2 r ∧ s.1.2.2.2.2 = D.2.2.2.2 + c.2.2.2.2.1 := by
  have hnx := hD.1.2
  have hrl := hD.2.1.1
  have hpx := hp.1.2
  have hprl := hp.2.1.1
  rw [List.length_append] at hpx hprl
  have em : p.2.1.2 - c.2.1.2.2.1.2 = r'.length := by omega
  have er : p.2.2.1.length - c.2.1.2.2.2.1.length = s'.length := by omega
  unfold xpost at hx
  simp only [em, er] at hx
  have hθ := xnsy_ok (r' := r') hc1 (show ρ.length = D.1.2 by omega) hb.1 (Nat.le_refl r'.length)
  have hφ := xnrf_ok (s' := s') hc2 (show σ.length = D.2.1.length by omega) hb.2 (Nat.le_refl s'.length)
  have hb' : xbok (ρ ++ r') (σ ++ s') (xnsy c.2.1.2.2.1.2 D.1.2 r'.length θ) (xnrf c.2.1.2.2.2.1.length D.2.1.length s'.length φ) (ρc ++ r') (σc ++ s') := ⟨hθ, hφ⟩
  split at hx
  · cases hx
  · rename_i h1
    obtain ⟨n', e, -⟩ := xpI_ok hc1 (show ρ.length = D.1.2 by omega) hθ (xnok_mono hD.1.1) hp.1.1.1 h1
    cases e
  · rename_i n1 h1
    obtain ⟨n1', e, hn1⟩ := xpI_ok hc1 (show ρ.length = D.1.2 by omega) hθ (xnok_mono hD.1.1) hp.1.1.1 h1
    cases e
    split at hx
    · cases hx
    · rename_i h2
      obtain ⟨n', e, -⟩ := xpC_ok hb' hn1 hp.1.1.2 h2
      cases e
    · rename_i n2 h2
      obtain ⟨n2', e, hn2⟩ := xpC_ok hb' hn1 hp.1.1.2 h2
      cases e
      split at hx
      · rename_i M A v hM hA hv
        cases hx
        refine ⟨_, rfl, ⟨⟨hn2, ?_⟩, ⟨?_, fun k kd hk => ?_⟩, xpM_ok hb' (xmo_mono (xkM_ok hH hD hf)) hp.2.2.1 hM, xpA_ok hb' (xmao_mono (xkA_ok hH hD hf)) hp.2.2.2 hA⟩, xpV_ok hb' hv hr, rfl⟩
        · show D.1.2 + r'.length = _
          rw [List.length_append]
          omega
        · show (σ ++ s').length = (D.2.1 ++ p.2.2.1.drop _).length
          rw [List.length_append, List.length_append, List.length_drop]
          omega
        · have hk : (D.2.1 ++ p.2.2.1.drop c.2.1.2.2.2.1.length)[k]? = some kd := hk
          obtain ⟨sx, hsx⟩ := hf.1
          by_cases hlt : k < D.2.1.length
          · rw [List.getElem?_append_left hlt] at hk
            obtain ⟨b, a1, a2⟩ := hD.2.1.2 k kd hk
            exact ⟨b, xgl a1, by rw [hsx]; exact xgl a2⟩
          · rw [List.getElem?_append_right (by omega), List.getElem?_drop] at hk
            obtain ⟨b, a1, a2⟩ := hp.2.1.2 _ kd hk
            refine ⟨b, ?_, a2⟩
            rw [List.getElem?_append_right (by omega)] at a1 ⊢
            rw [← a1]
            congr 1
            omega
      · cases hx
theorem xposts_ok {r : Option Value} (hH : xHI V.1 V.2.1 τ h) (hD : xdok ρ σ τ h D) (hb : xbok ρ σ θ φ ρc σc) (hc1 : ρc.length = c.2.1.2.2.1.2) (hc2 : σc.length = c.2.1.2.2.2.1.length) (hf : xF (xms c.2.2.2.1) τ h τ' h') (hp : xdok (ρc ++ r') (σc ++ s') τ' h' p.2) (hr : xrs (ρc ++ r') (σc ++ s') p.1 r) : ∀ {P : List xPo} {l : List (xD × Option xv)}, p ∈ P → xposts V c θ φ D P = some l → ∃ s ∈ l, xdok (ρ ++ r') (σ ++ s') τ' h' s.1 ∧ xrs (ρ ++ r') (σ ++ s') s.2 r ∧ s.1.2.2.2.2 = D.2.2.2.2 + c.2.2.2.2.1
  | [], l, hm, _ => by cases hm
  | q :: t, l, hm, hx => by
    simp only [xposts] at hx
    split at hx
    · rename_i l' s h1 h2
      cases hx
      rcases List.mem_cons.mp hm with rfl | hm
      · obtain ⟨s0, e, a⟩ := xpost_ok hH hD hb hc1 hc2 hf hp hr h2
        cases e
        exact ⟨s, List.mem_cons_self, a⟩
      · obtain ⟨s0, a1, a2⟩ := xposts_ok hH hD hb hc1 hc2 hf hp hr hm h1
        exact ⟨s0, List.mem_cons_of_mem _ a1, a2⟩
    · rename_i l' h1 h2
      cases hx
      rcases List.mem_cons.mp hm with rfl | hm
      · obtain ⟨s0, e, a⟩ := xpost_ok hH hD hb hc1 hc2 hf hp hr h2
        cases e
      · exact xposts_ok hH hD hb hc1 hc2 hf hp hr hm h1
    · cases hx
theorem xpre1_ok {b : xv} {f : Nat} (hH : xHI V.1 V.2.1 τ h) (hD : xdok ρ σ τ h D) : ∃ r s, xdok (ρ ++ r) (σ ++ s) τ h (xpre1 V D b f) ∧ (xpre1 V D b f).2.2.2.2 = D.2.2.2.2 := by
  have hid : ∃ r s, xdok (ρ ++ r) (σ ++ s) τ h D ∧ D.2.2.2.2 = D.2.2.2.2 := ⟨[], [], by rw [List.append_nil, List.append_nil]; exact hD, rfl⟩
  unfold xpre1
  cases hb : Nat.beq b.1 3 with
  | false => exact hid
  | true =>
    simp only [cond_true]
    split
    · split
      · rename_i d hd
        split
        · rename_i s hs
          have h3 : b.1 = 3 := Nat.eq_of_beq_eq_true hb
          have hc : xc ρ σ b (.ref b.2.2) := by
            obtain ⟨t, e, n⟩ := b
            have h3 : t = 3 := h3
            subst h3
            rfl
          obtain ⟨sc, -, s', hm, r, s2, h4, -, h6⟩ := xgf_ok (df := zm_df) (og := fun _ => none) (i := 0) hH hD (show xsk ρ σ [b] [.ref b.2.2] from ⟨hc, trivial⟩) hs
          have e := List.mem_singleton.mp hm
          subst e
          exact ⟨r, s2, h4, h6⟩
        · exact hid
      · exact hid
    · exact hid
theorem xprel_ok (hH : xHI V.1 V.2.1 τ h) : ∀ {M : xM} {ρ : List Int} {σ : List Nat} {D : xD}, xdok ρ σ τ h D → ∃ r s, xdok (ρ ++ r) (σ ++ s) τ h (xprel V M D) ∧ (xprel V M D).2.2.2.2 = D.2.2.2.2
  | [], ρ, σ, D, hD => ⟨[], [], by rw [List.append_nil, List.append_nil]; exact hD, rfl⟩
  | q :: t, ρ, σ, D, hD => by
    obtain ⟨r, s, h1, h2⟩ := xpre1_ok (b := q.1) (f := q.2.1) hH hD
    obtain ⟨r2, s2, h3, h4⟩ := xprel_ok hH (M := t) h1
    exact ⟨r ++ r2, s ++ s2, by rw [← List.append_assoc, ← List.append_assoc]; exact h3, by rw [show xprel V (q :: t) D = xprel V t (xpre1 V D q.1 q.2.1) from rfl, h4, h2]⟩
end XCN
end
section
/-! Fourteenth part: the run -/
abbrev xFr : Type := Nat × Nat × xLS × List xv
abbrev xS : Type := Nat × Nat × xLS × List xv × xD × List xFr
abbrev xEn : Type := Nat × xT × xl
abbrev xCx : Type := xEnv × List (Nat × zm_M) × List xCo × xCo × List xEn × Option xl
def xmt : List (Nat × zm_M) → Nat → Option zm_M
  | [], _ => none
  | q :: t, k => bif Nat.beq q.1 k then some q.2 else xmt t k
def xretv (ret : Option FieldType) (i : Jvm.ClassFile.Instr) (n : xN) (st : List xv) : Option (Option xv) := match i with
  | .return_ => (match ret, st with
    | none, [] => some none
    | _, _ => none)
  | .ireturn => (match ret, st with
    | some ty, [a] => bif Nat.beq a.1 0 then (match ty with
      | .int => some (some a)
      | .boolean => bif xbt n.1 0 1 a.2.1 then some (some a) else none
      | .byte => bif xbt n.1 (.negSucc 127) (.ofNat 127) a.2.1 then some (some a) else none
      | .char => bif xbt n.1 0 (.ofNat 65535) a.2.1 then some (some a) else none
      | _ => none) else none
    | _, _ => none)
  | .lreturn => (match ret, st with
    | some .long, [a] => bif Nat.beq a.1 1 then some (some a) else none
    | _, _ => none)
  | .areturn => (match ret, st with
    | some (.object _), [a] => bif xir a then some (some a) else none
    | _, _ => none)
  | _ => none
theorem xretv_ok {ρ : List Int} {σ : List Nat} {ret : Option FieldType} {i : Jvm.ClassFile.Instr} {n : xN} {st : List xv} {sc : List Value} {o : Option xv} (hn : xnok ρ n) (hs : xsk ρ σ st sc) (h : xretv ret i n st = some o) : ∃ r, zm_ret ret i sc = some r ∧ xrs ρ σ o r := by
  unfold xretv at h
  split at h
  · split at h
    · cases h
      rw [xsk_nil hs]
      exact ⟨none, rfl, trivial⟩
    · cases h
  · split at h
    · rename_i ty a
      obtain ⟨v, s, rfl, hv, hs'⟩ := xsk_cons hs
      rw [xsk_nil hs']
      cases h1 : Nat.beq a.1 0 with
      | false => rw [h1] at h; cases h
      | true =>
        rw [h1] at h
        simp only [cond_true] at h
        obtain ⟨j, rfl, he⟩ := xc_i hv h1
        split at h
        · cases h
          exact ⟨some (.int j), rfl, hv⟩
        · cases h2 : xbt n.1 0 1 a.2.1 with
          | false => rw [h2] at h; cases h
          | true =>
            rw [h2] at h
            cases h
            obtain ⟨b1, b2⟩ := xbt_ok hn.1 h2 he
            have e : (j == 0 || j == 1) = true := by
              rcases (show j.toInt = 0 ∨ j.toInt = 1 by omega) with e | e
              · have : j = 0 := Int32.toInt_inj.mp e
                subst this; rfl
              · have : j = 1 := Int32.toInt_inj.mp e
                subst this; rfl
            refine ⟨some (.int j), ?_, hv⟩
            show (bif (j == 0 || j == 1) then _ else _) = _
            rw [e]
            rfl
        · cases h2 : xbt n.1 (.negSucc 127) (.ofNat 127) a.2.1 with
          | false => rw [h2] at h; cases h
          | true =>
            rw [h2] at h
            cases h
            obtain ⟨b1, b2⟩ := xbt_ok hn.1 h2 he
            have b1 : -128 ≤ j.toInt := b1
            have b2 : j.toInt ≤ 127 := b2
            have ea : j.toInt8.toInt32 = j := Int32.toInt_inj.mp ((xi2b_ok j).2.2 b1 b2)
            have e : ((j.toInt8.toInt32 == j) && (decide (-128 ≤ j) && decide (j ≤ 127))) = true := by
              simp only [Bool.and_eq_true, beq_iff_eq, decide_eq_true_eq]
              exact ⟨ea, Int32.le_iff_toInt_le.mpr b1, Int32.le_iff_toInt_le.mpr b2⟩
            refine ⟨some (.int j), ?_, hv⟩
            show (bif ((j.toInt8.toInt32 == j) && (decide (-128 ≤ j) && decide (j ≤ 127))) then _ else _) = _
            rw [e]
            rfl
        · cases h2 : xbt n.1 0 (.ofNat 65535) a.2.1 with
          | false => rw [h2] at h; cases h
          | true =>
            rw [h2] at h
            cases h
            obtain ⟨b1, b2⟩ := xbt_ok hn.1 h2 he
            have b1 : 0 ≤ j.toInt := b1
            have b2 : j.toInt ≤ 65535 := b2
            have e : ((j.toUInt32.toUInt16.toUInt32.toInt32 == j) && (decide (0 ≤ j) && decide (j ≤ 65535))) = true := by
              simp only [Bool.and_eq_true, beq_iff_eq, decide_eq_true_eq]
              exact ⟨xch b1 b2, Int32.le_iff_toInt_le.mpr b1, Int32.le_iff_toInt_le.mpr b2⟩
            refine ⟨some (.int j), ?_, hv⟩
            show (bif ((j.toUInt32.toUInt16.toUInt32.toInt32 == j) && (decide (0 ≤ j) && decide (j ≤ 65535))) then _ else _) = _
            rw [e]
            rfl
        · cases h
    · cases h
  · split at h
    · rename_i a
      obtain ⟨v, s, rfl, hv, hs'⟩ := xsk_cons hs
      rw [xsk_nil hs']
      cases h1 : Nat.beq a.1 1 with
      | false => rw [h1] at h; cases h
      | true =>
        rw [h1] at h
        cases h
        obtain ⟨j, rfl, he⟩ := xc_L hv h1
        exact ⟨some (.long j), rfl, hv⟩
    · cases h
  · split at h
    · rename_i cn a
      obtain ⟨v, s, rfl, hv, hs'⟩ := xsk_cons hs
      rw [xsk_nil hs']
      cases h1 : xir a with
      | false => rw [h1] at h; cases h
      | true =>
        rw [h1] at h
        cases h
        rcases xc_r hv h1 with rfl | ⟨b, rfl⟩ | ⟨j, rfl⟩
        · exact ⟨some .null, rfl, hv⟩
        · exact ⟨some (.ref b), rfl, hv⟩
        · exact ⟨some (.retAddr j), rfl, hv⟩
    · cases h
  · cases h
/-! calls -/
def xis (b : xv) : Bool := match b.1 with
  | 5 => (zm_sb b.2.2).isSome
  | 8 => true
  | _ => false
theorem xis_ok {ρ : List Int} {σ : List Nat} {b : xv} {v : Value} (hb : xc ρ σ b v) (h : xis b = true) : ∃ j, v = .retAddr j ∧ (zm_sb j).isSome = true := by
  obtain ⟨t, e, n⟩ := b
  unfold xis at h
  split at h
  · rename_i h2; have h2 : t = 5 := h2; subst h2; exact ⟨n, hb, h⟩
  · rename_i h2; have h2 : t = 8 := h2; subst h2
    obtain ⟨y, j, -, h3, rfl⟩ := hb
    obtain ⟨l, h4, -⟩ := xsl_ok h3
    exact ⟨j, rfl, by rw [h4]; rfl⟩
  · cases h
def xcall (V : xEnv) (i : Jvm.ClassFile.Instr) (x : zm_X) (D : xD) (st : List xv) : Option (Nat × List xv × List xv) := match i with
  | .invokestatic _ => bif Nat.beq x.2.2.1 0 && (Nat.ble x.2.1 st.length && Nat.ble (xcat (st.drop x.2.1)) 8) then some (x.1, (st.take x.2.1).reverse, st.drop x.2.1) else none
  | .invokevirtual _ => (match st.drop x.2.1 with
    | b :: rest => (match xkd V.2.1 D.2.1 b with
      | some kd => (match V.1 kd with
        | some (.inl d) => bif Nat.beq d.1 x.2.2.1 && Nat.ble (xcat rest) 16 then some (x.1, b :: (st.take x.2.1).reverse, rest) else none
        | _ => none)
      | none => bif (Nat.beq x.2.2.1 41 && xis b) && Nat.ble (xcat rest) 8 then some (x.1, b :: (st.take x.2.1).reverse, rest) else none)
    | _ => none)
  | .invokespecial _ => bif Nat.beq x.2.2.1 1 then none else (match st.drop x.2.1 with
    | b :: rest => (match xkd V.2.1 D.2.1 b with
      | some _ => bif Nat.ble (xcat rest) 8 then some (x.1, b :: (st.take x.2.1).reverse, rest) else none
      | none => none)
    | _ => none)
  | _ => none
section XCA
variable {ρ : List Int} {σ τ : List Nat} {h : zm_H} {V : xEnv} {D : xD}
theorem xsk_len : ∀ {st : List xv} {sc : List Value}, xsk ρ σ st sc → st.length = sc.length
  | [], [], _ => rfl
  | [], _ :: _, h => by cases h
  | _ :: _, [], h => by cases h
  | a :: t, v :: s, h => by simp only [List.length_cons, xsk_len h.2]
theorem xsk_drop : ∀ {n : Nat} {st : List xv} {sc : List Value}, xsk ρ σ st sc → xsk ρ σ (st.drop n) (sc.drop n)
  | 0, _, _, h => h
  | n + 1, [], [], _ => trivial
  | n + 1, [], _ :: _, h => by cases h
  | n + 1, _ :: _, [], h => by cases h
  | n + 1, a :: t, v :: s, h => xsk_drop (n := n) h.2
theorem xsk_take : ∀ {n : Nat} {st : List xv} {sc : List Value}, xsk ρ σ st sc → xsk ρ σ (st.take n) (sc.take n)
  | 0, _, _, _ => by simp only [List.take_zero]; trivial
  | n + 1, [], [], _ => trivial
  | n + 1, [], _ :: _, h => by cases h
  | n + 1, _ :: _, [], h => by cases h
  | n + 1, a :: t, v :: s, h => ⟨h.1, xsk_take (n := n) h.2⟩
theorem xsk_app : ∀ {st st2 : List xv} {sc sc2 : List Value}, xsk ρ σ st sc → xsk ρ σ st2 sc2 → xsk ρ σ (st ++ st2) (sc ++ sc2)
  | [], _, [], _, _, h2 => h2
  | [], _, _ :: _, _, h, _ => by cases h
  | _ :: _, _, [], _, h, _ => by cases h
  | a :: t, _, v :: s, _, h, h2 => ⟨h.1, xsk_app h.2 h2⟩
theorem xsk_rev : ∀ {st : List xv} {sc : List Value}, xsk ρ σ st sc → xsk ρ σ st.reverse sc.reverse
  | [], [], _ => trivial
  | [], _ :: _, h => by cases h
  | _ :: _, [], h => by cases h
  | a :: t, v :: s, h => by
    rw [List.reverse_cons, List.reverse_cons]
    exact xsk_app (xsk_rev h.2) ⟨h.1, trivial⟩
theorem xcall_ok {i : Jvm.ClassFile.Instr} {x : zm_X} {st : List xv} {sc : List Value} {q : Nat × List xv × List xv} (hH : xHI V.1 V.2.1 τ h) (hD : xdok ρ σ τ h D) (hs : xsk ρ σ st sc) (hx : xcall V i x D st = some q) : ∃ ac rc, zm_call i x sc h = some (q.1, ac, rc) ∧ xsk ρ σ q.2.1 ac ∧ xsk ρ σ q.2.2 rc := by
  cases i with
  | invokestatic k =>
    simp only [xcall] at hx
    cases hc : Nat.beq x.2.2.1 0 && (Nat.ble x.2.1 st.length && Nat.ble (xcat (st.drop x.2.1)) 8) with
    | false => rw [hc] at hx; cases hx
    | true =>
      rw [hc] at hx
      cases hx
      have hd := xsk_drop (n := x.2.1) hs
      rw [← xcat_ok hd, xsk_len hs] at hc
      refine ⟨_, _, ?_, xsk_rev (xsk_take hs), hd⟩
      simp only [zm_call, hc, cond_true]
  | invokevirtual k =>
    simp only [xcall] at hx
    have hd := xsk_drop (n := x.2.1) hs
    split at hx
    · rename_i b rest hdr
      rw [hdr] at hd
      obtain ⟨v, rc, hrc, hb, hr⟩ := xsk_cons hd
      split at hx
      · rename_i kd hkd
        obtain ⟨ad, rfl, had, ht⟩ := xkd_ok hH hD.2.1 hb hkd
        split at hx
        · rename_i d hK
          obtain ⟨fs, hh, -, -⟩ := xcf_o hH ht hK
          cases hc : Nat.beq d.1 x.2.2.1 && Nat.ble (xcat rest) 16 with
          | false => rw [hc] at hx; cases hx
          | true =>
            rw [hc] at hx
            cases hx
            rw [← xcat_ok hr] at hc
            refine ⟨.ref ad :: (sc.take x.2.1).reverse, rc, ?_, ⟨hb, xsk_rev (xsk_take hs)⟩, hr⟩
            simp only [zm_call, hrc, hh, hc, cond_true]
        · cases hx
      · cases hc : (Nat.beq x.2.2.1 41 && xis b) && Nat.ble (xcat rest) 8 with
        | false => rw [hc] at hx; cases hx
        | true =>
          rw [hc] at hx
          cases hx
          simp only [Bool.and_eq_true] at hc
          obtain ⟨j, rfl, hj⟩ := xis_ok hb hc.1.2
          have h8 := hc.2
          rw [← xcat_ok hr] at h8
          refine ⟨.retAddr j :: (sc.take x.2.1).reverse, rc, ?_, ⟨hb, xsk_rev (xsk_take hs)⟩, hr⟩
          simp only [zm_call, hrc, hc.1.1, hj, h8, Bool.and_self, cond_true]
    · cases hx
  | invokespecial k =>
    simp only [xcall] at hx
    have hd := xsk_drop (n := x.2.1) hs
    cases h1 : Nat.beq x.2.2.1 1 with
    | true => rw [h1] at hx; cases hx
    | false =>
      rw [h1] at hx
      simp only [cond_false] at hx
      split at hx
      · rename_i b rest hdr
        rw [hdr] at hd
        obtain ⟨v, rc, hrc, hb, hr⟩ := xsk_cons hd
        split at hx
        · rename_i kd hkd
          obtain ⟨ad, rfl, had, ht⟩ := xkd_ok hH hD.2.1 hb hkd
          cases hc : Nat.ble (xcat rest) 8 with
          | false => rw [hc] at hx; cases hx
          | true =>
            rw [hc] at hx
            cases hx
            rw [← xcat_ok hr] at hc
            refine ⟨.ref ad :: (sc.take x.2.1).reverse, rc, ?_, ⟨hb, xsk_rev (xsk_take hs)⟩, hr⟩
            simp only [zm_call, h1, hrc, hc, cond_true, cond_false]
        · cases hx
      · cases hx
  | _ => cases hx
def xargs : Nat → List xv → xLS
  | _, [] => []
  | k, a :: t => (k, a) :: xargs (bif xw2 a then k + 2 else k + 1) t
theorem xargs_ok : ∀ {A : List xv} {C : List Value} {k : Nat}, xsk ρ σ A C → ∀ q ∈ xargs k A, k ≤ q.1 ∧ ∃ v, zm_get (lv_args k C) q.1 = some v ∧ xc ρ σ q.2 v
  | [], [], k, _, q, hq => by cases hq
  | [], _ :: _, _, h, _, _ => by cases h
  | _ :: _, [], _, h, _, _ => by cases h
  | a :: t, v :: s, k, h, q, hq => by
    have hcat := xc_cat h.1
    have e : (if v.category = 2 then k + 2 else k + 1) = bif xw2 a then k + 2 else k + 1 := by
      rw [hcat]
      cases xw2 a <;> rfl
    rcases List.mem_cons.mp hq with rfl | hq
    · refine ⟨Nat.le_refl _, v, ?_, h.1⟩
      show zm_get ((k, v) :: _) k = some v
      rw [zm_get_cons, if_pos rfl]
    · obtain ⟨h1, w, h2, h3⟩ := xargs_ok h.2 q hq
      have hk : k + 1 ≤ q.1 := by
        cases hw : xw2 a with
        | true => rw [hw] at h1; simp only [cond_true] at h1; omega
        | false => rw [hw] at h1; simp only [cond_false] at h1; exact h1
      refine ⟨by omega, w, ?_, h3⟩
      show zm_get ((k, v) :: lv_args (if v.category = 2 then k + 2 else k + 1) s) q.1 = some w
      rw [zm_get_cons, if_neg (by show ¬ k = q.1; omega), e]
      exact h2
theorem xargs_lk {A : List xv} {C : List Value} (h : xsk ρ σ A C) : xlk ρ σ (xargs 0 A) (lv_args 0 C) := fun q hq => (xargs_ok h q hq).2
end XCA
/-! one step -/
def xidn : Nat → xTh
  | 0 => []
  | k + 1 => (k, xsym k) :: xidn k
def xidr : Nat → xPh
  | 0 => []
  | k + 1 => (k, k) :: xidr k
def xido (θ : xTh) : Nat → Bool
  | 0 => true
  | k + 1 => (match xlu θ k with
    | some e => xeq e (xsym k)
    | none => false) && xido θ k
def xidp (φ : xPh) : Nat → Bool
  | 0 => true
  | k + 1 => (match xlr φ k with
    | some m => Nat.beq m k
    | none => false) && xidp φ k
def xsubm (a : List (Nat × Nat)) (b : List (Nat × Nat)) : Bool := a.all (fun q => xms b q.1 q.2)
/-- the end of the method: one of the contract's ends -/
def xfin1 (K : xCx) (o : Option xv) (D : xD) (p : xPo) : Bool :=
  let np := K.2.2.2.1.2.1.2.2.1.2
  let nrp := K.2.2.2.1.2.1.2.2.2.1.length
  let D1 := xprel K.1 p.2.2.2.1 D
  let T : xT := ([], p.1.toList, p.2)
  let q := xbind (xidn np, xidr nrp) [] o.toList D1 T
  xinst q.1 q.2 [] o.toList D1 T && (xido q.1 np && xidp q.2 nrp)
def xfin (K : xCx) (o : Option xv) (D : xD) : Bool := Nat.ble D.2.2.2.2 K.2.2.2.1.2.2.2.2.1 && K.2.2.2.1.2.2.1.any (xfin1 K o D)
/-- a state at a loop's head that is an instance of a template, and goes down -/
def xent1 (K : xCx) (s : xS) (E : xEn) : Bool :=
  let np := K.2.2.2.1.2.1.2.2.1.2
  let nrp := K.2.2.2.1.2.1.2.2.2.1.length
  bif Nat.beq E.1 s.2.1 then (let D1 := xprel K.1 E.2.1.2.2.2.2.1 s.2.2.2.2.1
    let q := xbind (xidn np, xidr nrp) s.2.2.1 s.2.2.2.1 D1 E.2.1
    xinst q.1 q.2 s.2.2.1 s.2.2.2.1 D1 E.2.1 && ((xido q.1 np && xidp q.2 nrp) && (Nat.ble s.2.2.2.2.1.2.2.2.2 E.2.1.2.2.2.2.2.2 && (match xsub q.1 E.2.2 with
      | some e => xpv D1.1.1.1 D1.1.1.2 8 e && (match K.2.2.2.2.2 with
        | some R => xpv D1.1.1.1 D1.1.1.2 8 (xm1 (xadd (.negSucc 0) R e))
        | none => true)
      | none => false)))) else false
def xent (K : xCx) (s : xS) : Bool := match s.2.2.2.2.2 with
  | [] => Nat.beq s.1 K.2.2.2.1.1 && K.2.2.2.2.1.any (xent1 K s)
  | _ => false
/-- the call by a contract -/
def xby (K : xCx) (s : xS) (q : Nat) (args rest : List xv) : List xCo → Option (Option (List xS))
  | [] => none
  | c :: t => bif Nat.beq c.1 q then (let D1 := xprel K.1 c.2.1.2.2.2.2.1 s.2.2.2.2.1
      let b := xbind ([], []) (xargs 0 args) [] D1 c.2.1
      bif xinst b.1 b.2 (xargs 0 args) [] D1 (c.2.1.1, [], c.2.1.2.2) && (Nat.ble (c.2.2.2.2.2 + 1 + s.2.2.2.2.2.length) K.2.2.2.1.2.2.2.2.2 && xsubm c.2.2.2.1 K.2.2.2.1.2.2.2.1) then some (match xposts K.1 c b.1 b.2 D1 c.2.2.1 with
        | some l => some (l.map (fun z => (s.1, s.2.1 + 3, s.2.2.1, z.2.toList ++ rest, z.1, s.2.2.2.2.2)))
        | none => none) else xby K s q args rest t) else xby K s q args rest t
def xgo (K : xCx) (s : xS) (q : Nat) (args rest : List xv) : Option (List xS) := match xmt K.2.1 q with
  | none => none
  | some mc => bif Nat.ble (xcat args) mc.1.2.2.1 then (match xby K s q args rest K.2.2.1 with
    | some o => o
    | none => bif Nat.blt s.2.2.2.2.2.length K.2.2.2.1.2.2.2.2.2 then some [(q, 0, xargs 0 args, [], s.2.2.2.2.1, (s.1, s.2.1 + 3, s.2.2.1, rest) :: s.2.2.2.2.2)] else none) else none
def xstep (K : xCx) (s : xS) : Option (List xS) := match xmt K.2.1 s.1 with
  | none => none
  | some mr => match zm_at mr.2 s.2.1 with
    | none => none
    | some i => match xp i.1 i.2.2 s.2.2.2.2.1.1 s.2.2.1 s.2.2.2.1 with
      | some q => some [(s.1, s.2.1 + i.2.1, q.2.1, q.2.2, (q.1, s.2.2.2.2.1.2), s.2.2.2.2.2)]
      | none => match xb i.1 i.2.2 s.2.1 s.2.2.2.2.1.1 s.2.2.2.1 with
        | some l => some (l.map (fun b => (s.1, b.2.1, s.2.2.1, b.2.2, (b.1, s.2.2.2.2.1.2), s.2.2.2.2.2)))
        | none => match xh K.1 (xms K.2.2.2.1.2.2.2.1) s.1 s.2.1 i.1 i.2.2 s.2.2.2.2.1 s.2.2.2.1 with
          | some l => some (l.map (fun z => (s.1, s.2.1 + i.2.1, s.2.2.1, z.2, z.1, s.2.2.2.2.2)))
          | none => match xretv mr.1.2.2.2 i.1 s.2.2.2.2.1.1.1 s.2.2.2.1 with
            | some o => (match s.2.2.2.2.2 with
              | [] => bif xfin K o s.2.2.2.2.1 then some [] else none
              | f :: fr => some [(f.1, f.2.1, f.2.2.1, o.toList ++ f.2.2.2, s.2.2.2.2.1, fr)])
            | none => match xcall K.1 i.1 i.2.2 s.2.2.2.2.1 s.2.2.2.1 with
              | none => none
              | some q => xgo K s q.1 q.2.1 q.2.2
def xpsh (K : xCx) : List xS → List xS → List xS
  | [], r => r
  | t :: l, r => bif xent K t then xpsh K l r else t :: xpsh K l r
def xwl (K : xCx) : Nat → List xS → Bool
  | 0, _ => false
  | _ + 1, [] => true
  | n + 1, s :: r => match xstep K s with
    | none => false
    | some l => xwl K n (xpsh K l r)
def xst0 (c : xCo) : xS := (c.1, 0, c.2.1.1, [], (c.2.1.2.2.1, c.2.1.2.2.2.1, c.2.1.2.2.2.2.1, c.2.1.2.2.2.2.2.1, 0), [])
def xst1 (c : xCo) (E : xEn) : xS := (c.1, E.1, E.2.1.1, E.2.1.2.1, E.2.1.2.2, [])
def xchk0 (V : xEnv) (MT : List (Nat × zm_M)) (CT : List xCo) (c : xCo) (E : List xEn) (n : Nat) : Bool := xwl (V, MT, CT, c, E, none) n [xst0 c]
def xchk1 (V : xEnv) (MT : List (Nat × zm_M)) (CT : List xCo) (c : xCo) (E : List xEn) (n : Nat) (e : xEn) : Bool := xwl (V, MT, CT, c, E, some e.2.2) n [xst1 c e]
end
section
/-! Fifteenth part: what the run says is so -/
def xQ (og : Nat → Option zm_C) : Nat → List (Nat × Nat × zm_L × List Value) → (Option Value → zm_H → Prop) → Option Value → zm_H → Prop
  | _, [], Q => Q
  | d, f :: fr, Q => fun r h => zm_Y og (d + 1) f.1 f.2.1 f.2.2.1 (r.toList ++ f.2.2.2) h (xQ og (d + 1) fr Q)
def xfok (ρ : List Int) (σ : List Nat) : List xFr → List (Nat × Nat × zm_L × List Value) → Prop
  | [], [] => True
  | f :: t, g :: u => (g.1 = f.1 ∧ g.2.1 = f.2.1 ∧ xlk ρ σ f.2.2.1 g.2.2.1 ∧ xsk ρ σ f.2.2.2 g.2.2.2) ∧ xfok ρ σ t u
  | _, _ => False
theorem xfok_mono {ρ r : List Int} {σ s : List Nat} : ∀ {f : List xFr} {g : List (Nat × Nat × zm_L × List Value)}, xfok ρ σ f g → xfok (ρ ++ r) (σ ++ s) f g
  | [], [], _ => trivial
  | [], _ :: _, h => by cases h
  | _ :: _, [], h => by cases h
  | _ :: _, _ :: _, h => ⟨⟨h.1.1, h.1.2.1, xlk_mono h.1.2.2.1, xsk_mono h.1.2.2.2⟩, xfok_mono h.2⟩
theorem xfok_len {ρ : List Int} {σ : List Nat} : ∀ {f : List xFr} {g : List (Nat × Nat × zm_L × List Value)}, xfok ρ σ f g → f.length = g.length
  | [], [], _ => rfl
  | [], _ :: _, h => by cases h
  | _ :: _, [], h => by cases h
  | _ :: _, _ :: _, h => by simp only [List.length_cons, xfok_len h.2]
/-- from every state that s stands for the machine comes to the end Q -/
def xgd (V : xEnv) (X : List Nat → zm_H → Prop) (W : zm_H → Nat) (og : Nat → Option zm_C) (c : xCo) (ρb : List Int) (σb τ0 : List Nat) (h0 : zm_H) (Q : Option Value → zm_H → Prop) (s : xS) : Prop := ∀ (ρ : List Int) (σ τ : List Nat) (h : zm_H) (lc : zm_L) (sc : List Value) (frc : List (Nat × Nat × zm_L × List Value)) (d : Nat), d + frc.length = c.2.2.2.2.2 → xHI V.1 V.2.1 τ h → X τ h → xF (xms c.2.2.2.1) τ0 h0 τ h → W h ≤ W h0 + s.2.2.2.2.1.2.2.2.2 → xdok (ρb ++ ρ) (σb ++ σ) τ h s.2.2.2.2.1 → xlk (ρb ++ ρ) (σb ++ σ) s.2.2.1 lc → xsk (ρb ++ ρ) (σb ++ σ) s.2.2.2.1 sc → xfok (ρb ++ ρ) (σb ++ σ) s.2.2.2.2.2 frc → zm_Y og d s.1 s.2.1 lc sc h (xQ og d frc Q)
theorem xmt_mem : ∀ {MT : List (Nat × zm_M)} {k : Nat} {m : zm_M}, xmt MT k = some m → (k, m) ∈ MT
  | [], k, m, h => by cases h
  | q :: r, k, m, h => by
    simp only [xmt] at h
    cases h1 : Nat.beq q.1 k with
    | true =>
      rw [h1] at h
      cases h
      have e := Nat.eq_of_beq_eq_true h1
      rw [← e]
      exact List.mem_cons_self
    | false =>
      rw [h1] at h
      exact List.mem_cons_of_mem _ (xmt_mem h)
theorem xido_ok {θ : xTh} : ∀ {n k : Nat}, xido θ n = true → k < n → xlu θ k = some (xsym k)
  | 0, k, _, hk => by omega
  | n + 1, k, h, hk => by
    simp only [xido, Bool.and_eq_true] at h
    by_cases e : k = n
    · subst e
      have h1 := h.1
      split at h1
      · rename_i t ht
        rw [ht, of_decide_eq_true h1]
      · cases h1
    · exact xido_ok h.2 (by omega)
theorem xidp_ok {φ : xPh} : ∀ {n k : Nat}, xidp φ n = true → k < n → xlr φ k = some k
  | 0, k, _, hk => by omega
  | n + 1, k, h, hk => by
    simp only [xidp, Bool.and_eq_true] at h
    by_cases e : k = n
    · subst e
      have h1 := h.1
      split at h1
      · rename_i t ht
        rw [ht, Nat.eq_of_beq_eq_true h1]
      · cases h1
    · exact xidp_ok h.2 (by omega)
/-- the bindings leave the first symbols as they are -/
theorem xpfx {ρ0 ρ1 ρc : List Int} {σ0 σ1 σc : List Nat} {θ : xTh} {φ : xPh} (hb : xbok (ρ0 ++ ρ1) (σ0 ++ σ1) θ φ ρc σc) (h1 : xido θ ρ0.length = true) (h2 : xidp φ σ0.length = true) : (∃ r, ρc = ρ0 ++ r) ∧ ∃ s, σc = σ0 ++ s := by
  constructor
  · refine ⟨ρc.drop ρ0.length, ?_⟩
    apply List.ext_getElem?
    intro k
    by_cases hk : k < ρ0.length
    · rw [List.getElem?_append_left hk]
      obtain ⟨x, a, b⟩ := hb.1 k _ (xido_ok h1 hk)
      rw [a]
      have hg : (ρ0 ++ ρ1)[k]? = some ρ0[k] := by rw [List.getElem?_append_left hk]; exact List.getElem?_eq_getElem hk
      rw [xe_sym hg] at b
      cases b
      exact (List.getElem?_eq_getElem hk).symm
    · rw [List.getElem?_append_right (by omega), List.getElem?_drop]
      congr 1
      omega
  · refine ⟨σc.drop σ0.length, ?_⟩
    apply List.ext_getElem?
    intro k
    by_cases hk : k < σ0.length
    · rw [List.getElem?_append_left hk]
      obtain ⟨x, a, b⟩ := hb.2 k _ (xidp_ok h2 hk)
      rw [a]
      rw [List.getElem?_append_left hk] at b
      exact b.symm
    · rw [List.getElem?_append_right (by omega), List.getElem?_drop]
      congr 1
      omega
theorem xrs_sk {ρ : List Int} {σ : List Nat} {o : Option xv} {r : Option Value} (h : xrs ρ σ o r) : xsk ρ σ o.toList r.toList := by
  cases o with
  | none =>
    cases r with
    | none => trivial
    | some v => cases h
  | some a =>
    cases r with
    | none => cases h
    | some v => exact ⟨h, trivial⟩
section XSO
variable {V : xEnv} {X : List Nat → zm_H → Prop} {W : zm_H → Nat} {og : Nat → Option zm_C} {MT : List (Nat × zm_M)} {CT : List xCo} {c : xCo} {E : List xEn} {R : Option xl} {ρ0 ρb : List Int} {σ0 σb τ0 : List Nat} {h0 : zm_H}
theorem xms_sub {a b : List (Nat × Nat)} (h : xsubm a b = true) (k f : Nat) (hk : xms a k f = true) : xms b k f = true := by
  unfold xms at hk
  obtain ⟨q, h1, h2⟩ := List.any_eq_true.mp hk
  simp only [Bool.and_eq_true] at h2
  have h3 := List.all_eq_true.mp h q h1
  rw [Nat.eq_of_beq_eq_true h2.1, Nat.eq_of_beq_eq_true h2.2] at h3
  exact h3
theorem xbif {α : Type} {b : Bool} {x y z : α} (h : (bif b then x else y) = z) : b = true ∧ x = z ∨ b = false ∧ y = z := by
  cases b with
  | true => exact Or.inl ⟨rfl, h⟩
  | false => exact Or.inr ⟨rfl, h⟩
/-- a call by a contract -/
theorem xby_ok {s : xS} {q : Nat} {args rest : List xv} {i : Jvm.ClassFile.Instr × Nat × zm_X} {mr mc : zm_M} {Q : Option Value → zm_H → Prop} {ρ : List Int} {σ τ : List Nat} {h : zm_H} {lc : zm_L} {sc ac rc : List Value} {frc : List (Nat × Nat × zm_L × List Value)} {d : Nat} (hP : zm_P s.1 = some mr) (hat : zm_at mr.2 s.2.1 = some i) (hmc : zm_P q = some mc) (hcat : Nat.ble (zm_cat ac) mc.1.2.2.1 = true) (hca : zm_call i.1 i.2.2 sc h = some (q, ac, rc)) (hd : d + frc.length = c.2.2.2.2.2) (hH : xHI V.1 V.2.1 τ h) (hX : X τ h) (hF : xF (xms c.2.2.2.1) τ0 h0 τ h) (hW : W h ≤ W h0 + s.2.2.2.2.1.2.2.2.2) (hD : xdok (ρb ++ ρ) (σb ++ σ) τ h s.2.2.2.2.1) (hl : xlk (ρb ++ ρ) (σb ++ σ) s.2.2.1 lc) (ha : xsk (ρb ++ ρ) (σb ++ σ) args ac) (hr : xsk (ρb ++ ρ) (σb ++ σ) rest rc) (hf : xfok (ρb ++ ρ) (σb ++ σ) s.2.2.2.2.2 frc) : ∀ {CT : List xCo}, (∀ c' ∈ CT, xV V X W og c') → ∀ {o : Option (List xS)} {l : List xS}, xby (V, MT, CT, c, E, R) s q args rest CT = some o → o = some l → (∀ t ∈ l, xgd V X W og c ρb σb τ0 h0 Q t) → zm_Y og d s.1 s.2.1 lc sc h (xQ og d frc Q) := by
  intro CT
  have main : ∀ {L : List xCo}, (∀ c' ∈ L, xV V X W og c') → ∀ {o : Option (List xS)} {l : List xS}, xby (V, MT, CT, c, E, R) s q args rest L = some o → o = some l → (∀ t ∈ l, xgd V X W og c ρb σb τ0 h0 Q t) → zm_Y og d s.1 s.2.1 lc sc h (xQ og d frc Q) := by
    intro L
    induction L with
    | nil => intro hV o l hx; cases hx
    | cons c' t ih =>
      intro hV o l hx ho hG
      simp only [xby] at hx
      cases h1 : Nat.beq c'.1 q with
      | false => rw [h1] at hx; exact ih (fun z hz => hV z (List.mem_cons_of_mem _ hz)) hx ho hG
      | true =>
        rw [h1] at hx
        simp only [cond_true] at hx
        have e1 : c'.1 = q := Nat.eq_of_beq_eq_true h1
        rcases xbif hx with ⟨h2, hx⟩ | ⟨-, hx⟩
        · simp only [Bool.and_eq_true] at h2
          obtain ⟨hin, hdp, hms⟩ := h2
          cases hx
          split at ho
          · rename_i l0 hl0
            cases ho
            obtain ⟨r1, s1, hD1, hg1⟩ := xprel_ok hH (M := c'.2.1.2.2.2.2.1) hD
            obtain ⟨ρc, σc, hb, hDc, hlc, -⟩ := xinst_ok hD1 (xargs_lk (xsk_mono (r := r1) (s := s1) ha)) (show xsk _ _ [] [] from trivial) hin
            have hdp := Nat.le_of_ble_eq_true hdp
            have hfl := xfok_len hf
            have hdp : c'.2.2.2.2.2 + 1 + s.2.2.2.2.2.length ≤ c.2.2.2.2.2 := hdp
            have hv := hV c' List.mem_cons_self ρc σc τ h (lv_args 0 ac) hH hX hDc hlc
            obtain ⟨d', rfl⟩ : ∃ d', d = d' + 1 := ⟨d - 1, by omega⟩
            refine zy_c hP hat hca hmc hcat ?_
            rw [← e1]
            refine (hv.deep (show c'.2.2.2.2.2 ≤ d' by omega)).mono (fun r h' hq => ?_)
            obtain ⟨τ', hH', hX', hF', hW', p, hp, r', s', hDp, hrs⟩ := hq
            obtain ⟨z, hz, hDz, hrz, hgz⟩ := xposts_ok hH hD1 hb hDc.1.2.symm hDc.2.1.1 hF' hDp hrs hp hl0
            have := hG _ (List.mem_map.mpr ⟨z, hz, rfl⟩)
            have eρ : ∀ a : List Int, ρb ++ ρ ++ r1 ++ a = ρb ++ (ρ ++ r1 ++ a) := fun a => by simp only [List.append_assoc]
            have eσ : ∀ a : List Nat, σb ++ σ ++ s1 ++ a = σb ++ (σ ++ s1 ++ a) := fun a => by simp only [List.append_assoc]
            rw [eρ, eσ] at hDz hrz
            refine this (ρ ++ r1 ++ r') (σ ++ s1 ++ s') τ' h' lc (r.toList ++ rc) frc (d' + 1) hd hH' hX' (xF_trans hF (xF_weak hF' (xms_sub hms))) ?_ hDz ?_ ?_ ?_
            · show W h' ≤ W h0 + z.1.2.2.2.2
              rw [hgz, hg1]
              omega
            · rw [← eρ, ← eσ]; exact xlk_mono (xlk_mono hl)
            · refine xsk_app ?_ (by rw [← eρ, ← eσ]; exact xsk_mono (xsk_mono hr))
              exact xrs_sk hrz
            · rw [← eρ, ← eσ]; exact xfok_mono (xfok_mono hf)
          · cases ho
        · exact ih (fun z hz => hV z (List.mem_cons_of_mem _ hz)) hx ho hG
  intro hV o l hx ho hG
  exact main hV hx ho hG
end XSO
end
section
/-! One step, and the whole run -/
section XSP
variable {V : xEnv} {X : List Nat → zm_H → Prop} {W : zm_H → Nat} {og : Nat → Option zm_C} {MT : List (Nat × zm_M)} {CT : List xCo} {c : xCo} {E : List xEn} {R : Option xl} {ρ0 r0 : List Int} {σ0 s0 τ0 : List Nat} {h0 : zm_H}
theorem xfin_ok {o : Option xv} {D : xD} {ρ : List Int} {σ τ : List Nat} {h : zm_H} {r : Option Value} (hρ : ρ0.length = c.2.1.2.2.1.2) (hσ : σ0.length = c.2.1.2.2.2.1.length) (hH : xHI V.1 V.2.1 τ h) (hX : X τ h) (hF : xF (xms c.2.2.2.1) τ0 h0 τ h) (hW : W h ≤ W h0 + D.2.2.2.2) (hD : xdok (ρ0 ++ ρ) (σ0 ++ σ) τ h D) (hr : xrs (ρ0 ++ ρ) (σ0 ++ σ) o r) (hx : xfin (V, MT, CT, c, E, R) o D = true) : xQc V X W c ρ0 σ0 τ0 h0 r h := by
  unfold xfin at hx
  obtain ⟨h1, h2⟩ := Bool.and_eq_true_iff.mp hx
  have h1 := Nat.le_of_ble_eq_true h1
  have h1 : D.2.2.2.2 ≤ c.2.2.2.2.1 := h1
  obtain ⟨p, hp, hp1⟩ := List.any_eq_true.mp h2
  unfold xfin1 at hp1
  obtain ⟨h3, h4⟩ := Bool.and_eq_true_iff.mp hp1
  obtain ⟨h5, h6⟩ := Bool.and_eq_true_iff.mp h4
  obtain ⟨r1, s1, hD1, hg1⟩ := xprel_ok hH (M := p.2.2.2.1) hD
  obtain ⟨ρc, σc, hb, hDc, -, hsc⟩ := xinst_ok hD1 (show xlk _ _ [] [] from fun q hq => by cases hq) (xsk_mono (r := r1) (s := s1) (xrs_sk hr)) h3
  rw [List.append_assoc, List.append_assoc] at hb
  obtain ⟨⟨ra, rfl⟩, ⟨sa, rfl⟩⟩ := xpfx hb (by rw [hρ]; exact h5) (by rw [hσ]; exact h6)
  refine ⟨τ, hH, hX, hF, by omega, p, hp, ra, sa, hDc, ?_⟩
  have hsc : xsk (ρ0 ++ ra) (σ0 ++ sa) p.1.toList r.toList := hsc
  cases hp2 : p.1 with
  | none =>
    rw [hp2] at hsc
    cases r with
    | none => trivial
    | some v => cases hsc
  | some a =>
    rw [hp2] at hsc
    cases r with
    | none => cases hsc
    | some v => exact hsc.1
theorem xstep_ok {s : xS} {l : List xS} (hMT : ∀ q ∈ MT, zm_P q.1 = some q.2) (hCT : ∀ c' ∈ CT, xV V X W og c') (hFl : xFl_ok V X) (hX2 : xXW V X W) (hρ : ρ0.length = c.2.1.2.2.1.2) (hσ : σ0.length = c.2.1.2.2.2.1.length) (hx : xstep (V, MT, CT, c, E, R) s = some l) (hG : ∀ t ∈ l, xgd V X W og c (ρ0 ++ r0) (σ0 ++ s0) τ0 h0 (xQc V X W c ρ0 σ0 τ0 h0) t) : xgd V X W og c (ρ0 ++ r0) (σ0 ++ s0) τ0 h0 (xQc V X W c ρ0 σ0 τ0 h0) s := by
  intro ρ σ τ h lc sc frc d hd hH hX hF hW hD hl hs hf
  unfold xstep at hx
  split at hx
  · cases hx
  · rename_i mr hmr
    have hP : zm_P s.1 = some mr := hMT _ (xmt_mem hmr)
    split at hx
    · cases hx
    · rename_i i hat
      split at hx
      · rename_i q hq
        cases hx
        obtain ⟨r, lc', sc', h1, h2, h3, h4⟩ := xp_ok hD.1 hl hs hq
        refine zy_p hP hat h1 ?_
        have eσ : σ0 ++ s0 ++ σ ++ [] = σ0 ++ s0 ++ σ := List.append_nil _
        refine hG _ (List.mem_singleton.mpr rfl) (ρ ++ r) σ τ h lc' sc' frc d hd hH hX hF hW ?_ ?_ ?_ ?_
        · rw [← List.append_assoc]
          refine ⟨h2, hD.2.1, ?_, ?_⟩
          · have := xmo_mono (r := r) (s := []) hD.2.2.1
            rwa [eσ] at this
          · have := xmao_mono (r := r) (s := []) hD.2.2.2
            rwa [eσ] at this
        · rw [← List.append_assoc]; exact h3
        · rw [← List.append_assoc]; exact h4
        · rw [← List.append_assoc]
          have := xfok_mono (r := r) (s := []) hf
          rwa [eσ] at this
      · split at hx
        · rename_i l0 hb
          cases hx
          obtain ⟨pc', sc', h1, b, hbm, h2, h3, h4⟩ := xb_ok hD.1 hs hb
          refine zy_b hP hat h1 ?_
          have := hG _ (List.mem_map.mpr ⟨b, hbm, rfl⟩) ρ σ τ h lc sc' frc d hd hH hX hF hW ⟨h3, hD.2⟩ hl h4 hf
          rw [← h2]
          exact this
        · split at hx
          · rename_i l0 hh
            cases hx
            obtain ⟨sc', h', τ', h1, hH', hX', hF', z, hz, r, s', hDz, hsz, hWz⟩ := xh_ok (df := zm_df) (og := og) hFl hX2 hH hX hD hs hh
            refine zy_h hP hat h1 ?_
            refine hG _ (List.mem_map.mpr ⟨z, hz, rfl⟩) (ρ ++ r) (σ ++ s') τ' h' lc sc' frc d hd hH' hX' (xF_trans hF hF') ?_ ?_ ?_ ?_ ?_
            · show W h' ≤ W h0 + z.1.2.2.2.2
              omega
            · rw [← List.append_assoc, ← List.append_assoc]; exact hDz
            · rw [← List.append_assoc, ← List.append_assoc]; exact xlk_mono hl
            · rw [← List.append_assoc, ← List.append_assoc]; exact hsz
            · rw [← List.append_assoc, ← List.append_assoc]; exact xfok_mono hf
          · split at hx
            · rename_i o ho
              obtain ⟨r, h1, h2⟩ := xretv_ok hD.1.1 hs ho
              refine zy_r hP hat h1 ?_
              split at hx
              · rename_i hfr
                rw [hfr] at hf
                cases frc with
                | cons g u => cases hf
                | nil =>
                  show xQc V X W c ρ0 σ0 τ0 h0 r h
                  cases hfi : xfin (V, MT, CT, c, E, R) o s.2.2.2.2.1 with
                  | false => rw [hfi] at hx; cases hx
                  | true =>
                    rw [List.append_assoc, List.append_assoc] at hD h2
                    exact xfin_ok hρ hσ hH hX hF hW hD h2 hfi
              · rename_i f fr hfr
                cases hx
                rw [hfr] at hf
                cases frc with
                | nil => cases hf
                | cons g u =>
                  obtain ⟨⟨e1, e2, e3, e4⟩, e5⟩ := hf
                  show zm_Y og (d + 1) g.1 g.2.1 g.2.2.1 (r.toList ++ g.2.2.2) h (xQ og (d + 1) u _)
                  have := hG _ (List.mem_singleton.mpr rfl) ρ σ τ h g.2.2.1 (r.toList ++ g.2.2.2) u (d + 1) (by rw [List.length_cons] at hd; omega) hH hX hF hW hD e3 (xsk_app (xrs_sk h2) e4) e5
                  rw [e1, e2]
                  exact this
            · split at hx
              · cases hx
              · rename_i q hq
                obtain ⟨ac, rc, h1, h2, h3⟩ := xcall_ok hH hD hs hq
                unfold xgo at hx
                split at hx
                · cases hx
                · rename_i mc hmc
                  have hPc : zm_P q.1 = some mc := hMT _ (xmt_mem hmc)
                  rcases xbif hx with ⟨h4, hx⟩ | ⟨-, hx⟩
                  · have hcat : Nat.ble (zm_cat ac) mc.1.2.2.1 = true := by rw [xcat_ok h2]; exact h4
                    split at hx
                    · rename_i o ho
                      exact xby_ok hP hat hPc hcat h1 hd hH hX hF hW hD hl h2 h3 hf hCT ho hx hG
                    · rcases xbif hx with ⟨h5, hx⟩ | ⟨-, hx⟩
                      · cases hx
                        have h5 : s.2.2.2.2.2.length < c.2.2.2.2.2 := by
                          have := (Nat.blt_eq).mp h5
                          exact this
                        have hfl := xfok_len hf
                        obtain ⟨d', rfl⟩ : ∃ d', d = d' + 1 := ⟨d - 1, by omega⟩
                        refine zy_c hP hat h1 hPc hcat ?_
                        exact hG _ (List.mem_singleton.mpr rfl) ρ σ τ h (lv_args 0 ac) [] ((s.1, s.2.1 + 3, lc, rc) :: frc) d' (by rw [List.length_cons]; omega) hH hX hF hW hD (xargs_lk h2) trivial ⟨⟨rfl, rfl, hl, h3⟩, hf⟩
                      · cases hx
                  · cases hx
/-- an entry: what is known of it for lower ranks is enough -/
theorem xent_ok {s : xS} (hρ : ρ0.length = c.2.1.2.2.1.2) (hσ : σ0.length = c.2.1.2.2.2.1.length) (hI : ∀ e ∈ E, ∀ (r : List Int) (s' τ : List Nat) (h : zm_H) (lc : zm_L) (sc : List Value) (n : Nat), xe (ρ0 ++ r) e.2.2 = some (n : Int) → (∀ Rl z, R = some Rl → xe (ρ0 ++ r0) Rl = some z → (n : Int) < z) → xHI V.1 V.2.1 τ h → X τ h → xF (xms c.2.2.2.1) τ0 h0 τ h → W h ≤ W h0 + e.2.1.2.2.2.2.2.2 → xdok (ρ0 ++ r) (σ0 ++ s') τ h e.2.1.2.2 → xlk (ρ0 ++ r) (σ0 ++ s') e.2.1.1 lc → xsk (ρ0 ++ r) (σ0 ++ s') e.2.1.2.1 sc → zm_Y og c.2.2.2.2.2 c.1 e.1 lc sc h (xQc V X W c ρ0 σ0 τ0 h0)) (hR : ∀ Rl, R = some Rl → ∃ z, xe (ρ0 ++ r0) Rl = some z) (hx : xent (V, MT, CT, c, E, R) s = true) : xgd V X W og c (ρ0 ++ r0) (σ0 ++ s0) τ0 h0 (xQc V X W c ρ0 σ0 τ0 h0) s := by
  intro ρ σ τ h lc sc frc d hd hH hX hF hW hD hl hs hf
  unfold xent at hx
  split at hx
  · rename_i hfr
    rw [hfr] at hf
    cases frc with
    | cons g u => cases hf
    | nil =>
      obtain ⟨h1, h2⟩ := Bool.and_eq_true_iff.mp hx
      have h1 : s.1 = c.1 := Nat.eq_of_beq_eq_true h1
      obtain ⟨e, he, he1⟩ := List.any_eq_true.mp h2
      unfold xent1 at he1
      rcases xbif he1 with ⟨h3, he1⟩ | ⟨-, he1⟩
      · have h3 : e.1 = s.2.1 := Nat.eq_of_beq_eq_true h3
        obtain ⟨a1, a2⟩ := Bool.and_eq_true_iff.mp he1
        obtain ⟨a3, a4⟩ := Bool.and_eq_true_iff.mp a2
        obtain ⟨a5, a6⟩ := Bool.and_eq_true_iff.mp a3
        obtain ⟨a7, a8⟩ := Bool.and_eq_true_iff.mp a4
        have a7 := Nat.le_of_ble_eq_true a7
        obtain ⟨r1, s1, hD1, hg1⟩ := xprel_ok hH (M := e.2.1.2.2.2.2.1) hD
        obtain ⟨ρc, σc, hb, hDc, hlc, hsc⟩ := xinst_ok hD1 (xlk_mono (r := r1) (s := s1) hl) (xsk_mono (r := r1) (s := s1) hs) a1
        have hb2 := hb
        rw [List.append_assoc, List.append_assoc, List.append_assoc, List.append_assoc] at hb
        obtain ⟨⟨ra, rfl⟩, ⟨sa, rfl⟩⟩ := xpfx hb (by rw [hρ]; exact a5) (by rw [hσ]; exact a6)
        split at a8
        · rename_i ee hee
          obtain ⟨z, z1, z2⟩ := xsub_ok hb2 hee
          obtain ⟨b1, b2⟩ := Bool.and_eq_true_iff.mp a8
          have hz0 := xpv_ok hD1.1.1.1 hD1.1.1.2 8 z2 b1
          have hd : d = c.2.2.2.2.2 := by simpa using hd
          show zm_Y og d s.1 s.2.1 lc sc h (xQc V X W c ρ0 σ0 τ0 h0)
          rw [hd, h1, ← h3]
          refine hI e he ra sa τ h lc sc z.toNat ?_ ?_ hH hX hF ?_ hDc hlc hsc
          · rw [z1]; congr 1; omega
          · intro Rl y hRl hy
            subst hRl
            have b3 : xpv (xprel V e.2.1.2.2.2.2.1 s.2.2.2.2.1).1.1.1 (xprel V e.2.1.2.2.2.2.1 s.2.2.2.2.1).1.1.2 8 (xm1 (xadd (.negSucc 0) Rl ee)) = true := b2
            have hy2 : xe (ρ0 ++ r0 ++ ρ ++ r1) Rl = some y := xe_mono (xe_mono hy)
            have := xpv_ok hD1.1.1.1 hD1.1.1.2 8 (xe_m1 (xe_add (k := .negSucc 0) hy2 z2)) b3
            have e2 : y + Int.negSucc 0 * z = y - z := by show y + (-1) * z = _; omega
            omega
          · show W h ≤ W h0 + e.2.1.2.2.2.2.2.2
            omega
        · cases a8
      · cases he1
  · cases hx
theorem xpsh_mem {K : xCx} {t : xS} : ∀ {l r : List xS}, t ∈ l → xent K t = true ∨ t ∈ xpsh K l r
  | [], r, h => by cases h
  | q :: l, r, h => by
    simp only [xpsh]
    rcases List.mem_cons.mp h with rfl | h
    · cases he : xent K t with
      | true => exact Or.inl rfl
      | false => right; exact List.mem_cons_self
    · rcases xpsh_mem (r := r) h with h1 | h1
      · exact Or.inl h1
      · right
        cases he : xent K q with
        | true => exact h1
        | false => exact List.mem_cons_of_mem _ h1
theorem xpsh_r {K : xCx} {t : xS} : ∀ {l r : List xS}, t ∈ r → t ∈ xpsh K l r
  | [], r, h => h
  | q :: l, r, h => by
    simp only [xpsh]
    cases he : xent K q with
    | true => exact xpsh_r h
    | false => exact List.mem_cons_of_mem _ (xpsh_r h)
theorem xwl_ok (hMT : ∀ q ∈ MT, zm_P q.1 = some q.2) (hCT : ∀ c' ∈ CT, xV V X W og c') (hFl : xFl_ok V X) (hX2 : xXW V X W) (hρ : ρ0.length = c.2.1.2.2.1.2) (hσ : σ0.length = c.2.1.2.2.2.1.length) (hE : ∀ t, xent (V, MT, CT, c, E, R) t = true → xgd V X W og c (ρ0 ++ r0) (σ0 ++ s0) τ0 h0 (xQc V X W c ρ0 σ0 τ0 h0) t) : ∀ {n : Nat} {l : List xS}, xwl (V, MT, CT, c, E, R) n l = true → ∀ t ∈ l, xgd V X W og c (ρ0 ++ r0) (σ0 ++ s0) τ0 h0 (xQc V X W c ρ0 σ0 τ0 h0) t
  | 0, l, hx, _, _ => by cases hx
  | n + 1, [], _, t, ht => by cases ht
  | n + 1, s :: r, hx, t, ht => by
    simp only [xwl] at hx
    split at hx
    · cases hx
    · rename_i l hl
      have ih := xwl_ok hMT hCT hFl hX2 hρ hσ hE hx
      rcases List.mem_cons.mp ht with rfl | ht
      · refine xstep_ok hMT hCT hFl hX2 hρ hσ hl (fun u hu => ?_)
        rcases xpsh_mem (K := (V, MT, CT, c, E, R)) (r := r) hu with h1 | h1
        · exact hE u h1
        · exact ih u h1
      · exact ih t (xpsh_r ht)
/-- what was checked is so -/
theorem xchk_ok {n : Nat} (hMT : ∀ q ∈ MT, zm_P q.1 = some q.2) (hCT : ∀ c' ∈ CT, xV V X W og c') (hFl : xFl_ok V X) (hX2 : xXW V X W) (h0 : xchk0 V MT CT c E n = true) (h1 : ∀ e ∈ E, xchk1 V MT CT c E n e = true) : xV V X W og c := by
  intro ρ σ τ h lc hH hX hD hl
  have hρ : ρ.length = c.2.1.2.2.1.2 := hD.1.2.symm
  have hσ : σ.length = c.2.1.2.2.2.1.length := hD.2.1.1
  have eρ : ρ ++ [] = ρ := List.append_nil ρ
  have eσ : σ ++ [] = σ := List.append_nil σ
  have main : ∀ (N : Nat), ∀ e ∈ E, ∀ (r : List Int) (s' τ1 : List Nat) (h' : zm_H) (lc : zm_L) (sc : List Value) (m : Nat), m < N → xe (ρ ++ r) e.2.2 = some (m : Int) → xHI V.1 V.2.1 τ1 h' → X τ1 h' → xF (xms c.2.2.2.1) τ h τ1 h' → W h' ≤ W h + e.2.1.2.2.2.2.2.2 → xdok (ρ ++ r) (σ ++ s') τ1 h' e.2.1.2.2 → xlk (ρ ++ r) (σ ++ s') e.2.1.1 lc → xsk (ρ ++ r) (σ ++ s') e.2.1.2.1 sc → zm_Y og c.2.2.2.2.2 c.1 e.1 lc sc h' (xQc V X W c ρ σ τ h) := by
    intro N
    induction N with
    | zero => intro e he r s' τ1 h' lc sc m hm; omega
    | succ N ih =>
      intro e he r s' τ1 h' lc sc m hm hr hH1 hX1 hF1 hW1 hD1 hl1 hs1
      have hg := xwl_ok (r0 := r) (s0 := s') (τ0 := τ) (h0 := h) hMT hCT hFl hX2 hρ hσ (fun t ht => xent_ok hρ hσ (fun e2 he2 r2 s2 τ2 h2 lc2 sc2 m2 hm2 hlt hH2 hX2 hF2 hW2 hD2 hl2 hs2 => ih e2 he2 r2 s2 τ2 h2 lc2 sc2 m2 (by have := hlt e.2.2 (m : Int) rfl hr; omega) hm2 hH2 hX2 hF2 hW2 hD2 hl2 hs2) (fun Rl hRl => by cases hRl; exact ⟨_, hr⟩) ht) (h1 e he) _ (List.mem_singleton.mpr rfl)
      refine hg [] [] τ1 h' lc sc [] c.2.2.2.2.2 rfl hH1 hX1 hF1 hW1 ?_ ?_ ?_ trivial
      · rw [List.append_nil, List.append_nil]; exact hD1
      · rw [List.append_nil, List.append_nil]; exact hl1
      · rw [List.append_nil, List.append_nil]; exact hs1
  have hg := xwl_ok (r0 := []) (s0 := []) (τ0 := τ) (h0 := h) hMT hCT hFl hX2 hρ hσ (fun t ht => xent_ok hρ hσ (fun e2 he2 r2 s2 τ2 h2 lc2 sc2 m2 hm2 _ hH2 hX2 hF2 hW2 hD2 hl2 hs2 => main (m2 + 1) e2 he2 r2 s2 τ2 h2 lc2 sc2 m2 (by omega) hm2 hH2 hX2 hF2 hW2 hD2 hl2 hs2) (fun Rl hRl => by cases hRl) ht) h0 _ (List.mem_singleton.mpr rfl)
  refine hg [] [] τ h lc [] [] c.2.2.2.2.2 rfl hH hX (xF_refl _ _ _) ?_ ?_ ?_ trivial trivial
  · show W h ≤ W h + 0
    omega
  · simp only [List.append_nil]; exact hD
  · simp only [List.append_nil]; exact hl
end XSP
end
