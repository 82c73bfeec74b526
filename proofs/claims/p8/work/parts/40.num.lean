/-! A symbolic executor over the small machine, first part: linear terms over symbols, intervals, constraints -/
abbrev xl : Type := Int × List (Nat × Int)
def xle (a b : Int) : Bool := match b - a with
  | .ofNat _ => true
  | .negSucc _ => false
theorem xle_iff {a b : Int} : xle a b = true ↔ a ≤ b := by
  unfold xle
  constructor
  · intro h
    split at h
    · rename_i n hn
      have h2 : (0 : Int) ≤ Int.ofNat n := Int.natCast_nonneg n
      omega
    · cases h
  · intro h
    split
    · rfl
    · rename_i n hn
      have h2 := Int.negSucc_lt_zero n
      omega
def xins (s : Nat) (c : Int) : List (Nat × Int) → List (Nat × Int)
  | [] => [(s, c)]
  | q :: r => bif Nat.blt q.1 s then (s, c) :: q :: r else bif Nat.beq q.1 s then (match c + q.2 with
    | .ofNat 0 => r
    | k => (s, k) :: r) else q :: xins s c r
def xat (k : Int) (a : List (Nat × Int)) : List (Nat × Int) → List (Nat × Int)
  | [] => a
  | q :: r => xins q.1 (k * q.2) (xat k a r)
/-- a + k * b -/
def xadd (k : Int) (a b : xl) : xl := (a.1 + k * b.1, xat k a.2 b.2)
def xk (c : Int) : xl := (c, [])
def xsym (s : Nat) : xl := (0, [(s, 1)])
def xpl (c : Int) (e : xl) : xl := (e.1 + c, e.2)
def xsc (k : Int) (e : xl) : xl := (k * e.1, e.2.map (fun q => (q.1, k * q.2)))
def xt (ρ : List Int) : List (Nat × Int) → Option Int
  | [] => some 0
  | q :: t => match ρ[q.1]?, xt ρ t with
    | some x, some y => some (q.2 * x + y)
    | _, _ => none
def xe (ρ : List Int) (e : xl) : Option Int := match xt ρ e.2 with
  | some y => some (e.1 + y)
  | none => none
theorem xt_cons {ρ : List Int} {q : Nat × Int} {t : List (Nat × Int)} {z : Int} : xt ρ (q :: t) = some z ↔ ∃ x y, ρ[q.1]? = some x ∧ xt ρ t = some y ∧ z = q.2 * x + y := by
  constructor
  · intro h
    simp only [xt] at h
    split at h
    · rename_i x y hx hy; cases h; exact ⟨x, y, hx, hy, rfl⟩
    · cases h
  · rintro ⟨x, y, hx, hy, rfl⟩
    simp only [xt, hx, hy]
theorem xt_ins {ρ : List Int} {s : Nat} {c x : Int} (hs : ρ[s]? = some x) : ∀ {l : List (Nat × Int)} {y : Int}, xt ρ l = some y → xt ρ (xins s c l) = some (c * x + y)
  | [], y, h => by
    simp only [xt] at h
    cases h
    exact xt_cons.mpr ⟨x, 0, hs, rfl, rfl⟩
  | q :: r, y, h => by
    obtain ⟨x', y', hx, hy, rfl⟩ := xt_cons.mp h
    simp only [xins]
    cases h1 : Nat.blt q.1 s with
    | true => exact xt_cons.mpr ⟨x, _, hs, h, rfl⟩
    | false =>
      cases h2 : Nat.beq q.1 s with
      | true =>
        have e := Nat.eq_of_beq_eq_true h2
        simp only [cond_false, cond_true]
        rw [e, hs] at hx
        cases hx
        split
        · rename_i hz
          rw [hy]
          have hz : c + q.2 = 0 := hz
          have : c * x + (q.2 * x + y') = y' := by rw [← Int.add_assoc, ← Int.add_mul, hz, Int.zero_mul, Int.zero_add]
          rw [this]
        · refine xt_cons.mpr ⟨x, y', hs, hy, ?_⟩
          show c * x + (q.2 * x + y') = (c + q.2) * x + y'
          rw [Int.add_mul, Int.add_assoc]
      | false =>
        refine xt_cons.mpr ⟨x', _, hx, xt_ins hs hy, ?_⟩
        omega
theorem xt_at {ρ : List Int} {k : Int} {a : List (Nat × Int)} {x : Int} (ha : xt ρ a = some x) : ∀ {b : List (Nat × Int)} {y : Int}, xt ρ b = some y → xt ρ (xat k a b) = some (x + k * y)
  | [], y, h => by
    simp only [xt] at h
    cases h
    simp only [xat, Int.mul_zero, Int.add_zero]
    exact ha
  | q :: r, y, h => by
    obtain ⟨x', y', hx, hy, rfl⟩ := xt_cons.mp h
    simp only [xat]
    rw [xt_ins hx (xt_at ha hy), Int.mul_add, ← Int.mul_assoc]
    congr 1
    omega
theorem xe_iff {ρ : List Int} {e : xl} {z : Int} : xe ρ e = some z ↔ xt ρ e.2 = some (z - e.1) := by
  unfold xe
  constructor
  · intro h
    split at h
    · rename_i y hy; cases h; rw [hy]; congr 1; omega
    · cases h
  · intro h
    rw [h]
    simp only [Option.some.injEq]
    omega
theorem xe_add {ρ : List Int} {k : Int} {a b : xl} {x y : Int} (ha : xe ρ a = some x) (hb : xe ρ b = some y) : xe ρ (xadd k a b) = some (x + k * y) := by
  rw [xe_iff] at *
  show xt ρ (xat k a.2 b.2) = some (x + k * y - (a.1 + k * b.1))
  rw [xt_at ha hb, Int.mul_sub]
  congr 1
  omega
theorem xe_k {ρ : List Int} (c : Int) : xe ρ (xk c) = some c := by
  simp [xe, xk, xt]
theorem xe_sym {ρ : List Int} {s : Nat} {x : Int} (h : ρ[s]? = some x) : xe ρ (xsym s) = some x := by
  simp [xe, xsym, xt, h]
theorem xe_pl {ρ : List Int} {e : xl} {x : Int} (c : Int) (h : xe ρ e = some x) : xe ρ (xpl c e) = some (x + c) := by
  rw [xe_iff] at *
  show xt ρ e.2 = some (x + c - (e.1 + c))
  rw [h]
  congr 1
  omega
theorem xt_sc {ρ : List Int} (k : Int) : ∀ {l : List (Nat × Int)} {y : Int}, xt ρ l = some y → xt ρ (l.map (fun q => (q.1, k * q.2))) = some (k * y)
  | [], y, h => by simp only [xt] at h; cases h; simp [xt]
  | q :: r, y, h => by
    obtain ⟨x', y', hx, hy, rfl⟩ := xt_cons.mp h
    refine xt_cons.mpr ⟨x', _, hx, xt_sc k hy, ?_⟩
    show k * (q.2 * x' + y') = k * q.2 * x' + k * y'
    rw [Int.mul_add, Int.mul_assoc]
theorem xe_sc {ρ : List Int} {e : xl} {x : Int} (k : Int) (h : xe ρ e = some x) : xe ρ (xsc k e) = some (k * x) := by
  rw [xe_iff] at *
  show xt ρ (e.2.map (fun q => (q.1, k * q.2))) = some (k * x - k * e.1)
  rw [xt_sc k h, Int.mul_sub]
theorem xt_mono {ρ r : List Int} : ∀ {l : List (Nat × Int)} {y : Int}, xt ρ l = some y → xt (ρ ++ r) l = some y
  | [], y, h => h
  | q :: t, y, h => by
    obtain ⟨x', y', hx, hy, rfl⟩ := xt_cons.mp h
    refine xt_cons.mpr ⟨x', y', ?_, xt_mono hy, rfl⟩
    rw [List.getElem?_append_left (List.getElem?_eq_some_iff.mp hx).1]
    exact hx
theorem xe_mono {ρ r : List Int} {e : xl} {y : Int} (h : xe ρ e = some y) : xe (ρ ++ r) e = some y := by
  rw [xe_iff] at *
  exact xt_mono h
/-! intervals -/
abbrev xI : Type := List (Nat × Int × Int)
abbrev xN : Type := xI × List xl
def xiv : xI → Nat → Option (Int × Int)
  | [], _ => none
  | q :: t, s => bif Nat.beq q.1 s then some q.2 else xiv t s
def xiok (ρ : List Int) (iv : xI) : Prop := ∀ q ∈ iv, ∃ x, ρ[q.1]? = some x ∧ q.2.1 ≤ x ∧ x ≤ q.2.2
def xcok (ρ : List Int) (cs : List xl) : Prop := ∀ e ∈ cs, ∃ x, xe ρ e = some x ∧ 0 ≤ x
def xnok (ρ : List Int) (n : xN) : Prop := xiok ρ n.1 ∧ xcok ρ n.2
theorem xiv_ok {ρ : List Int} : ∀ {iv : xI} {s : Nat} {b : Int × Int}, xiok ρ iv → xiv iv s = some b → ∃ x, ρ[s]? = some x ∧ b.1 ≤ x ∧ x ≤ b.2
  | [], s, b, _, h => by cases h
  | q :: t, s, b, hi, h => by
    simp only [xiv] at h
    cases h1 : Nat.beq q.1 s with
    | true =>
      rw [h1] at h
      cases h
      have e := Nat.eq_of_beq_eq_true h1
      obtain ⟨x, a, b⟩ := hi q List.mem_cons_self
      rw [e] at a
      exact ⟨x, a, b⟩
    | false =>
      rw [h1] at h
      exact xiv_ok (fun q hq => hi q (List.mem_cons_of_mem _ hq)) h
def xlot (iv : xI) : List (Nat × Int) → Option Int
  | [] => some 0
  | q :: t => match xiv iv q.1, xlot iv t with
    | some b, some y => some ((match q.2 with
      | .ofNat _ => q.2 * b.1
      | .negSucc _ => q.2 * b.2) + y)
    | _, _ => none
def xhit (iv : xI) : List (Nat × Int) → Option Int
  | [] => some 0
  | q :: t => match xiv iv q.1, xhit iv t with
    | some b, some y => some ((match q.2 with
      | .ofNat _ => q.2 * b.2
      | .negSucc _ => q.2 * b.1) + y)
    | _, _ => none
theorem xlot_ok {ρ : List Int} {iv : xI} (hi : xiok ρ iv) : ∀ {l : List (Nat × Int)} {z : Int}, xlot iv l = some z → ∃ y, xt ρ l = some y ∧ z ≤ y
  | [], z, h => by simp only [xlot] at h; cases h; exact ⟨0, rfl, Int.le_refl 0⟩
  | q :: t, z, h => by
    simp only [xlot] at h
    split at h
    · rename_i b y hb hy
      obtain ⟨x, hx, h1, h2⟩ := xiv_ok hi hb
      obtain ⟨y', hy', h3⟩ := xlot_ok hi hy
      refine ⟨_, xt_cons.mpr ⟨x, y', hx, hy', rfl⟩, ?_⟩
      simp only [Option.some.injEq] at h
      subst h
      have : (match q.2 with
        | .ofNat _ => q.2 * b.1
        | .negSucc _ => q.2 * b.2) ≤ q.2 * x := by
        split
        · rename_i n hn; rw [hn]; exact Int.mul_le_mul_of_nonneg_left h1 (Int.natCast_nonneg n)
        · rename_i n hn; rw [hn]; exact Int.mul_le_mul_of_nonpos_left (Int.le_of_lt (Int.negSucc_lt_zero n)) h2
      omega
    · cases h
theorem xhit_ok {ρ : List Int} {iv : xI} (hi : xiok ρ iv) : ∀ {l : List (Nat × Int)} {z : Int}, xhit iv l = some z → ∃ y, xt ρ l = some y ∧ y ≤ z
  | [], z, h => by simp only [xhit] at h; cases h; exact ⟨0, rfl, Int.le_refl 0⟩
  | q :: t, z, h => by
    simp only [xhit] at h
    split at h
    · rename_i b y hb hy
      obtain ⟨x, hx, h1, h2⟩ := xiv_ok hi hb
      obtain ⟨y', hy', h3⟩ := xhit_ok hi hy
      refine ⟨_, xt_cons.mpr ⟨x, y', hx, hy', rfl⟩, ?_⟩
      simp only [Option.some.injEq] at h
      subst h
      have : q.2 * x ≤ (match q.2 with
        | .ofNat _ => q.2 * b.2
        | .negSucc _ => q.2 * b.1) := by
        split
        · rename_i n hn; rw [hn]; exact Int.mul_le_mul_of_nonneg_left h2 (Int.natCast_nonneg n)
        · rename_i n hn; rw [hn]; exact Int.mul_le_mul_of_nonpos_left (Int.le_of_lt (Int.negSucc_lt_zero n)) h1
      omega
    · cases h
def xlo (iv : xI) (e : xl) : Option Int := match xlot iv e.2 with
  | some y => some (e.1 + y)
  | none => none
def xhi (iv : xI) (e : xl) : Option Int := match xhit iv e.2 with
  | some y => some (e.1 + y)
  | none => none
theorem xlo_ok {ρ : List Int} {iv : xI} (hi : xiok ρ iv) {e : xl} {z : Int} (h : xlo iv e = some z) : ∃ x, xe ρ e = some x ∧ z ≤ x := by
  unfold xlo at h
  split at h
  · rename_i y hy
    cases h
    obtain ⟨y', a, b⟩ := xlot_ok hi hy
    refine ⟨e.1 + y', ?_, by omega⟩
    simp only [xe, a]
  · cases h
theorem xhi_ok {ρ : List Int} {iv : xI} (hi : xiok ρ iv) {e : xl} {z : Int} (h : xhi iv e = some z) : ∃ x, xe ρ e = some x ∧ x ≤ z := by
  unfold xhi at h
  split at h
  · rename_i y hy
    cases h
    obtain ⟨y', a, b⟩ := xhit_ok hi hy
    refine ⟨e.1 + y', ?_, by omega⟩
    simp only [xe, a]
  · cases h
/-! constraints -/
def xnn (iv : xI) (e : xl) : Bool := match xlo iv e with
  | some z => xle 0 z
  | none => false
def xco (y : Nat) : List (Nat × Int) → Option Int
  | [] => none
  | q :: t => bif Nat.beq q.1 y then some q.2 else xco y t
/-- how often the constraint c is to be taken away from a goal with x times the symbol y -/
def xmul (q : Nat × Int) (c : xl) : Nat := match xco q.1 c.2 with
  | none => 0
  | some k => match q.2 / k with
    | .ofNat (n + 1) => bif decide (((n + 1 : Nat) : Int) * k = q.2) then n + 1 else 0
    | _ => 0
def xapp (q : Nat × Int) (e : xl) : List xl → List xl
  | [] => []
  | c :: t => match xmul q c with
    | 0 => xapp q e t
    | n + 1 => xadd (.negSucc n) e c :: xapp q e t
def xsy (cs : List xl) (e : xl) (f : xl → Bool) : List (Nat × Int) → Bool
  | [] => false
  | q :: t => match xapp q e cs with
    | [] => xsy cs e f t
    | c :: l => (c :: l).any f
/-- e is not below 0 -/
def xpv (iv : xI) (cs : List xl) : Nat → xl → Bool
  | 0, e => xnn iv e
  | n + 1, e => bif xnn iv e then true else xsy cs e (xpv iv cs n) e.2
theorem xnn_ok {ρ : List Int} {iv : xI} (hi : xiok ρ iv) {e : xl} (h : xnn iv e = true) : ∃ x, xe ρ e = some x ∧ 0 ≤ x := by
  unfold xnn at h
  split at h
  · rename_i z hz
    obtain ⟨x, a, b⟩ := xlo_ok hi hz
    exact ⟨x, a, by have := xle_iff.mp h; omega⟩
  · cases h
theorem xe_back {ρ : List Int} {k x y : Int} {a b : xl} (h : xe ρ (xadd k a b) = some x) (hb : xe ρ b = some y) : (∃ z, xe ρ a = some z) → xe ρ a = some (x - k * y) := by
  rintro ⟨z, hz⟩
  have h2 := xe_add (k := k) hz hb
  rw [h] at h2
  simp only [Option.some.injEq] at h2
  rw [hz]
  congr 1
  omega
theorem xapp_ok {ρ : List Int} {q : Nat × Int} {e : xl} {z : Int} (he : xe ρ e = some z) : ∀ {cs : List xl} {e' : xl}, xcok ρ cs → e' ∈ xapp q e cs → ∃ x, xe ρ e' = some x ∧ x ≤ z
  | [], e', _, h => by cases h
  | c :: t, e', hc, h => by
    simp only [xapp] at h
    split at h
    · exact xapp_ok he (fun e he => hc e (List.mem_cons_of_mem _ he)) h
    · rename_i n hn
      rcases List.mem_cons.mp h with rfl | h
      · obtain ⟨y, hy, h0⟩ := hc c List.mem_cons_self
        refine ⟨_, xe_add he hy, ?_⟩
        have := Int.mul_le_mul_of_nonpos_left (a := Int.negSucc n) (Int.le_of_lt (Int.negSucc_lt_zero n)) h0
        omega
      · exact xapp_ok he (fun e he => hc e (List.mem_cons_of_mem _ he)) h
theorem xsy_ok {ρ : List Int} {cs : List xl} (hc : xcok ρ cs) {e : xl} {z : Int} (he : xe ρ e = some z) {f : xl → Bool} (hf : ∀ e' x, xe ρ e' = some x → f e' = true → 0 ≤ x) : ∀ {l : List (Nat × Int)}, xsy cs e f l = true → 0 ≤ z
  | [], h => by cases h
  | q :: t, h => by
    simp only [xsy] at h
    split at h
    · exact xsy_ok hc he hf h
    · rename_i c l hl
      obtain ⟨e', hm, h'⟩ := List.any_eq_true.mp h
      rw [← hl] at hm
      obtain ⟨x, hx, hle⟩ := xapp_ok he hc hm
      have := hf e' x hx h'
      omega
theorem xpv_ok {ρ : List Int} {iv : xI} {cs : List xl} (hi : xiok ρ iv) (hc : xcok ρ cs) : ∀ (n : Nat) {e : xl} {z : Int}, xe ρ e = some z → xpv iv cs n e = true → 0 ≤ z
  | 0, e, z, he, h => by
    obtain ⟨x, a, b⟩ := xnn_ok hi h
    rw [he] at a
    cases a
    exact b
  | n + 1, e, z, he, h => by
    simp only [xpv] at h
    cases h1 : xnn iv e with
    | true =>
      obtain ⟨x, a, b⟩ := xnn_ok hi h1
      rw [he] at a
      cases a
      exact b
    | false =>
      rw [h1] at h
      exact xsy_ok hc he (fun e' x hx hf => xpv_ok hi hc n hx hf) h
/-! taking e >= 0 to be so: none if it can't be -/
def xmax (a b : Int) : Int := bif xle a b then b else a
def xmin (a b : Int) : Int := bif xle a b then a else b
/-- one symbol's interval made narrower -/
def xt1 (iv : xI) (e : xl) (q : Nat × Int) : Option xI := match q.2 with
  | .ofNat 1 => (match xiv iv q.1, xhi iv (xadd (.negSucc 0) e (xsym q.1)) with
    | some b, some y => (let lo := xmax b.1 (-y); bif xle lo b.2 then some ((q.1, lo, b.2) :: iv) else none)
    | _, _ => some iv)
  | .negSucc 0 => (match xiv iv q.1, xhi iv (xadd (.ofNat 1) e (xsym q.1)) with
    | some b, some y => (let hi := xmin b.2 y; bif xle b.1 hi then some ((q.1, b.1, hi) :: iv) else none)
    | _, _ => some iv)
  | _ => some iv
def xts (e : xl) : List (Nat × Int) → xI → Option xI
  | [], iv => some iv
  | q :: t, iv => match xt1 iv e q with
    | some iv' => xts e t iv'
    | none => none
def xeq (a b : xl) : Bool := decide (a = b)
def xas (n : xN) (e : xl) : Option xN := match xhi n.1 e with
  | none => some n
  | some z => bif xle 0 z then (bif xnn n.1 e then some n else bif xpv n.1 n.2 1 (xpl (-1) (xsc (-1) e)) then none else match xts e e.2 n.1 with
      | none => none
      | some iv => match e.2 with
        | _ :: _ :: _ => bif xnn iv e || n.2.any (xeq e) then some (iv, n.2) else some (iv, e :: n.2)
        | _ => some (iv, n.2)) else none
theorem xmax_ok {a b c : Int} (h1 : a ≤ c) (h2 : b ≤ c) : xmax a b ≤ c := by
  unfold xmax
  cases xle a b <;> assumption
theorem xmin_ok {a b c : Int} (h1 : c ≤ a) (h2 : c ≤ b) : c ≤ xmin a b := by
  unfold xmin
  cases xle a b <;> assumption
theorem xt1_ok {ρ : List Int} {iv : xI} {e : xl} {z : Int} (hi : xiok ρ iv) (he : xe ρ e = some z) (h0 : 0 ≤ z) (q : Nat × Int) : ∃ iv', xt1 iv e q = some iv' ∧ xiok ρ iv' := by
  unfold xt1
  split
  · split
    · rename_i b y hb hy
      obtain ⟨x, hx, h1, h2⟩ := xiv_ok hi hb
      obtain ⟨w, hw, h3⟩ := xhi_ok hi hy
      have hs := xe_add (k := .negSucc 0) he (xe_sym hx)
      rw [hw] at hs
      simp only [Option.some.injEq] at hs
      have hs : w = z + (-1) * x := hs
      have h4 : xmax b.1 (-y) ≤ x := xmax_ok h1 (by omega)
      refine ⟨(q.1, xmax b.1 (-y), b.2) :: iv, ?_, ?_⟩
      · show (bif xle (xmax b.1 (-y)) b.2 then _ else _) = _
        rw [xle_iff.mpr (by omega)]
        rfl
      · intro p hp
        rcases List.mem_cons.mp hp with rfl | hp
        · exact ⟨x, hx, h4, h2⟩
        · exact hi p hp
    · exact ⟨iv, rfl, hi⟩
  · split
    · rename_i b y hb hy
      obtain ⟨x, hx, h1, h2⟩ := xiv_ok hi hb
      obtain ⟨w, hw, h3⟩ := xhi_ok hi hy
      have hs := xe_add (k := .ofNat 1) he (xe_sym hx)
      rw [hw] at hs
      simp only [Option.some.injEq] at hs
      have hs : w = z + 1 * x := hs
      have h4 : x ≤ xmin b.2 y := xmin_ok h2 (by omega)
      refine ⟨(q.1, b.1, xmin b.2 y) :: iv, ?_, ?_⟩
      · show (bif xle b.1 (xmin b.2 y) then _ else _) = _
        rw [xle_iff.mpr (by omega)]
        rfl
      · intro p hp
        rcases List.mem_cons.mp hp with rfl | hp
        · exact ⟨x, hx, h1, h4⟩
        · exact hi p hp
    · exact ⟨iv, rfl, hi⟩
  · exact ⟨iv, rfl, hi⟩
theorem xts_ok {ρ : List Int} {e : xl} {z : Int} (he : xe ρ e = some z) (h0 : 0 ≤ z) : ∀ (l : List (Nat × Int)) {iv : xI}, xiok ρ iv → ∃ iv', xts e l iv = some iv' ∧ xiok ρ iv'
  | [], iv, hi => ⟨iv, rfl, hi⟩
  | q :: t, iv, hi => by
    obtain ⟨iv1, h1, h2⟩ := xt1_ok hi he h0 q
    obtain ⟨iv2, h3, h4⟩ := xts_ok he h0 t h2
    refine ⟨iv2, ?_, h4⟩
    simp only [xts, h1]
    exact h3
theorem xas_ok {ρ : List Int} {n : xN} {e : xl} {z : Int} (hn : xnok ρ n) (he : xe ρ e = some z) (h0 : 0 ≤ z) : ∃ n', xas n e = some n' ∧ xnok ρ n' := by
  unfold xas
  split
  · exact ⟨n, rfl, hn⟩
  · rename_i y hy
    obtain ⟨w, hw, h1⟩ := xhi_ok hn.1 hy
    rw [he] at hw
    cases hw
    rw [xle_iff.mpr (show (0 : Int) ≤ y by omega)]
    simp only [cond_true]
    cases h2 : xnn n.1 e with
    | true => exact ⟨n, rfl, hn⟩
    | false =>
      simp only [cond_false]
      cases h3 : xpv n.1 n.2 1 (xpl (-1) (xsc (-1) e)) with
      | true =>
        have := xpv_ok hn.1 hn.2 1 (xe_pl (-1) (xe_sc (-1) he)) h3
        omega
      | false =>
        obtain ⟨iv', h4, h5⟩ := xts_ok he h0 e.2 hn.1
        simp only [cond_false, h4]
        split
        · cases xnn iv' e || n.2.any (xeq e) with
          | true => exact ⟨_, rfl, h5, hn.2⟩
          | false =>
            refine ⟨_, rfl, h5, fun c hc => ?_⟩
            rcases List.mem_cons.mp hc with rfl | hc
            · exact ⟨z, he, h0⟩
            · exact hn.2 c hc
        · exact ⟨_, rfl, h5, hn.2⟩
theorem xiok_mono {ρ r : List Int} {iv : xI} (h : xiok ρ iv) : xiok (ρ ++ r) iv := by
  intro q hq
  obtain ⟨x, a, b⟩ := h q hq
  refine ⟨x, ?_, b⟩
  rw [List.getElem?_append_left (List.getElem?_eq_some_iff.mp a).1]
  exact a
theorem xcok_mono {ρ r : List Int} {cs : List xl} (h : xcok ρ cs) : xcok (ρ ++ r) cs := by
  intro e he
  obtain ⟨x, a, b⟩ := h e he
  exact ⟨x, xe_mono a, b⟩
theorem xnok_mono {ρ r : List Int} {n : xN} (h : xnok ρ n) : xnok (ρ ++ r) n := ⟨xiok_mono h.1, xcok_mono h.2⟩
/-- a fresh symbol -/
theorem xfresh_ok {ρ : List Int} {n : xN} {lo hi x : Int} (h : xnok ρ n) (h1 : lo ≤ x) (h2 : x ≤ hi) : xnok (ρ ++ [x]) ((ρ.length, lo, hi) :: n.1, n.2) ∧ xe (ρ ++ [x]) (xsym ρ.length) = some x := by
  have hx : (ρ ++ [x])[ρ.length]? = some x := by simp
  refine ⟨⟨fun q hq => ?_, (xnok_mono h).2⟩, xe_sym hx⟩
  rcases List.mem_cons.mp hq with rfl | hq
  · exact ⟨x, hx, h1, h2⟩
  · exact (xnok_mono h).1 q hq
