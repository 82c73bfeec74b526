/-! Fourth part: what needs neither heap nor jump -/
def xCok (ρ : List Int) (C : xC) : Prop := xnok ρ C.1 ∧ C.2 = ρ.length
def xfr (C : xC) (lo hi : Int) : xC × xl := (((((C.2, lo, hi) :: C.1.1), C.1.2), C.2 + 1), xsym C.2)
def xR (ρ : List Int) (q : xC × xl) (x : Int) : Prop := ∃ r, xCok (ρ ++ r) q.1 ∧ xe (ρ ++ r) q.2 = some x
theorem xR_fr {ρ : List Int} {C : xC} {lo hi x : Int} (h : xCok ρ C) (h1 : lo ≤ x) (h2 : x ≤ hi) : xR ρ (xfr C lo hi) x := by
  obtain ⟨h3, h4⟩ := h
  obtain ⟨a, b⟩ := xfresh_ok h3 h1 h2
  refine ⟨[x], ⟨?_, ?_⟩, ?_⟩
  · show xnok (ρ ++ [x]) ((C.2, lo, hi) :: C.1.1, C.1.2)
    rw [h4]
    exact a
  · show C.2 + 1 = _
    rw [h4, List.length_append]
    rfl
  · show xe (ρ ++ [x]) (xsym C.2) = _
    rw [h4]
    exact b
theorem xR_id {ρ : List Int} {C : xC} {e : xl} {x : Int} (h : xCok ρ C) (he : xe ρ e = some x) : xR ρ (C, e) x := ⟨[], by rw [List.append_nil]; exact h, by rw [List.append_nil]; exact he⟩
def xfi (C : xC) : xC × xl := xfr C xI32a xI32b
def xfL (C : xC) : xC × xl := xfr C xI64a xI64b
theorem xR_fi {ρ : List Int} {C : xC} (h : xCok ρ C) (i : Int32) : xR ρ (xfi C) i.toInt := xR_fr h (xb_rng i).1 (xb_rng i).2
theorem xR_fL {ρ : List Int} {C : xC} (h : xCok ρ C) (i : Int64) : xR ρ (xfL C) i.toInt := xR_fr h (xb_rngL i).1 (xb_rngL i).2
/-- surely between -/
def xbt (iv : xI) (a b : Int) (e : xl) : Bool := match xlo iv e, xhi iv e with
  | some l, some h => xle a l && xle h b
  | _, _ => false
theorem xbt_ok {ρ : List Int} {iv : xI} (hi : xiok ρ iv) {a b z : Int} {e : xl} (h : xbt iv a b e = true) (he : xe ρ e = some z) : a ≤ z ∧ z ≤ b := by
  unfold xbt at h
  split at h
  · rename_i l u hl hu
    obtain ⟨x, h1, h2⟩ := xlo_ok hi hl
    obtain ⟨y, h3, h4⟩ := xhi_ok hi hu
    rw [he] at h1 h3
    cases h1
    cases h3
    simp only [Bool.and_eq_true, xle_iff] at h
    omega
  · cases h
def xci (C : xC) (e : xl) : xC × xl := bif xbt C.1.1 xI32a xI32b e then (C, e) else xfi C
def xcL (C : xC) (e : xl) : xC × xl := bif xbt C.1.1 xI64a xI64b e then (C, e) else xfL C
theorem xci_ok {ρ : List Int} {C : xC} {e : xl} {z : Int} (h : xCok ρ C) (he : xe ρ e = some z) {i : Int32} (hi : i.toInt = z.bmod (2 ^ 32)) : xR ρ (xci C e) i.toInt := by
  unfold xci
  cases hb : xbt C.1.1 xI32a xI32b e with
  | true =>
    obtain ⟨a, b⟩ := xbt_ok h.1.1 hb he
    rw [hi, xb_bm32 a b]
    exact xR_id h he
  | false => exact xR_fi h i
theorem xcL_ok {ρ : List Int} {C : xC} {e : xl} {z : Int} (h : xCok ρ C) (he : xe ρ e = some z) {i : Int64} (hi : i.toInt = z.bmod (2 ^ 64)) : xR ρ (xcL C e) i.toInt := by
  unfold xcL
  cases hb : xbt C.1.1 xI64a xI64b e with
  | true =>
    obtain ⟨a, b⟩ := xbt_ok h.1.1 hb he
    rw [hi, xb_bm64 a b]
    exact xR_id h he
  | false => exact xR_fL h i
/-! the operations -/
abbrev xO2 : Type := xC → xl → xl → Option (xC × xl)
def xo2 (f : xO2) (F : Int32 → Int32 → Int32) : Prop := ∀ (ρ : List Int) (C : xC) (ea eb : xl) (a b : Int32) (q : xC × xl), xCok ρ C → xe ρ ea = some a.toInt → xe ρ eb = some b.toInt → f C ea eb = some q → xR ρ q (F a b).toInt
def xo_add : xO2 := fun C a b => some (xci C (xadd (.ofNat 1) a b))
def xo_sub : xO2 := fun C a b => some (xci C (xadd (.negSucc 0) a b))
def xo_mul : xO2 := fun C a b => some (match b.2 with
  | [] => xci C (xsc b.1 a)
  | _ => match a.2 with
    | [] => xci C (xsc a.1 b)
    | _ => xfi C)
def xo_and : xO2 := fun C a b => some (match xlo C.1.1 a, xhi C.1.1 a, xlo C.1.1 b, xhi C.1.1 b with
  | some al, some ah, some bl, some bh => bif xle 0 al then (bif xle 0 bl then xfr C 0 (xmin ah bh) else xfr C 0 ah) else bif xle 0 bl then xfr C 0 bh else xfi C
  | _, _, _, _ => xfi C)
def xpw (n : Int) : Int := match n with
  | .ofNat k => .ofNat (2 ^ (Nat.log2 k + 1) - 1)
  | .negSucc _ => 0
def xo_or : xO2 := fun C a b => some (match xlo C.1.1 a, xhi C.1.1 a, xlo C.1.1 b, xhi C.1.1 b with
  | some al, some ah, some bl, some bh => bif xle 0 al && xle 0 bl then xfr C 0 (xpw (xmax ah bh)) else xfi C
  | _, _, _, _ => xfi C)
def xo_shl : xO2 := fun C a b => some (match a.2, xlo C.1.1 b, xhi C.1.1 b with
  | [], some bl, some bh => bif xle a.1 1 && xle 1 a.1 && xle 0 bl && xle bh 30 then (bif xle bh bl then (C, xk (.ofNat (2 ^ bl.toNat))) else xfr C (.ofNat (2 ^ bl.toNat)) (.ofNat (2 ^ bh.toNat))) else xfi C
  | _, _, _ => xfi C)
def xo_shr : xO2 := fun C a _ => some (match xlo C.1.1 a, xhi C.1.1 a with
  | some al, some ah => bif xle 0 al then xfr C 0 ah else xfi C
  | _, _ => xfi C)
def xo_any : xO2 := fun C _ _ => some (xfi C)
def xo_div : xO2 := fun C a b => match b.2 with
  | [] => bif xle 1 b.1 then some (match xlo C.1.1 a, xhi C.1.1 a with
    | some al, some ah => bif xle 0 al then xfr C 0 (ah / b.1) else xfi C
    | _, _ => xfi C) else none
  | _ => none
def xo_rem : xO2 := fun C a b => match b.2 with
  | [] => bif xle 1 b.1 then some (match xlo C.1.1 a with
    | some al => bif xle 0 al then xfr C 0 (b.1 - 1) else xfi C
    | _ => xfi C) else none
  | _ => none
theorem xo_add_ok : xo2 xo_add (fun a b => a + b) := by
  intro ρ C ea eb a b q hC ha hb h
  cases h
  refine xci_ok hC (xe_add ha hb) ?_
  show (a + b).toInt = _
  rw [Int32.toInt_add]
  congr 1
  show _ = a.toInt + 1 * b.toInt
  omega
theorem xo_sub_ok : xo2 xo_sub (fun a b => a - b) := by
  intro ρ C ea eb a b q hC ha hb h
  cases h
  refine xci_ok hC (xe_add ha hb) ?_
  show (a - b).toInt = _
  rw [Int32.toInt_sub]
  congr 1
  show _ = a.toInt + (-1) * b.toInt
  omega
theorem xe_nil {ρ : List Int} {e : xl} {z : Int} (h : xe ρ e = some z) (hn : e.2 = []) : z = e.1 := by
  unfold xe at h
  rw [hn] at h
  simp only [xt, Option.some.injEq] at h
  omega
theorem xo_mul_ok : xo2 xo_mul (fun a b => a * b) := by
  intro ρ C ea eb a b q hC ha hb h
  simp only [xo_mul, Option.some.injEq] at h
  subst h
  split
  · rename_i hn
    refine xci_ok hC (xe_sc eb.1 ha) ?_
    show (a * b).toInt = _
    rw [Int32.toInt_mul, ← xe_nil hb hn, Int.mul_comm]
  · split
    · rename_i hn
      refine xci_ok hC (xe_sc ea.1 hb) ?_
      show (a * b).toInt = _
      rw [Int32.toInt_mul, ← xe_nil ha hn]
    · exact xR_fi hC _
theorem xo_and_ok : xo2 xo_and (fun a b => a &&& b) := by
  intro ρ C ea eb a b q hC ha hb h
  simp only [xo_and, Option.some.injEq] at h
  subst h
  split
  · rename_i al ah bl bh e1 e2 e3 e4
    obtain ⟨x1, p1, q1⟩ := xlo_ok hC.1.1 e1
    obtain ⟨x2, p2, q2⟩ := xhi_ok hC.1.1 e2
    obtain ⟨x3, p3, q3⟩ := xlo_ok hC.1.1 e3
    obtain ⟨x4, p4, q4⟩ := xhi_ok hC.1.1 e4
    rw [ha] at p1 p2
    rw [hb] at p3 p4
    cases p1; cases p2; cases p3; cases p4
    cases h1 : xle 0 al with
    | true =>
      have h1 := xle_iff.mp h1
      have k := xb_andl (a := a) (b := b) (by omega)
      cases h2 : xle 0 bl with
      | true =>
        have h2 := xle_iff.mp h2
        have k2 := xb_and (a := a) (b := b) (by omega)
        exact xR_fr hC k.1 (xmin_ok (by show (a &&& b).toInt ≤ ah; omega) (by show (a &&& b).toInt ≤ bh; omega))
      | false => exact xR_fr hC k.1 (by show (a &&& b).toInt ≤ ah; omega)
    | false =>
      cases h2 : xle 0 bl with
      | true =>
        have h2 := xle_iff.mp h2
        have k2 := xb_and (a := a) (b := b) (by omega)
        exact xR_fr hC k2.1 (by show (a &&& b).toInt ≤ bh; omega)
      | false => exact xR_fi hC _
  · exact xR_fi hC _
theorem xpw_ok {m z : Int} (h0 : 0 ≤ z) (h : z ≤ m) : ∃ k : Nat, xpw m = ((2 ^ k : Nat) : Int) - 1 ∧ z < ((2 ^ k : Nat) : Int) := by
  cases m with
  | negSucc n => have := Int.negSucc_lt_zero n; omega
  | ofNat n =>
    refine ⟨Nat.log2 n + 1, ?_, ?_⟩
    · show Int.ofNat (2 ^ (Nat.log2 n + 1) - 1) = _
      have := Nat.two_pow_pos (Nat.log2 n + 1)
      show ((2 ^ (Nat.log2 n + 1) - 1 : Nat) : Int) = _
      omega
    · have h : z ≤ (n : Int) := h
      have := Nat.lt_log2_self (n := n)
      omega
theorem xo_orx {F : Int32 → Int32 → Int32} (hF : ∀ {a b : Int32} {m : Nat}, 0 ≤ a.toInt → 0 ≤ b.toInt → a.toInt < (2 ^ m : Nat) → b.toInt < (2 ^ m : Nat) → 0 ≤ (F a b).toInt ∧ (F a b).toInt < (2 ^ m : Nat)) : xo2 xo_or F := by
  intro ρ C ea eb a b q hC ha hb h
  simp only [xo_or, Option.some.injEq] at h
  subst h
  split
  · rename_i al ah bl bh e1 e2 e3 e4
    obtain ⟨x1, p1, q1⟩ := xlo_ok hC.1.1 e1
    obtain ⟨x2, p2, q2⟩ := xhi_ok hC.1.1 e2
    obtain ⟨x3, p3, q3⟩ := xlo_ok hC.1.1 e3
    obtain ⟨x4, p4, q4⟩ := xhi_ok hC.1.1 e4
    rw [ha] at p1 p2
    rw [hb] at p3 p4
    cases p1; cases p2; cases p3; cases p4
    cases h1 : xle 0 al && xle 0 bl with
    | true =>
      simp only [Bool.and_eq_true, xle_iff] at h1
      have m1 : ah ≤ xmax ah bh := by unfold xmax; cases hh : xle ah bh with
        | true => exact xle_iff.mp hh
        | false => exact Int.le_refl _
      have m2 : bh ≤ xmax ah bh := by unfold xmax; cases hh : xle ah bh with
        | true => exact Int.le_refl _
        | false =>
          have : ¬ ah ≤ bh := fun h => by rw [xle_iff.mpr h] at hh; cases hh
          show bh ≤ ah
          omega
      obtain ⟨k, hk, hk1⟩ := xpw_ok (m := xmax ah bh) (z := a.toInt) (by omega) (by omega)
      obtain ⟨k2, hk2, hk3⟩ := xpw_ok (m := xmax ah bh) (z := b.toInt) (by omega) (by omega)
      have ek : ((2 ^ k : Nat) : Int) = ((2 ^ k2 : Nat) : Int) := by omega
      have kk := hF (a := a) (b := b) (m := k) (by omega) (by omega) hk1 (by omega)
      exact xR_fr hC kk.1 (by omega)
    | false => exact xR_fi hC _
  · exact xR_fi hC _
theorem xo_or_ok : xo2 xo_or (fun a b => a ||| b) := xo_orx (fun h1 h2 h3 h4 => xb_or h1 h2 h3 h4)
theorem xo_xor_ok : xo2 xo_or (fun a b => a ^^^ b) := xo_orx (fun h1 h2 h3 h4 => xb_xor h1 h2 h3 h4)
theorem xo_shl_ok : xo2 xo_shl (fun a b => a <<< (b &&& 31)) := by
  intro ρ C ea eb a b q hC ha hb h
  simp only [xo_shl, Option.some.injEq] at h
  subst h
  split
  · rename_i bl bh en e1 e2
    obtain ⟨x1, p1, q1⟩ := xlo_ok hC.1.1 e1
    obtain ⟨x2, p2, q2⟩ := xhi_ok hC.1.1 e2
    rw [hb] at p1 p2
    cases p1; cases p2
    cases h1 : xle ea.1 1 && xle 1 ea.1 && xle 0 bl && xle bh 30 with
    | true =>
      simp only [Bool.and_eq_true, xle_iff] at h1
      have ez := xe_nil ha en
      have e1 : a = 1 := by
        rw [← Int32.toInt_inj]
        show a.toInt = 1
        omega
      subst e1
      have key := xb_shl1 (b := b) (by omega) (by omega)
      cases h2 : xle bh bl with
      | true =>
        have h2 := xle_iff.mp h2
        have eb2 : bl = b.toInt := by omega
        refine xR_id hC ?_
        rw [xe_k, eb2]
        show some _ = some ((1 : Int32) <<< (b &&& 31)).toInt
        rw [key]
        rfl
      | false =>
        refine xR_fr hC ?_ ?_
        · show Int.ofNat (2 ^ bl.toNat) ≤ ((1 : Int32) <<< (b &&& 31)).toInt
          rw [key]
          have := Nat.pow_le_pow_right (n := 2) (by omega) (show bl.toNat ≤ b.toInt.toNat by omega)
          show ((2 ^ bl.toNat : Nat) : Int) ≤ _
          omega
        · show ((1 : Int32) <<< (b &&& 31)).toInt ≤ Int.ofNat (2 ^ bh.toNat)
          rw [key]
          have := Nat.pow_le_pow_right (n := 2) (by omega) (show b.toInt.toNat ≤ bh.toNat by omega)
          show _ ≤ ((2 ^ bh.toNat : Nat) : Int)
          omega
    | false => exact xR_fi hC _
  · exact xR_fi hC _
theorem xo_shr_ok : xo2 xo_shr (fun a b => a >>> (b &&& 31)) := by
  intro ρ C ea eb a b q hC ha hb h
  simp only [xo_shr, Option.some.injEq] at h
  subst h
  split
  · rename_i al ah e1 e2
    obtain ⟨x1, p1, q1⟩ := xlo_ok hC.1.1 e1
    obtain ⟨x2, p2, q2⟩ := xhi_ok hC.1.1 e2
    rw [ha] at p1 p2
    cases p1; cases p2
    cases h1 : xle 0 al with
    | true =>
      have h1 := xle_iff.mp h1
      have k := xb_shr (a := a) (b := b &&& 31) (by omega)
      exact xR_fr hC k.1 (by show (a >>> (b &&& 31)).toInt ≤ ah; omega)
    | false => exact xR_fi hC _
  · exact xR_fi hC _
theorem xo_any_ok (F : Int32 → Int32 → Int32) : xo2 xo_any F := by
  intro ρ C ea eb a b q hC ha hb h
  cases h
  exact xR_fi hC _
theorem xo_div_ok : xo2 xo_div (fun a b => a / b) ∧ ∀ (ρ : List Int) (C : xC) (ea eb : xl) (b : Int32) (q : xC × xl), xe ρ eb = some b.toInt → xo_div C ea eb = some q → b ≠ 0 := by
  constructor
  · intro ρ C ea eb a b q hC ha hb h
    simp only [xo_div] at h
    split at h
    · rename_i en
      have ez := xe_nil hb en
      cases h1 : xle 1 eb.1 with
      | false => rw [h1] at h; cases h
      | true =>
        rw [h1] at h
        simp only [cond_true, Option.some.injEq] at h
        subst h
        have h1 := xle_iff.mp h1
        split
        · rename_i al ah e1 e2
          obtain ⟨x1, p1, q1⟩ := xlo_ok hC.1.1 e1
          obtain ⟨x2, p2, q2⟩ := xhi_ok hC.1.1 e2
          rw [ha] at p1 p2
          cases p1; cases p2
          cases h2 : xle 0 al with
          | true =>
            have h2 := xle_iff.mp h2
            have k := xb_div (a := a) (b := b) (by omega) (by omega)
            refine xR_fr hC k.1 ?_
            show (a / b).toInt ≤ ah / eb.1
            rw [k.2, ez]
            exact Int.ediv_le_ediv (by omega) q2
          | false => exact xR_fi hC _
        · exact xR_fi hC _
    · cases h
  · intro ρ C ea eb b q hb h e0
    simp only [xo_div] at h
    split at h
    · rename_i en
      have ez := xe_nil hb en
      cases h1 : xle 1 eb.1 with
      | false => rw [h1] at h; cases h
      | true =>
        have h1 := xle_iff.mp h1
        rw [e0] at ez
        have : (0 : Int32).toInt = 0 := rfl
        omega
    · cases h
theorem xo_rem_ok : xo2 xo_rem (fun a b => a - a / b * b) ∧ ∀ (ρ : List Int) (C : xC) (ea eb : xl) (b : Int32) (q : xC × xl), xe ρ eb = some b.toInt → xo_rem C ea eb = some q → b ≠ 0 := by
  constructor
  · intro ρ C ea eb a b q hC ha hb h
    simp only [xo_rem] at h
    split at h
    · rename_i en
      have ez := xe_nil hb en
      cases h1 : xle 1 eb.1 with
      | false => rw [h1] at h; cases h
      | true =>
        rw [h1] at h
        simp only [cond_true, Option.some.injEq] at h
        subst h
        have h1 := xle_iff.mp h1
        split
        · rename_i al e1
          obtain ⟨x1, p1, q1⟩ := xlo_ok hC.1.1 e1
          rw [ha] at p1
          cases p1
          cases h2 : xle 0 al with
          | true =>
            have h2 := xle_iff.mp h2
            have k := xb_rem (a := a) (b := b) (by omega) (by omega)
            exact xR_fr hC k.1 (by show (a - a / b * b).toInt ≤ eb.1 - 1; omega)
          | false => exact xR_fi hC _
        · exact xR_fi hC _
    · cases h
  · intro ρ C ea eb b q hb h e0
    simp only [xo_rem] at h
    split at h
    · rename_i en
      have ez := xe_nil hb en
      cases h1 : xle 1 eb.1 with
      | false => rw [h1] at h; cases h
      | true =>
        have h1 := xle_iff.mp h1
        rw [e0] at ez
        have : (0 : Int32).toInt = 0 := rfl
        omega
    · cases h
