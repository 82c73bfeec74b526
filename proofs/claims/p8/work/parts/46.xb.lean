/-! Sixth part: jumps -/
def xop (o : Option xN) : List xN := match o with
  | some n => [n]
  | none => []
def xng (e : xl) : xl := xsc (.negSucc 0) e
def xm1 (e : xl) : xl := xpl (.negSucc 0) e
def xfk (n : xN) (e : xl) (c : Jvm.ClassFile.Cond) : List xN := match c with
  | .eq => (match xas n e with
    | some n1 => xop (xas n1 (xng e))
    | none => [])
  | .ne => xop (xas n (xm1 e)) ++ xop (xas n (xm1 (xng e)))
  | .lt => xop (xas n (xm1 (xng e)))
  | .ge => xop (xas n e)
  | .gt => xop (xas n (xm1 e))
  | .le => xop (xas n (xng e))
def xhd (c : Jvm.ClassFile.Cond) (z : Int) : Prop := match c with
  | .eq => z = 0
  | .ne => z ≠ 0
  | .lt => z < 0
  | .ge => 0 ≤ z
  | .gt => 0 < z
  | .le => z ≤ 0
def xopp (c : Jvm.ClassFile.Cond) : Jvm.ClassFile.Cond := match c with
  | .eq => .ne
  | .ne => .eq
  | .lt => .ge
  | .ge => .lt
  | .gt => .le
  | .le => .gt
theorem xe_ng {ρ : List Int} {e : xl} {z : Int} (h : xe ρ e = some z) : xe ρ (xng e) = some (-z) := by
  have := xe_sc (.negSucc 0) h
  rw [show Int.negSucc 0 * z = -z from by show (-1) * z = -z; omega] at this
  exact this
theorem xe_m1 {ρ : List Int} {e : xl} {z : Int} (h : xe ρ e = some z) : xe ρ (xm1 e) = some (z - 1) := by
  have := xe_pl (.negSucc 0) h
  rw [show z + Int.negSucc 0 = z - 1 from by show z + (-1) = z - 1; omega] at this
  exact this
theorem xop_ok {ρ : List Int} {n : xN} {e : xl} {z : Int} (hn : xnok ρ n) (he : xe ρ e = some z) (h0 : 0 ≤ z) : ∃ n' ∈ xop (xas n e), xnok ρ n' := by
  obtain ⟨n', h1, h2⟩ := xas_ok hn he h0
  rw [h1]
  exact ⟨n', List.mem_singleton.mpr rfl, h2⟩
theorem xfk_ok {ρ : List Int} {n : xN} {e : xl} {z : Int} (hn : xnok ρ n) (he : xe ρ e = some z) {c : Jvm.ClassFile.Cond} (hc : xhd c z) : ∃ n' ∈ xfk n e c, xnok ρ n' := by
  cases c with
  | eq =>
    have hc : z = 0 := hc
    obtain ⟨n1, h1, h2⟩ := xas_ok hn he (by omega)
    simp only [xfk, h1]
    exact xop_ok h2 (xe_ng he) (by omega)
  | ne =>
    have hc : z ≠ 0 := hc
    simp only [xfk]
    by_cases h : 0 < z
    · obtain ⟨n', h1, h2⟩ := xop_ok hn (xe_m1 he) (by omega)
      exact ⟨n', List.mem_append_left _ h1, h2⟩
    · obtain ⟨n', h1, h2⟩ := xop_ok hn (xe_m1 (xe_ng he)) (by omega)
      exact ⟨n', List.mem_append_right _ h1, h2⟩
  | lt => have hc : z < 0 := hc; exact xop_ok hn (xe_m1 (xe_ng he)) (by omega)
  | ge => have hc : 0 ≤ z := hc; exact xop_ok hn he hc
  | gt => have hc : 0 < z := hc; exact xop_ok hn (xe_m1 he) (by omega)
  | le => have hc : z ≤ 0 := hc; exact xop_ok hn (xe_ng he) (by omega)
theorem xhd_opp (c : Jvm.ClassFile.Cond) (z : Int) : xhd c z ∨ xhd (xopp c) z := by
  cases c with
  | eq => show z = 0 ∨ z ≠ 0; omega
  | ne => show z ≠ 0 ∨ z = 0; omega
  | lt => show z < 0 ∨ 0 ≤ z; omega
  | ge => show 0 ≤ z ∨ z < 0; omega
  | gt => show 0 < z ∨ z ≤ 0; omega
  | le => show z ≤ 0 ∨ 0 < z; omega
theorem xhd_not {c : Jvm.ClassFile.Cond} {z : Int} (h : xhd (xopp c) z) : ¬ xhd c z := by
  cases c with
  | eq => have h : z ≠ 0 := h; exact h
  | ne => have h : z = 0 := h; show ¬ z ≠ 0; omega
  | lt => have h : 0 ≤ z := h; show ¬ z < 0; omega
  | ge => have h : z < 0 := h; show ¬ 0 ≤ z; omega
  | gt => have h : z ≤ 0 := h; show ¬ 0 < z; omega
  | le => have h : 0 < z := h; show ¬ z ≤ 0; omega
abbrev xBR : Type := xC × Nat × List xv
/-- both ways of a test of e against 0 -/
def xtw (C : xC) (e : xl) (c : Jvm.ClassFile.Cond) (t f : Nat) (st : List xv) : List xBR := (xfk C.1 e c).map (fun n => ((n, C.2), t, st)) ++ (xfk C.1 e (xopp c)).map (fun n => ((n, C.2), f, st))
theorem xtw_ok {ρ : List Int} {C : xC} {e : xl} {z : Int} (hC : xCok ρ C) (he : xe ρ e = some z) (c : Jvm.ClassFile.Cond) (t f : Nat) (st : List xv) {pc : Nat} (hp : pc = t ∧ xhd c z ∨ pc = f ∧ ¬ xhd c z) : ∃ s ∈ xtw C e c t f st, s.2.1 = pc ∧ xCok ρ s.1 ∧ s.2.2 = st := by
  rcases hp with ⟨rfl, h⟩ | ⟨rfl, h⟩
  · obtain ⟨n, h1, h2⟩ := xfk_ok hC.1 he h
    exact ⟨((n, C.2), pc, st), List.mem_append_left _ (List.mem_map.mpr ⟨n, h1, rfl⟩), rfl, ⟨h2, hC.2⟩, rfl⟩
  · obtain ⟨n, h1, h2⟩ := xfk_ok hC.1 he ((xhd_opp c z).resolve_left h)
    exact ⟨((n, C.2), pc, st), List.mem_append_right _ (List.mem_map.mpr ⟨n, h1, rfl⟩), rfl, ⟨h2, hC.2⟩, rfl⟩
def xtab (C : xC) (e : xl) (pc : Nat) (st : List xv) : Int → List Int → List xBR
  | _, [] => []
  | k, o :: t => (xfk C.1 (xpl (-k) e) .eq).map (fun n => ((n, C.2), ((pc : Int) + o).toNat, st)) ++ xtab C e pc st (k + 1) t
/-- a word -/
def xiw (a : xv) : Bool := match a.1 with
  | 5 => zm_isw a.2.2
  | 7 => true
  | _ => false
def xb (i : Jvm.ClassFile.Instr) (x : zm_X) (pc : Nat) (C : xC) (st : List xv) : Option (List xBR) := match i with
  | .goto _ => some [(C, x.1, st)]
  | .ifCond c _ => (match st with
    | a :: t => bif Nat.beq a.1 0 || Nat.beq a.1 6 then some (xtw C a.2.1 c x.1 (pc + 3) t) else none
    | _ => none)
  | .if_icmp c _ => (match st with
    | b :: a :: t => bif Nat.beq a.1 0 && Nat.beq b.1 0 then some (xtw C (xadd (.negSucc 0) a.2.1 b.2.1) c x.1 (pc + 3) t) else none
    | _ => none)
  | .if_acmp _ _ => (match st with
    | b :: a :: t => bif (Nat.ble 2 a.1 && Nat.ble a.1 4) && (Nat.ble 2 b.1 && Nat.ble b.1 4) then some [(C, x.1, t), (C, pc + 3, t)] else bif xiw a && xiw b then some [(C, x.1, t), (C, pc + 3, t)] else none
    | _ => none)
  | .ifnull _ => (match st with
    | a :: t => (match a.1 with
      | 2 => some [(C, x.1, t)]
      | 3 => some [(C, pc + 3, t)]
      | 4 => some [(C, pc + 3, t)]
      | 5 => some [(C, pc + 3, t)]
      | 7 => some [(C, pc + 3, t)]
      | _ => none)
    | _ => none)
  | .ifnonnull _ => (match st with
    | a :: t => (match a.1 with
      | 2 => some [(C, pc + 3, t)]
      | 3 => some [(C, x.1, t)]
      | 4 => some [(C, x.1, t)]
      | 5 => some [(C, x.1, t)]
      | 7 => some [(C, x.1, t)]
      | _ => none)
    | _ => none)
  | .tableswitch d lo hi offs => (match st with
    | a :: t => bif Nat.beq a.1 0 && decide (hi - lo + 1 = (offs.toList.length : Int)) then some (xtab C a.2.1 pc t lo offs.toList ++ ((xfk C.1 (xpl (-lo) a.2.1) .lt).map (fun n => ((n, C.2), ((pc : Int) + d).toNat, t)) ++ (xfk C.1 (xpl (-hi) a.2.1) .gt).map (fun n => ((n, C.2), ((pc : Int) + d).toNat, t)))) else none
    | _ => none)
  | _ => none
theorem xtab_ok {ρ : List Int} {C : xC} {e : xl} {z : Int} (hC : xCok ρ C) (he : xe ρ e = some z) (pc : Nat) (st : List xv) : ∀ {l : List Int} {k : Int} {i : Nat} {o : Int}, l[i]? = some o → z = k + i → ∃ s ∈ xtab C e pc st k l, s.2.1 = ((pc : Int) + o).toNat ∧ xCok ρ s.1 ∧ s.2.2 = st
  | [], k, i, o, h, _ => by simp at h
  | o' :: t, k, 0, o, h, hz => by
    simp only [List.getElem?_cons_zero, Option.some.injEq] at h
    subst h
    obtain ⟨n, h1, h2⟩ := xfk_ok (c := .eq) hC.1 (xe_pl (-k) he) (by show z + -k = 0; omega)
    exact ⟨_, List.mem_append_left _ (List.mem_map.mpr ⟨n, h1, rfl⟩), rfl, ⟨h2, hC.2⟩, rfl⟩
  | o' :: t, k, i + 1, o, h, hz => by
    rw [List.getElem?_cons_succ] at h
    obtain ⟨s, h1, h2⟩ := xtab_ok hC he pc st (k := k + 1) h (by omega)
    exact ⟨s, List.mem_append_right _ h1, h2⟩
theorem xsgn_hd (c : Jvm.ClassFile.Cond) (z : Int) (t f : Nat) : zm_if c (xsgn z) t f = t ∧ xhd c z ∨ zm_if c (xsgn z) t f = f ∧ ¬ xhd c z := by
  unfold xsgn
  by_cases h1 : z < 0
  · rw [if_pos h1]
    cases c with
    | eq => right; exact ⟨rfl, by show ¬ z = 0; omega⟩
    | ne => left; exact ⟨rfl, by show z ≠ 0; omega⟩
    | lt => left; exact ⟨rfl, h1⟩
    | ge => right; exact ⟨rfl, by show ¬ 0 ≤ z; omega⟩
    | gt => right; exact ⟨rfl, by show ¬ 0 < z; omega⟩
    | le => left; exact ⟨rfl, by show z ≤ 0; omega⟩
  · rw [if_neg h1]
    by_cases h2 : z = 0
    · rw [if_pos h2]
      cases c with
      | eq => left; exact ⟨rfl, h2⟩
      | ne => right; exact ⟨rfl, by show ¬ z ≠ 0; omega⟩
      | lt => right; exact ⟨rfl, h1⟩
      | ge => left; exact ⟨rfl, by show 0 ≤ z; omega⟩
      | gt => right; exact ⟨rfl, by show ¬ 0 < z; omega⟩
      | le => left; exact ⟨rfl, by show z ≤ 0; omega⟩
    · rw [if_neg h2]
      cases c with
      | eq => right; exact ⟨rfl, h2⟩
      | ne => left; exact ⟨rfl, h2⟩
      | lt => right; exact ⟨rfl, h1⟩
      | ge => left; exact ⟨rfl, by show 0 ≤ z; omega⟩
      | gt => left; exact ⟨rfl, by show 0 < z; omega⟩
      | le => right; exact ⟨rfl, by show ¬ z ≤ 0; omega⟩
theorem xic_hd (c : Jvm.ClassFile.Cond) (a b : Int32) (t f : Nat) : zm_ic c a b t f = t ∧ xhd c (a.toInt - b.toInt) ∨ zm_ic c a b t f = f ∧ ¬ xhd c (a.toInt - b.toInt) := by
  cases c with
  | eq =>
    by_cases h : a = b
    · left; subst h; exact ⟨if_pos rfl, by show a.toInt - a.toInt = 0; omega⟩
    · right; exact ⟨if_neg h, fun h2 => h (Int32.toInt_inj.mp (by have h2 : a.toInt - b.toInt = 0 := h2; omega))⟩
  | ne =>
    by_cases h : a = b
    · right; subst h; exact ⟨if_pos rfl, by show ¬ a.toInt - a.toInt ≠ 0; omega⟩
    · left; exact ⟨if_neg h, fun h2 => h (Int32.toInt_inj.mp (by have h2 : a.toInt - b.toInt = 0 := h2; omega))⟩
  | lt =>
    by_cases h : a < b
    · left; exact ⟨if_pos h, by have := Int32.lt_iff_toInt_lt.mp h; show a.toInt - b.toInt < 0; omega⟩
    · right; exact ⟨if_neg h, fun h2 => h (Int32.lt_iff_toInt_lt.mpr (by have h2 : a.toInt - b.toInt < 0 := h2; omega))⟩
  | ge =>
    by_cases h : b ≤ a
    · left; exact ⟨if_pos h, by have := Int32.le_iff_toInt_le.mp h; show 0 ≤ a.toInt - b.toInt; omega⟩
    · right; exact ⟨if_neg h, fun h2 => h (Int32.le_iff_toInt_le.mpr (by have h2 : 0 ≤ a.toInt - b.toInt := h2; omega))⟩
  | gt =>
    by_cases h : b < a
    · left; exact ⟨if_pos h, by have := Int32.lt_iff_toInt_lt.mp h; show 0 < a.toInt - b.toInt; omega⟩
    · right; exact ⟨if_neg h, fun h2 => h (Int32.lt_iff_toInt_lt.mpr (by have h2 : 0 < a.toInt - b.toInt := h2; omega))⟩
  | le =>
    by_cases h : a ≤ b
    · left; exact ⟨if_pos h, by have := Int32.le_iff_toInt_le.mp h; show a.toInt - b.toInt ≤ 0; omega⟩
    · right; exact ⟨if_neg h, fun h2 => h (Int32.le_iff_toInt_le.mpr (by have h2 : a.toInt - b.toInt ≤ 0 := h2; omega))⟩
theorem xif_hd (c : Jvm.ClassFile.Cond) (a : Int32) (t f : Nat) : zm_if c a t f = t ∧ xhd c a.toInt ∨ zm_if c a t f = f ∧ ¬ xhd c a.toInt := by
  have e : zm_if c a t f = zm_ic c a 0 t f := by cases c <;> rfl
  have := xic_hd c a 0 t f
  rw [e]
  have e0 : a.toInt - (0 : Int32).toInt = a.toInt := by
    have : (0 : Int32).toInt = 0 := rfl
    omega
  rwa [e0] at this
/-- where a jump goes -/
def xB (ρ : List Int) (σ : List Nat) (l : List xBR) (z : Option (Nat × List Value)) : Prop := ∃ (pc : Nat) (sc : List Value), z = some (pc, sc) ∧ ∃ s ∈ l, s.2.1 = pc ∧ xCok ρ s.1 ∧ xsk ρ σ s.2.2 sc
section XBK
variable {ρ : List Int} {σ : List Nat} {C : xC} {st : List xv} {sc : List Value} {l : List xBR} {x : zm_X} {pc : Nat}
theorem xc_rf {a : xv} {v : Value} (h : xc ρ σ a v) (ht : (Nat.ble 2 a.1 && Nat.ble a.1 4) = true) : ∃ o, zm_rf v = some o := by
  obtain ⟨t, e, n⟩ := a
  simp only [Bool.and_eq_true, Nat.ble_eq] at ht
  rcases (show t = 2 ∨ t = 3 ∨ t = 4 by omega) with rfl | rfl | rfl
  · have h : v = .null := h; subst h; exact ⟨none, rfl⟩
  · have h : v = .ref n := h; subst h; exact ⟨some n, rfl⟩
  · obtain ⟨b, -, rfl⟩ := h; exact ⟨some b, rfl⟩
theorem xiw_ok {a : xv} {v : Value} (h : xc ρ σ a v) (ht : xiw a = true) : ∃ j, v = .retAddr j ∧ zm_isw j = true := by
  obtain ⟨t, e, n⟩ := a
  unfold xiw at ht
  split at ht
  · rename_i h2; have h2 : t = 5 := h2; subst h2; exact ⟨n, h, ht⟩
  · rename_i h2; have h2 : t = 7 := h2; subst h2; obtain ⟨x, j, -, h3, rfl⟩ := h; exact ⟨j, rfl, xw_is h3⟩
  · cases ht
theorem xac2 (c : Jvm.ClassFile.ACond) (oa ob : Option Nat) (t f : Nat) : zm_ac c oa ob t f = t ∨ zm_ac c oa ob t f = f := by
  cases c with
  | eq => by_cases h : oa = ob
          · left; exact if_pos h
          · right; exact if_neg h
  | ne => by_cases h : oa = ob
          · right; exact if_pos h
          · left; exact if_neg h
theorem xc_rf2 {a : xv} {v : Value} (h : xc ρ σ a v) (ht : (Nat.ble 2 a.1 && Nat.ble a.1 4) = true) : ∀ j, v ≠ .retAddr j := by
  obtain ⟨t, e, n⟩ := a
  simp only [Bool.and_eq_true, Nat.ble_eq] at ht
  rcases (show t = 2 ∨ t = 3 ∨ t = 4 by omega) with rfl | rfl | rfl
  · have h : v = .null := h; subst h; intro j z; cases z
  · have h : v = .ref n := h; subst h; intro j z; cases z
  · obtain ⟨b, -, rfl⟩ := h; intro j z; cases z
theorem xb_ok {i : Jvm.ClassFile.Instr} (hC : xCok ρ C) (hs : xsk ρ σ st sc) (h : xb i x pc C st = some l) : xB ρ σ l (zm_br i x pc sc) := by
  cases i with
  | goto k =>
    cases h
    exact ⟨x.1, sc, rfl, _, List.mem_singleton.mpr rfl, rfl, hC, hs⟩
  | ifCond c k =>
    simp only [xb] at h
    split at h
    · rename_i a t
      obtain ⟨v, s, rfl, hc, hs'⟩ := xsk_cons hs
      cases h1 : Nat.beq a.1 0 || Nat.beq a.1 6 with
      | false => rw [h1] at h; cases h
      | true =>
        rw [h1] at h
        cases h
        obtain ⟨tg, e, n⟩ := a
        rcases Bool.or_eq_true_iff.mp h1 with h2 | h2
        · obtain ⟨i, rfl, he⟩ := xc_i hc h2
          obtain ⟨s1, k1, k2, k3, k4⟩ := xtw_ok hC he c x.1 (pc + 3) t (xif_hd c i x.1 (pc + 3))
          exact ⟨_, s, rfl, s1, k1, k2, k3, by rw [k4]; exact hs'⟩
        · have h2 : tg = 6 := Nat.eq_of_beq_eq_true h2
          subst h2
          obtain ⟨z, rfl, he⟩ := hc
          obtain ⟨s1, k1, k2, k3, k4⟩ := xtw_ok hC he c x.1 (pc + 3) t (xsgn_hd c z x.1 (pc + 3))
          exact ⟨_, s, rfl, s1, k1, k2, k3, by rw [k4]; exact hs'⟩
    · cases h
  | if_icmp c k =>
    simp only [xb] at h
    split at h
    · rename_i b a t
      obtain ⟨vb, s1, rfl, hb, hs1⟩ := xsk_cons hs
      obtain ⟨va, s2, rfl, ha, hs2⟩ := xsk_cons hs1
      cases ht : Nat.beq a.1 0 && Nat.beq b.1 0 with
      | false => rw [ht] at h; cases h
      | true =>
        rw [ht] at h
        simp only [Bool.and_eq_true] at ht
        cases h
        obtain ⟨ia, rfl, ea⟩ := xc_i ha ht.1
        obtain ⟨ib, rfl, eb⟩ := xc_i hb ht.2
        have he := xe_add (k := .negSucc 0) ea eb
        rw [show ia.toInt + Int.negSucc 0 * ib.toInt = ia.toInt - ib.toInt from by show ia.toInt + (-1) * ib.toInt = _; omega] at he
        obtain ⟨s3, k1, k2, k3, k4⟩ := xtw_ok hC he c x.1 (pc + 3) t (xic_hd c ia ib x.1 (pc + 3))
        exact ⟨_, s2, rfl, s3, k1, k2, k3, by rw [k4]; exact hs2⟩
    · cases h
  | if_acmp c k =>
    simp only [xb] at h
    split at h
    · rename_i b a t
      obtain ⟨vb, s1, rfl, hb, hs1⟩ := xsk_cons hs
      obtain ⟨va, s2, rfl, ha, hs2⟩ := xsk_cons hs1
      cases ht : (Nat.ble 2 a.1 && Nat.ble a.1 4) && (Nat.ble 2 b.1 && Nat.ble b.1 4) with
      | false =>
        rw [ht] at h
        simp only [cond_false] at h
        cases hw : xiw a && xiw b with
        | false => rw [hw] at h; cases h
        | true =>
          rw [hw] at h
          cases h
          obtain ⟨h1, h2⟩ := Bool.and_eq_true_iff.mp hw
          obtain ⟨ja, rfl, wa⟩ := xiw_ok ha h1
          obtain ⟨jb, rfl, wb⟩ := xiw_ok hb h2
          have e : zm_br (.if_acmp c k) x pc (.retAddr jb :: .retAddr ja :: s2) = some (zm_ac c (some ja) (some jb) x.1 (pc + 3), s2) := by
            simp only [zm_br, wa, wb, Bool.and_self, cond_true]
          rw [e]
          rcases xac2 c (some ja) (some jb) x.1 (pc + 3) with hz | hz
          · exact ⟨_, s2, rfl, _, List.mem_cons_self, hz.symm, hC, hs2⟩
          · exact ⟨_, s2, rfl, _, List.mem_cons_of_mem _ (List.mem_singleton.mpr rfl), hz.symm, hC, hs2⟩
      | true =>
        rw [ht] at h
        cases h
        obtain ⟨h1, h2⟩ := Bool.and_eq_true_iff.mp ht
        obtain ⟨oa, ea⟩ := xc_rf ha h1
        obtain ⟨ob, eb⟩ := xc_rf hb h2
        have e : zm_br (.if_acmp c k) x pc (vb :: va :: s2) = some (zm_ac c oa ob x.1 (pc + 3), s2) := by
          have nb := xc_rf2 hb h2
          cases vb with
          | retAddr j => exact absurd rfl (nb j)
          | _ => simp only [zm_br, ea, eb]
        rw [e]
        have hz : zm_ac c oa ob x.1 (pc + 3) = x.1 ∨ zm_ac c oa ob x.1 (pc + 3) = pc + 3 := by
          cases c with
          | eq => by_cases h : oa = ob
                  · left; exact if_pos h
                  · right; exact if_neg h
          | ne => by_cases h : oa = ob
                  · right; exact if_pos h
                  · left; exact if_neg h
        rcases hz with hz | hz
        · exact ⟨_, s2, rfl, _, List.mem_cons_self, hz.symm, hC, hs2⟩
        · exact ⟨_, s2, rfl, _, List.mem_cons_of_mem _ (List.mem_singleton.mpr rfl), hz.symm, hC, hs2⟩
    · cases h
  | ifnull k =>
    simp only [xb] at h
    split at h
    · rename_i a t
      obtain ⟨v, s, rfl, hc, hs'⟩ := xsk_cons hs
      obtain ⟨tg, e, n⟩ := a
      split at h
      · rename_i h2; have h2 : tg = 2 := h2; subst h2; cases h; have hc : v = .null := hc; subst hc
        exact ⟨_, s, rfl, _, List.mem_singleton.mpr rfl, rfl, hC, hs'⟩
      · rename_i h2; have h2 : tg = 3 := h2; subst h2; cases h; have hc : v = .ref n := hc; subst hc
        exact ⟨_, s, rfl, _, List.mem_singleton.mpr rfl, rfl, hC, hs'⟩
      · rename_i h2; have h2 : tg = 4 := h2; subst h2; cases h; obtain ⟨b, -, rfl⟩ := hc
        exact ⟨_, s, rfl, _, List.mem_singleton.mpr rfl, rfl, hC, hs'⟩
      · rename_i h2; have h2 : tg = 5 := h2; subst h2; cases h; have hc : v = .retAddr n := hc; subst hc
        exact ⟨_, s, rfl, _, List.mem_singleton.mpr rfl, rfl, hC, hs'⟩
      · rename_i h2; have h2 : tg = 7 := h2; subst h2; cases h; obtain ⟨b, j, -, -, rfl⟩ := hc
        exact ⟨_, s, rfl, _, List.mem_singleton.mpr rfl, rfl, hC, hs'⟩
      · cases h
    · cases h
  | ifnonnull k =>
    simp only [xb] at h
    split at h
    · rename_i a t
      obtain ⟨v, s, rfl, hc, hs'⟩ := xsk_cons hs
      obtain ⟨tg, e, n⟩ := a
      split at h
      · rename_i h2; have h2 : tg = 2 := h2; subst h2; cases h; have hc : v = .null := hc; subst hc
        exact ⟨_, s, rfl, _, List.mem_singleton.mpr rfl, rfl, hC, hs'⟩
      · rename_i h2; have h2 : tg = 3 := h2; subst h2; cases h; have hc : v = .ref n := hc; subst hc
        exact ⟨_, s, rfl, _, List.mem_singleton.mpr rfl, rfl, hC, hs'⟩
      · rename_i h2; have h2 : tg = 4 := h2; subst h2; cases h; obtain ⟨b, -, rfl⟩ := hc
        exact ⟨_, s, rfl, _, List.mem_singleton.mpr rfl, rfl, hC, hs'⟩
      · rename_i h2; have h2 : tg = 5 := h2; subst h2; cases h; have hc : v = .retAddr n := hc; subst hc
        exact ⟨_, s, rfl, _, List.mem_singleton.mpr rfl, rfl, hC, hs'⟩
      · rename_i h2; have h2 : tg = 7 := h2; subst h2; cases h; obtain ⟨b, j, -, -, rfl⟩ := hc
        exact ⟨_, s, rfl, _, List.mem_singleton.mpr rfl, rfl, hC, hs'⟩
      · cases h
    · cases h
  | tableswitch d lo hi offs =>
    simp only [xb] at h
    split at h
    · rename_i a t
      obtain ⟨v, s, rfl, hc, hs'⟩ := xsk_cons hs
      cases h1 : Nat.beq a.1 0 && decide (hi - lo + 1 = (offs.toList.length : Int)) with
      | false => rw [h1] at h; cases h
      | true =>
        rw [h1] at h
        cases h
        obtain ⟨h2, h3⟩ := Bool.and_eq_true_iff.mp h1
        have h3 := of_decide_eq_true h3
        obtain ⟨j, rfl, he⟩ := xc_i hc h2
        show xB ρ σ _ (some (zm_tab pc d lo hi offs j, s))
        unfold zm_tab
        by_cases hd : j.toInt < lo ∨ hi < j.toInt
        · rw [if_pos hd]
          rcases hd with hd | hd
          · obtain ⟨n, k1, k2⟩ := xfk_ok (c := .lt) hC.1 (xe_pl (-lo) he) (by show j.toInt + -lo < 0; omega)
            exact ⟨_, s, rfl, _, List.mem_append_right _ (List.mem_append_left _ (List.mem_map.mpr ⟨n, k1, rfl⟩)), rfl, ⟨k2, hC.2⟩, hs'⟩
          · obtain ⟨n, k1, k2⟩ := xfk_ok (c := .gt) hC.1 (xe_pl (-hi) he) (by show 0 < j.toInt + -hi; omega)
            exact ⟨_, s, rfl, _, List.mem_append_right _ (List.mem_append_right _ (List.mem_map.mpr ⟨n, k1, rfl⟩)), rfl, ⟨k2, hC.2⟩, hs'⟩
        · rw [if_neg hd]
          have hlt : (j.toInt - lo).toNat < offs.toList.length := by omega
          have hg : offs.toList[(j.toInt - lo).toNat]? = some offs.toList[(j.toInt - lo).toNat] := List.getElem?_eq_getElem hlt
          have hg2 : offs[(j.toInt - lo).toNat]? = some offs.toList[(j.toInt - lo).toNat] := by
            rw [← Array.getElem?_toList]; exact hg
          rw [hg2]
          obtain ⟨s1, k1, k2, k3, k4⟩ := xtab_ok hC he pc t hg (k := lo) (by omega)
          exact ⟨_, s, rfl, s1, List.mem_append_left _ k1, k2, k3, by rw [k4]; exact hs'⟩
    · cases h
  | _ => cases h
end XBK
