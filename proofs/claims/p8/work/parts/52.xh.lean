/-! Eleventh part: Math; all that touches the heap -/
theorem xmax_l (a b : Int) : a ≤ xmax a b := by
  unfold xmax
  cases hh : xle a b with
  | true => exact xle_iff.mp hh
  | false => exact Int.le_refl _
theorem xmax_r (a b : Int) : b ≤ xmax a b := by
  unfold xmax
  cases hh : xle a b with
  | true => exact Int.le_refl _
  | false =>
    have : ¬ a ≤ b := fun h => by rw [xle_iff.mpr h] at hh; cases hh
    show b ≤ a
    omega
theorem xmin_l (a b : Int) : xmin a b ≤ a := by
  unfold xmin
  cases hh : xle a b with
  | true => exact Int.le_refl _
  | false =>
    have : ¬ a ≤ b := fun h => by rw [xle_iff.mpr h] at hh; cases hh
    show b ≤ a
    omega
theorem xmin_r (a b : Int) : xmin a b ≤ b := by
  unfold xmin
  cases hh : xle a b with
  | true => exact xle_iff.mp hh
  | false => exact Int.le_refl _
/-- the greater, or the lesser, of two -/
def xmm (f : Int → Int → Int) (C : xC) (a b : xl) : Option (xC × xl) := match xlo C.1.1 a, xhi C.1.1 a, xlo C.1.1 b, xhi C.1.1 b with
  | some al, some ah, some bl, some bh => bif xle (f ah bh) (f al bl) then some (C, xk (f al bl)) else some (xfr C (f al bl) (f ah bh))
  | _, _, _, _ => none
theorem xmm_max {ρ : List Int} {C : xC} {a b : xl} {x y z : Int} {q : xC × xl} (hC : xCok ρ C) (ha : xe ρ a = some x) (hb : xe ρ b = some y) (hz : z = x ∧ y ≤ x ∨ z = y ∧ x ≤ y) (h : xmm xmax C a b = some q) : xR ρ q z := by
  unfold xmm at h
  split at h
  · rename_i al ah bl bh e1 e2 e3 e4
    obtain ⟨x1, p1, q1⟩ := xlo_ok hC.1.1 e1
    obtain ⟨x2, p2, q2⟩ := xhi_ok hC.1.1 e2
    obtain ⟨x3, p3, q3⟩ := xlo_ok hC.1.1 e3
    obtain ⟨x4, p4, q4⟩ := xhi_ok hC.1.1 e4
    rw [ha] at p1 p2
    rw [hb] at p3 p4
    cases p1; cases p2; cases p3; cases p4
    have m1 := xmax_l ah bh
    have m2 := xmax_r ah bh
    have hlo : xmax al bl ≤ z := xmax_ok (by omega) (by omega)
    have hhi : z ≤ xmax ah bh := by omega
    cases hc : xle (xmax ah bh) (xmax al bl) with
    | true =>
      rw [hc] at h
      cases h
      have hc := xle_iff.mp hc
      have e : xmax al bl = z := by omega
      rw [e]
      exact xR_id hC (xe_k z)
    | false =>
      rw [hc] at h
      cases h
      exact xR_fr hC hlo hhi
  · cases h
theorem xmm_min {ρ : List Int} {C : xC} {a b : xl} {x y z : Int} {q : xC × xl} (hC : xCok ρ C) (ha : xe ρ a = some x) (hb : xe ρ b = some y) (hz : z = x ∧ x ≤ y ∨ z = y ∧ y ≤ x) (h : xmm xmin C a b = some q) : xR ρ q z := by
  unfold xmm at h
  split at h
  · rename_i al ah bl bh e1 e2 e3 e4
    obtain ⟨x1, p1, q1⟩ := xlo_ok hC.1.1 e1
    obtain ⟨x2, p2, q2⟩ := xhi_ok hC.1.1 e2
    obtain ⟨x3, p3, q3⟩ := xlo_ok hC.1.1 e3
    obtain ⟨x4, p4, q4⟩ := xhi_ok hC.1.1 e4
    rw [ha] at p1 p2
    rw [hb] at p3 p4
    cases p1; cases p2; cases p3; cases p4
    have m1 := xmin_l al bl
    have m2 := xmin_r al bl
    have hlo : xmin al bl ≤ z := by omega
    have hhi : z ≤ xmin ah bh := xmin_ok (by omega) (by omega)
    cases hc : xle (xmin ah bh) (xmin al bl) with
    | true =>
      rw [hc] at h
      cases h
      have hc := xle_iff.mp hc
      have e : xmin al bl = z := by omega
      rw [e]
      exact xR_id hC (xe_k z)
    | false =>
      rw [hc] at h
      cases h
      exact xR_fr hC hlo hhi
  · cases h
/-- without its sign -/
def xabs (lo hi : Int) (C : xC) (a : xl) : xC × xl := match xlo C.1.1 a, xhi C.1.1 a with
  | some al, some ah => bif xle 0 al then (C, a) else bif xle (lo + 1) al then xfr C 0 (xmax (-al) ah) else xfr C lo hi
  | _, _ => xfr C lo hi
theorem xabs_ok {ρ : List Int} {C : xC} {a : xl} {lo hi x z : Int} (hC : xCok ρ C) (ha : xe ρ a = some x) (hz : lo ≤ z ∧ z ≤ hi) (h0 : 0 ≤ x → z = x) (h1 : lo + 1 ≤ x → x < 0 → z = -x) : xR ρ (xabs lo hi C a) z := by
  unfold xabs
  split
  · rename_i al ah e1 e2
    obtain ⟨x1, p1, q1⟩ := xlo_ok hC.1.1 e1
    obtain ⟨x2, p2, q2⟩ := xhi_ok hC.1.1 e2
    rw [ha] at p1 p2
    cases p1; cases p2
    cases h2 : xle 0 al with
    | true =>
      have h2 := xle_iff.mp h2
      rw [h0 (by omega)]
      exact xR_id hC ha
    | false =>
      simp only [cond_false]
      cases h3 : xle (lo + 1) al with
      | true =>
        have h3 := xle_iff.mp h3
        have m1 := xmax_l (-al) ah
        have m2 := xmax_r (-al) ah
        simp only [cond_true]
        by_cases hx : 0 ≤ x
        · rw [h0 hx]
          exact xR_fr hC hx (by omega)
        · rw [h1 (by omega) (by omega)]
          exact xR_fr hC (by omega) (by omega)
      | false => exact xR_fr hC hz.1 hz.2
  · exact xR_fr hC hz.1 hz.2
/-- where one is surely the greater, it itself -/
def xmx (C : xC) (a b : xl) : Option (xC × xl) := match xlo C.1.1 a, xhi C.1.1 a, xlo C.1.1 b, xhi C.1.1 b with
  | some al, some ah, some bl, some bh => bif xle bh al then some (C, a) else bif xle ah bl then some (C, b) else xmm xmax C a b
  | _, _, _, _ => none
def xmn (C : xC) (a b : xl) : Option (xC × xl) := match xlo C.1.1 a, xhi C.1.1 a, xlo C.1.1 b, xhi C.1.1 b with
  | some al, some ah, some bl, some bh => bif xle ah bl then some (C, a) else bif xle bh al then some (C, b) else xmm xmin C a b
  | _, _, _, _ => none
theorem xmx_ok {ρ : List Int} {C : xC} {a b : xl} {x y z : Int} {q : xC × xl} (hC : xCok ρ C) (ha : xe ρ a = some x) (hb : xe ρ b = some y) (hz : z = x ∧ y ≤ x ∨ z = y ∧ x ≤ y) (h : xmx C a b = some q) : xR ρ q z := by
  unfold xmx at h
  split at h
  · rename_i al ah bl bh e1 e2 e3 e4
    obtain ⟨x1, p1, q1⟩ := xlo_ok hC.1.1 e1
    obtain ⟨x2, p2, q2⟩ := xhi_ok hC.1.1 e2
    obtain ⟨x3, p3, q3⟩ := xlo_ok hC.1.1 e3
    obtain ⟨x4, p4, q4⟩ := xhi_ok hC.1.1 e4
    rw [ha] at p1 p2
    rw [hb] at p3 p4
    cases p1; cases p2; cases p3; cases p4
    cases h1 : xle bh al with
    | true =>
      rw [h1] at h
      cases h
      have h1 := xle_iff.mp h1
      have e : z = x := by omega
      rw [e]
      exact xR_id hC ha
    | false =>
      rw [h1] at h
      simp only [cond_false] at h
      cases h2 : xle ah bl with
      | true =>
        rw [h2] at h
        cases h
        have h2 := xle_iff.mp h2
        have e : z = y := by omega
        rw [e]
        exact xR_id hC hb
      | false =>
        rw [h2] at h
        exact xmm_max hC ha hb hz h
  · cases h
theorem xmn_ok {ρ : List Int} {C : xC} {a b : xl} {x y z : Int} {q : xC × xl} (hC : xCok ρ C) (ha : xe ρ a = some x) (hb : xe ρ b = some y) (hz : z = x ∧ x ≤ y ∨ z = y ∧ y ≤ x) (h : xmn C a b = some q) : xR ρ q z := by
  unfold xmn at h
  split at h
  · rename_i al ah bl bh e1 e2 e3 e4
    obtain ⟨x1, p1, q1⟩ := xlo_ok hC.1.1 e1
    obtain ⟨x2, p2, q2⟩ := xhi_ok hC.1.1 e2
    obtain ⟨x3, p3, q3⟩ := xlo_ok hC.1.1 e3
    obtain ⟨x4, p4, q4⟩ := xhi_ok hC.1.1 e4
    rw [ha] at p1 p2
    rw [hb] at p3 p4
    cases p1; cases p2; cases p3; cases p4
    cases h1 : xle ah bl with
    | true =>
      rw [h1] at h
      cases h
      have h1 := xle_iff.mp h1
      have e : z = x := by omega
      rw [e]
      exact xR_id hC ha
    | false =>
      rw [h1] at h
      simp only [cond_false] at h
      cases h2 : xle bh al with
      | true =>
        rw [h2] at h
        cases h
        have h2 := xle_iff.mp h2
        have e : z = y := by omega
        rw [e]
        exact xR_id hC hb
      | false =>
        rw [h2] at h
        exact xmm_min hC ha hb hz h
  · cases h
def xmath (c : Nat) (D : xD) (st : List xv) : Option (List xHS) := match c with
  | 1 => (match st with
    | b :: a :: t => bif Nat.beq a.1 0 && Nat.beq b.1 0 && Nat.ble (xcat t + 2) 8 then (match xmx D.1 a.2.1 b.2.1 with
      | some q => some [(xwC D q.1, xi q.2 :: t)]
      | none => none) else none
    | _ => none)
  | 2 => (match st with
    | b :: a :: t => bif Nat.beq a.1 0 && Nat.beq b.1 0 && Nat.ble (xcat t + 2) 8 then (match xmn D.1 a.2.1 b.2.1 with
      | some q => some [(xwC D q.1, xi q.2 :: t)]
      | none => none) else none
    | _ => none)
  | 3 => (match st with
    | a :: t => bif Nat.beq a.1 0 && Nat.ble (xcat t + 2) 8 then (let q := xabs xI32a xI32b D.1 a.2.1; some [(xwC D q.1, xi q.2 :: t)]) else none
    | _ => none)
  | 4 => (match st with
    | b :: a :: t => bif Nat.beq a.1 1 && Nat.beq b.1 1 && Nat.ble (xcat t + 2) 8 then (match xmx D.1 a.2.1 b.2.1 with
      | some q => some [(xwC D q.1, xL q.2 :: t)]
      | none => none) else none
    | _ => none)
  | 5 => (match st with
    | b :: a :: t => bif Nat.beq a.1 1 && Nat.beq b.1 1 && Nat.ble (xcat t + 2) 8 then (match xmn D.1 a.2.1 b.2.1 with
      | some q => some [(xwC D q.1, xL q.2 :: t)]
      | none => none) else none
    | _ => none)
  | 6 => (match st with
    | a :: t => bif Nat.beq a.1 1 && Nat.ble (xcat t + 2) 8 then (let q := xabs xI64a xI64b D.1 a.2.1; some [(xwC D q.1, xL q.2 :: t)]) else none
    | _ => none)
  | _ => none
section XMA
variable {ρ : List Int} {σ τ : List Nat} {h : zm_H} {D : xD} {st : List xv} {sc : List Value} {l : List xHS} {df : Nat → List Value} {og : Nat → Option zm_C}
theorem xmath_z {x : zm_X} {i : Nat} {sc' : List Value} (h1 : zm_math x.2.2.1 sc = some sc') (h2 : zm_cat sc' ≤ 8) : zm_hp df og (.invokestatic i) x sc h = some (sc', h) := by
  have h7 : Nat.beq x.2.2.1 7 = false := by
    cases e : Nat.beq x.2.2.1 7 with
    | false => rfl
    | true => rw [Nat.eq_of_beq_eq_true e] at h1; cases h1
  simp only [zm_hp, h7, h1, Nat.ble_eq_true_of_le h2, cond_true, cond_false]
theorem xmath_r {q : xC × xl} {z : Int} {f : xl → xv} {t : List xv} {s : List Value} {w : Value} (hD : xdok ρ σ τ h D) (hq : xR ρ q z) (hs : xsk ρ σ t s) (hw : ∀ r, xe (ρ ++ r) q.2 = some z → xc (ρ ++ r) σ (f q.2) w) : xLR ρ σ τ h D.2.2.2.2 [(xwC D q.1, f q.2 :: t)] (some (w :: s, h)) := by
  obtain ⟨r, h1, h2⟩ := hq
  refine ⟨_, rfl, _, List.mem_singleton.mpr rfl, r, [], ?_, ?_, rfl⟩
  · have e : σ ++ [] = σ := List.append_nil σ
    rw [e]
    refine ⟨h1, hD.2.1, ?_, ?_⟩
    · have := xmo_mono (r := r) (s := []) hD.2.2.1
      rwa [e] at this
    · have := xmao_mono (r := r) (s := []) hD.2.2.2
      rwa [e] at this
  · have e : σ ++ [] = σ := List.append_nil σ
    rw [e]
    exact ⟨hw r h2, xsk_m hs⟩
theorem xb_neg32 {i : Int32} (h : xI32a + 1 ≤ i.toInt) : (0 - i).toInt = -i.toInt := by
  have hr := xb_rng i
  rw [Int32.toInt_sub]
  have e0 : (0 : Int32).toInt = 0 := rfl
  have e1 : xI32a = -2147483648 := rfl
  have e2 : xI32b = 2147483647 := rfl
  rw [e0, xb_bm32 (by omega) (by omega)]
  omega
theorem xb_neg64 {i : Int64} (h : xI64a + 1 ≤ i.toInt) : (-i).toInt = -i.toInt := by
  have hr := xb_rngL i
  rw [Int64.toInt_neg]
  have e1 : xI64a = -9223372036854775808 := rfl
  have e2 : xI64b = 9223372036854775807 := rfl
  rw [xb_bm64 (by omega) (by omega)]
theorem xmath_ok {x : zm_X} {i : Nat} (hD : xdok ρ σ τ h D) (hs : xsk ρ σ st sc) (hx : xmath x.2.2.1 D st = some l) : xLR ρ σ τ h D.2.2.2.2 l (zm_hp df og (.invokestatic i) x sc h) := by
  unfold xmath at hx
  split at hx
  · rename_i hc
    split at hx
    · rename_i b a t
      obtain ⟨wb, s1, rfl, hb, hs1⟩ := xsk_cons hs
      obtain ⟨wa, s, rfl, ha, hs'⟩ := xsk_cons hs1
      cases h1 : Nat.beq a.1 0 && Nat.beq b.1 0 && Nat.ble (xcat t + 2) 8 with
      | false => rw [h1] at hx; cases hx
      | true =>
        rw [h1] at hx
        simp only [Bool.and_eq_true] at h1
        obtain ⟨ia, rfl, ea⟩ := xc_i ha h1.1.1
        obtain ⟨ib, rfl, eb⟩ := xc_i hb h1.1.2
        simp only [cond_true] at hx
        split at hx
        · rename_i q hq
          cases hx
          have hcat := xcat_ok hs'
          have hle := Nat.le_of_ble_eq_true h1.2
          rw [xmath_z (sc' := .int (if ia < ib then ib else ia) :: s) (by rw [hc]; rfl) (by show 1 + zm_cat s ≤ 8; omega)]
          refine xmath_r (f := xi) hD (xmx_ok hD.1 ea eb (z := (if ia < ib then ib else ia).toInt) ?_ hq) hs' (fun r hr => ⟨_, rfl, hr⟩)
          by_cases hlt : ia < ib
          · have := Int32.lt_iff_toInt_lt.mp hlt
            rw [if_pos hlt]; right; exact ⟨rfl, by omega⟩
          · have : ¬ ia.toInt < ib.toInt := fun h => hlt (Int32.lt_iff_toInt_lt.mpr h)
            rw [if_neg hlt]; left; exact ⟨rfl, by omega⟩
        · cases hx
    · cases hx
  · rename_i hc
    split at hx
    · rename_i b a t
      obtain ⟨wb, s1, rfl, hb, hs1⟩ := xsk_cons hs
      obtain ⟨wa, s, rfl, ha, hs'⟩ := xsk_cons hs1
      cases h1 : Nat.beq a.1 0 && Nat.beq b.1 0 && Nat.ble (xcat t + 2) 8 with
      | false => rw [h1] at hx; cases hx
      | true =>
        rw [h1] at hx
        simp only [Bool.and_eq_true] at h1
        obtain ⟨ia, rfl, ea⟩ := xc_i ha h1.1.1
        obtain ⟨ib, rfl, eb⟩ := xc_i hb h1.1.2
        simp only [cond_true] at hx
        split at hx
        · rename_i q hq
          cases hx
          have hcat := xcat_ok hs'
          have hle := Nat.le_of_ble_eq_true h1.2
          rw [xmath_z (sc' := .int (if ib < ia then ib else ia) :: s) (by rw [hc]; rfl) (by show 1 + zm_cat s ≤ 8; omega)]
          refine xmath_r (f := xi) hD (xmn_ok hD.1 ea eb (z := (if ib < ia then ib else ia).toInt) ?_ hq) hs' (fun r hr => ⟨_, rfl, hr⟩)
          by_cases hlt : ib < ia
          · have := Int32.lt_iff_toInt_lt.mp hlt
            rw [if_pos hlt]; right; exact ⟨rfl, by omega⟩
          · have : ¬ ib.toInt < ia.toInt := fun h => hlt (Int32.lt_iff_toInt_lt.mpr h)
            rw [if_neg hlt]; left; exact ⟨rfl, by omega⟩
        · cases hx
    · cases hx
  · rename_i hc
    split at hx
    · rename_i a t
      obtain ⟨wa, s, rfl, ha, hs'⟩ := xsk_cons hs
      cases h1 : Nat.beq a.1 0 && Nat.ble (xcat t + 2) 8 with
      | false => rw [h1] at hx; cases hx
      | true =>
        rw [h1] at hx
        simp only [Bool.and_eq_true] at h1
        obtain ⟨ia, rfl, ea⟩ := xc_i ha h1.1
        cases hx
        have hcat := xcat_ok hs'
        have hle := Nat.le_of_ble_eq_true h1.2
        rw [xmath_z (sc' := .int (if 0 ≤ ia then ia else 0 - ia) :: s) (by rw [hc]; rfl) (by show 1 + zm_cat s ≤ 8; omega)]
        refine xmath_r (f := xi) hD (xabs_ok hD.1 ea (z := (if 0 ≤ ia then ia else 0 - ia).toInt) (xb_rng _) (fun h0 => ?_) (fun h0 h2 => ?_)) hs' (fun r hr => ⟨_, rfl, hr⟩)
        · rw [if_pos (show (0 : Int32) ≤ ia from Int32.le_iff_toInt_le.mpr (show (0 : Int32).toInt ≤ ia.toInt from h0))]
        · rw [if_neg (fun h => by have := Int32.le_iff_toInt_le.mp h; have e0 : (0 : Int32).toInt = 0 := rfl; omega)]
          exact xb_neg32 h0
    · cases hx
  · rename_i hc
    split at hx
    · rename_i b a t
      obtain ⟨wb, s1, rfl, hb, hs1⟩ := xsk_cons hs
      obtain ⟨wa, s, rfl, ha, hs'⟩ := xsk_cons hs1
      cases h1 : Nat.beq a.1 1 && Nat.beq b.1 1 && Nat.ble (xcat t + 2) 8 with
      | false => rw [h1] at hx; cases hx
      | true =>
        rw [h1] at hx
        simp only [Bool.and_eq_true] at h1
        obtain ⟨ia, rfl, ea⟩ := xc_L ha h1.1.1
        obtain ⟨ib, rfl, eb⟩ := xc_L hb h1.1.2
        simp only [cond_true] at hx
        split at hx
        · rename_i q hq
          cases hx
          have hcat := xcat_ok hs'
          have hle := Nat.le_of_ble_eq_true h1.2
          rw [xmath_z (sc' := .long (if ib < ia then ia else ib) :: s) (by rw [hc]; rfl) (by show 2 + zm_cat s ≤ 8; omega)]
          refine xmath_r (f := xL) hD (xmx_ok hD.1 ea eb (z := (if ib < ia then ia else ib).toInt) ?_ hq) hs' (fun r hr => ⟨_, rfl, hr⟩)
          by_cases hlt : ib < ia
          · have := Int64.lt_iff_toInt_lt.mp hlt
            rw [if_pos hlt]; left; exact ⟨rfl, by omega⟩
          · have : ¬ ib.toInt < ia.toInt := fun h => hlt (Int64.lt_iff_toInt_lt.mpr h)
            rw [if_neg hlt]; right; exact ⟨rfl, by omega⟩
        · cases hx
    · cases hx
  · rename_i hc
    split at hx
    · rename_i b a t
      obtain ⟨wb, s1, rfl, hb, hs1⟩ := xsk_cons hs
      obtain ⟨wa, s, rfl, ha, hs'⟩ := xsk_cons hs1
      cases h1 : Nat.beq a.1 1 && Nat.beq b.1 1 && Nat.ble (xcat t + 2) 8 with
      | false => rw [h1] at hx; cases hx
      | true =>
        rw [h1] at hx
        simp only [Bool.and_eq_true] at h1
        obtain ⟨ia, rfl, ea⟩ := xc_L ha h1.1.1
        obtain ⟨ib, rfl, eb⟩ := xc_L hb h1.1.2
        simp only [cond_true] at hx
        split at hx
        · rename_i q hq
          cases hx
          have hcat := xcat_ok hs'
          have hle := Nat.le_of_ble_eq_true h1.2
          rw [xmath_z (sc' := .long (if ib < ia then ib else ia) :: s) (by rw [hc]; rfl) (by show 2 + zm_cat s ≤ 8; omega)]
          refine xmath_r (f := xL) hD (xmn_ok hD.1 ea eb (z := (if ib < ia then ib else ia).toInt) ?_ hq) hs' (fun r hr => ⟨_, rfl, hr⟩)
          by_cases hlt : ib < ia
          · have := Int64.lt_iff_toInt_lt.mp hlt
            rw [if_pos hlt]; right; exact ⟨rfl, by omega⟩
          · have : ¬ ib.toInt < ia.toInt := fun h => hlt (Int64.lt_iff_toInt_lt.mpr h)
            rw [if_neg hlt]; left; exact ⟨rfl, by omega⟩
        · cases hx
    · cases hx
  · rename_i hc
    split at hx
    · rename_i a t
      obtain ⟨wa, s, rfl, ha, hs'⟩ := xsk_cons hs
      cases h1 : Nat.beq a.1 1 && Nat.ble (xcat t + 2) 8 with
      | false => rw [h1] at hx; cases hx
      | true =>
        rw [h1] at hx
        simp only [Bool.and_eq_true] at h1
        obtain ⟨ia, rfl, ea⟩ := xc_L ha h1.1
        cases hx
        have hcat := xcat_ok hs'
        have hle := Nat.le_of_ble_eq_true h1.2
        rw [xmath_z (sc' := .long (if 0 < ia then ia else -ia) :: s) (by rw [hc]; rfl) (by show 2 + zm_cat s ≤ 8; omega)]
        have e0 : (0 : Int64).toInt = 0 := rfl
        refine xmath_r (f := xL) hD (xabs_ok hD.1 ea (z := (if 0 < ia then ia else -ia).toInt) (xb_rngL _) (fun h0 => ?_) (fun h0 h2 => ?_)) hs' (fun r hr => ⟨_, rfl, hr⟩)
        · by_cases hp : 0 < ia
          · rw [if_pos hp]
          · have hz : ia = 0 := by
              rw [← Int64.toInt_inj, e0]
              have : ¬ (0 : Int64).toInt < ia.toInt := fun h => hp (Int64.lt_iff_toInt_lt.mpr h)
              omega
            subst hz
            rfl
        · rw [if_neg (fun h => by have := Int64.lt_iff_toInt_lt.mp h; omega)]
          exact xb_neg64 h0
    · cases hx
  · cases hx
end XMA
def xh (V : xEnv) (MS : Nat → Nat → Bool) (mi pc : Nat) (i : Jvm.ClassFile.Instr) (x : zm_X) (D : xD) (st : List xv) : Option (List xHS) := match i with
  | .getfield _ => xgf V x D st
  | .putfield _ => xpf V MS x D st
  | .getstatic _ => (match x.2.2.2.1 with
    | .retAddr j => bif Nat.beq j 95 then some [(D, (5, xk 0, j) :: st), (D, (2, xk 0, 0) :: st)] else some [(D, (5, xk 0, j) :: st)]
    | .int i => some [(D, xi (xk i.toInt) :: st)]
    | _ => none)
  | .arraylength => xalen V D st
  | .iaload => xal V mi pc .iaload D st
  | .laload => xal V mi pc .laload D st
  | .baload => xal V mi pc .baload D st
  | .aaload => xal V mi pc .aaload D st
  | .iastore => xast V MS .iastore D st
  | .lastore => xast V MS .lastore D st
  | .bastore => xast V MS .bastore D st
  | .newarray _ => xnew V mi pc x D st
  | .invokestatic _ => bif Nat.beq x.2.2.1 7 then xcpy V MS D st else xmath x.2.2.1 D st
  | _ => none
section XHK
variable {ρ : List Int} {σ τ : List Nat} {h : zm_H} {V : xEnv} {X : List Nat → zm_H → Prop} {W : zm_H → Nat} {MS : Nat → Nat → Bool} {D : xD} {st : List xv} {sc : List Value} {l : List xHS} {df : Nat → List Value} {og : Nat → Option zm_C}
theorem xLR_W {z : Option (List Value × zm_H)} (hH : xHI V.1 V.2.1 τ h) (hX : X τ h) (hr : xLR ρ σ τ h D.2.2.2.2 l z) : xWR V X W MS ρ σ τ h D.2.2.2.2 l z := by
  obtain ⟨sc, h1, s, h2, r, s', h3, h4, h5⟩ := hr
  exact ⟨sc, h, τ, h1, hH, hX, xF_refl _ _ _, s, h2, r, s', h3, h4, by rw [h5]; exact Nat.le_refl _⟩
theorem xh_ok {x : zm_X} {mi pc : Nat} {i : Jvm.ClassFile.Instr} (hF : xFl_ok V X) (hX2 : xXW V X W) (hH : xHI V.1 V.2.1 τ h) (hX : X τ h) (hD : xdok ρ σ τ h D) (hs : xsk ρ σ st sc) (hx : xh V MS mi pc i x D st = some l) : xWR V X W MS ρ σ τ h D.2.2.2.2 l (zm_hp df og i x sc h) := by
  cases i with
  | getfield k => exact xLR_W hH hX (xgf_ok hH hD hs hx)
  | putfield k => exact xpf_ok hX2 hH hX hD hs hx
  | getstatic k =>
    simp only [xh] at hx
    split at hx
    · rename_i j hj
      refine xLR_W hH hX ?_
      cases h95 : Nat.beq j 95 with
      | true =>
        rw [h95] at hx
        cases hx
        have h95 := Nat.eq_of_beq_eq_true h95
        subst h95
        cases hog : og 95 with
        | none =>
          have e : zm_hp df og (.getstatic k) x sc h = some (.null :: sc, h) := by simp only [zm_hp, hj, zm_gs, hog]
          rw [e]
          exact xLR_id (s := (D, (2, xk 0, 0) :: st)) hD ⟨rfl, hs⟩ rfl (List.mem_cons_of_mem _ (List.mem_singleton.mpr rfl))
        | some c =>
          have e : zm_hp df og (.getstatic k) x sc h = some (.retAddr 95 :: sc, h) := by simp only [zm_hp, hj, zm_gs, hog]
          rw [e]
          exact xLR_id (s := (D, (5, xk 0, 95) :: st)) hD ⟨rfl, hs⟩ rfl List.mem_cons_self
      | false =>
        rw [h95] at hx
        cases hx
        have hne : ¬ j = 95 := fun e => by rw [e] at h95; cases h95
        have e : zm_hp df og (.getstatic k) x sc h = some (.retAddr j :: sc, h) := by
          have e2 : zm_gs og (.retAddr j) = .retAddr j := by
            unfold zm_gs
            split
            · rename_i z; exact absurd (Value.retAddr.inj z) hne
            · rfl
          simp only [zm_hp, hj, e2]
        rw [e]
        exact xLR_id (s := (D, (5, xk 0, j) :: st)) hD ⟨rfl, hs⟩ rfl (List.mem_singleton.mpr rfl)
    · rename_i j hj
      cases hx
      refine xLR_W hH hX ?_
      have e : zm_hp df og (.getstatic k) x sc h = some (.int j :: sc, h) := by simp only [zm_hp, hj, zm_gs]
      rw [e]
      exact xLR_id (s := (D, xi (xk j.toInt) :: st)) hD ⟨⟨j, rfl, xe_k _⟩, hs⟩ rfl (List.mem_singleton.mpr rfl)
    · cases hx
  | arraylength => exact xLR_W hH hX (xalen_ok hH hD hs hx)
  | iaload => exact xLR_W hH hX (xal_ok rfl hF hH hX hD hs hx)
  | laload => exact xLR_W hH hX (xal_ok rfl hF hH hX hD hs hx)
  | baload => exact xLR_W hH hX (xal_ok rfl hF hH hX hD hs hx)
  | aaload => exact xLR_W hH hX (xal_ok rfl hF hH hX hD hs hx)
  | iastore => exact xast_ok hX2 hH hX hD hs hx
  | lastore => exact xast_ok hX2 hH hX hD hs hx
  | bastore => exact xast_ok hX2 hH hX hD hs hx
  | newarray ty => exact xnew_ok hX2 hH hX hD hs hx
  | invokestatic k =>
    simp only [xh] at hx
    cases h7 : Nat.beq x.2.2.1 7 with
    | true =>
      rw [h7] at hx
      exact xcpy_ok h7 hX2 hH hX hD hs hx
    | false =>
      rw [h7] at hx
      exact xLR_W hH hX (xmath_ok hD hs hx)
  | _ => cases hx
end XHK
