/-! Fifth part: the instructions that need neither heap nor jump -/
abbrev xPR : Type := xC × xLS × List xv
def xP (ρ : List Int) (σ : List Nat) (q : xPR) (z : Option (zm_L × List Value)) : Prop := ∃ (r : List Int) (lc : zm_L) (sc : List Value), z = some (lc, sc) ∧ xCok (ρ ++ r) q.1 ∧ xlk (ρ ++ r) σ q.2.1 lc ∧ xsk (ρ ++ r) σ q.2.2 sc
theorem xlk_m {ρ r : List Int} {σ : List Nat} {ls : xLS} {lc : zm_L} (h : xlk ρ σ ls lc) : xlk (ρ ++ r) σ ls lc := by
  have := xlk_mono (r := r) (s := []) h
  rwa [List.append_nil] at this
theorem xsk_m {ρ r : List Int} {σ : List Nat} {st : List xv} {sc : List Value} (h : xsk ρ σ st sc) : xsk (ρ ++ r) σ st sc := by
  have := xsk_mono (r := r) (s := []) h
  rwa [List.append_nil] at this
theorem xc_m {ρ r : List Int} {σ : List Nat} {a : xv} {v : Value} (h : xc ρ σ a v) : xc (ρ ++ r) σ a v := by
  have := xc_mono (r := r) (s := []) h
  rwa [List.append_nil] at this
theorem xP_id {ρ : List Int} {σ : List Nat} {C : xC} {ls : xLS} {st : List xv} {lc : zm_L} {sc : List Value} (hC : xCok ρ C) (hl : xlk ρ σ ls lc) (hs : xsk ρ σ st sc) : xP ρ σ (C, ls, st) (some (lc, sc)) := ⟨[], lc, sc, rfl, by rw [List.append_nil]; exact ⟨hC, hl, hs⟩⟩
def xi (e : xl) : xv := (0, e, 0)
def xL (e : xl) : xv := (1, e, 0)
theorem xc_i {ρ : List Int} {σ : List Nat} {a : xv} {v : Value} (h : xc ρ σ a v) (ht : Nat.beq a.1 0 = true) : ∃ i : Int32, v = .int i ∧ xe ρ a.2.1 = some i.toInt := by
  obtain ⟨t, e, n⟩ := a
  have ht : t = 0 := Nat.eq_of_beq_eq_true ht
  subst ht
  exact h
theorem xc_L {ρ : List Int} {σ : List Nat} {a : xv} {v : Value} (h : xc ρ σ a v) (ht : Nat.beq a.1 1 = true) : ∃ i : Int64, v = .long i ∧ xe ρ a.2.1 = some i.toInt := by
  obtain ⟨t, e, n⟩ := a
  have ht : t = 1 := Nat.eq_of_beq_eq_true ht
  subst ht
  exact h
/-- a reference, null, or an old thing -/
def xir (a : xv) : Bool := match a.1 with
  | 2 => true
  | 3 => true
  | 4 => true
  | 5 => true
  | 7 => true
  | 8 => true
  | _ => false
theorem xc_r {ρ : List Int} {σ : List Nat} {a : xv} {v : Value} (h : xc ρ σ a v) (ht : xir a = true) : v = .null ∨ (∃ b, v = .ref b) ∨ ∃ j, v = .retAddr j := by
  obtain ⟨t, e, n⟩ := a
  unfold xir at ht
  split at ht
  · rename_i h2; have h2 : t = 2 := h2; subst h2; exact Or.inl h
  · rename_i h2; have h2 : t = 3 := h2; subst h2; exact Or.inr (Or.inl ⟨_, h⟩)
  · rename_i h2; have h2 : t = 4 := h2; subst h2; obtain ⟨b, -, hb⟩ := h; exact Or.inr (Or.inl ⟨b, hb⟩)
  · rename_i h2; have h2 : t = 5 := h2; subst h2; exact Or.inr (Or.inr ⟨_, h⟩)
  · rename_i h2; have h2 : t = 7 := h2; subst h2; obtain ⟨x, j, -, -, hb⟩ := h; exact Or.inr (Or.inr ⟨j, hb⟩)
  · rename_i h2; have h2 : t = 8 := h2; subst h2; obtain ⟨x, j, -, -, hb⟩ := h; exact Or.inr (Or.inr ⟨j, hb⟩)
  · cases ht
theorem xir_w2 {a : xv} (h : xir a = true) : xw2 a = false := by
  obtain ⟨t, e, n⟩ := a
  unfold xir at h
  split at h
  · rename_i h2; have h2 : t = 2 := h2; subst h2; rfl
  · rename_i h2; have h2 : t = 3 := h2; subst h2; rfl
  · rename_i h2; have h2 : t = 4 := h2; subst h2; rfl
  · rename_i h2; have h2 : t = 5 := h2; subst h2; rfl
  · rename_i h2; have h2 : t = 7 := h2; subst h2; rfl
  · rename_i h2; have h2 : t = 8 := h2; subst h2; rfl
  · cases h
def xpush (v : Value) (C : xC) (ls : xLS) (st : List xv) : Option xPR := match v with
  | .int i => some (C, ls, xi (xk i.toInt) :: st)
  | .long i => some (C, ls, xL (xk i.toInt) :: st)
  | .retAddr j => some (C, ls, (5, xk 0, j) :: st)
  | _ => none
def xldi (C : xC) (ls : xLS) (k : Nat) (st : List xv) : Option xPR := match xget ls k with
  | some a => bif Nat.beq a.1 0 then some (C, ls, a :: st) else none
  | none => none
def xldl (C : xC) (ls : xLS) (k : Nat) (st : List xv) : Option xPR := match xget ls k with
  | some a => bif Nat.beq a.1 1 then some (C, ls, a :: st) else none
  | none => none
def xlda (C : xC) (ls : xLS) (k : Nat) (st : List xv) : Option xPR := match xget ls k with
  | some a => bif xir a then some (C, ls, a :: st) else none
  | none => none
def xsti (C : xC) (ls : xLS) (k : Nat) (st : List xv) : Option xPR := match st with
  | a :: t => bif Nat.beq a.1 0 then some (C, xst ls k a, t) else none
  | [] => none
def xstl (C : xC) (ls : xLS) (k : Nat) (st : List xv) : Option xPR := match st with
  | a :: t => bif Nat.beq a.1 1 then some (C, xst ls k a, t) else none
  | [] => none
def xsta (C : xC) (ls : xLS) (k : Nat) (st : List xv) : Option xPR := match st with
  | a :: t => bif xir a then some (C, xst ls k a, t) else none
  | [] => none
def xiinc (x : zm_X) (C : xC) (ls : xLS) (k : Nat) (st : List xv) : Option xPR := match xget ls k, x.2.2.2.1 with
  | some a, .int c => bif Nat.beq a.1 0 then (let q := xci C (xpl c.toInt a.2.1); some (q.1, xst ls k (xi q.2), st)) else none
  | _, _ => none
def x2 (f : xO2) (C : xC) (ls : xLS) (st : List xv) : Option xPR := match st with
  | b :: a :: t => bif Nat.beq a.1 0 && Nat.beq b.1 0 then (match f C a.2.1 b.2.1 with
    | some q => some (q.1, ls, xi q.2 :: t)
    | none => none) else none
  | _ => none
def x1 (f : xC → xl → xC × xl) (C : xC) (ls : xLS) (st : List xv) : Option xPR := match st with
  | a :: t => bif Nat.beq a.1 0 then (let q := f C a.2.1; some (q.1, ls, xi q.2 :: t)) else none
  | _ => none
def x2L (f : xC → xl → xl → Option (xC × xl)) (C : xC) (ls : xLS) (st : List xv) : Option xPR := match st with
  | b :: a :: t => bif Nat.beq a.1 1 && Nat.beq b.1 1 then (match f C a.2.1 b.2.1 with
    | some q => some (q.1, ls, xL q.2 :: t)
    | none => none) else none
  | _ => none
def xneg : xC → xl → xC × xl := fun C e => xci C (xsc (.negSucc 0) e)
def xto (a b : Int) : xC → xl → xC × xl := fun C e => bif xbt C.1.1 a b e then (C, e) else xfr C a b
def xladd : xC → xl → xl → Option (xC × xl) := fun C a b => some (xcL C (xadd (.ofNat 1) a b))
def xlsub : xC → xl → xl → Option (xC × xl) := fun C a b => some (xcL C (xadd (.negSucc 0) a b))
def xlany : xC → xl → xl → Option (xC × xl) := fun C _ _ => some (xfL C)
def xldiv : xC → xl → xl → Option (xC × xl) := fun C _ b => match xlo C.1.1 b, xhi C.1.1 b with
  | some l, some h => bif xle 1 l || xle h (.negSucc 0) then some (xfL C) else none
  | _, _ => none
/-- the instructions -/
def xp (i : Jvm.ClassFile.Instr) (x : zm_X) (C : xC) (ls : xLS) (st : List xv) : Option xPR := match i with
  | .iconst _ => xpush x.2.2.2.1 C ls st
  | .bipush _ => xpush x.2.2.2.1 C ls st
  | .sipush _ => xpush x.2.2.2.1 C ls st
  | .lconst _ => xpush x.2.2.2.1 C ls st
  | .ldc _ => xpush x.2.2.2.1 C ls st
  | .ldc_w _ => xpush x.2.2.2.1 C ls st
  | .ldc2_w _ => xpush x.2.2.2.1 C ls st
  | .aconst_null => some (C, ls, (2, xk 0, 0) :: st)
  | .iload k => xldi C ls k st
  | .iload_n k => xldi C ls k.val st
  | .lload k => xldl C ls k st
  | .lload_n k => xldl C ls k.val st
  | .aload k => xlda C ls k st
  | .aload_n k => xlda C ls k.val st
  | .istore k => xsti C ls k st
  | .istore_n k => xsti C ls k.val st
  | .lstore k => xstl C ls k st
  | .lstore_n k => xstl C ls k.val st
  | .astore k => xsta C ls k st
  | .astore_n k => xsta C ls k.val st
  | .iinc k _ => xiinc x C ls k st
  | .iadd => x2 xo_add C ls st
  | .isub => x2 xo_sub C ls st
  | .imul => x2 xo_mul C ls st
  | .iand => x2 xo_and C ls st
  | .ior => x2 xo_or C ls st
  | .ixor => x2 xo_or C ls st
  | .ishl => x2 xo_shl C ls st
  | .ishr => x2 xo_shr C ls st
  | .iushr => x2 xo_any C ls st
  | .idiv => x2 xo_div C ls st
  | .irem => x2 xo_rem C ls st
  | .ineg => x1 xneg C ls st
  | .i2b => x1 (xto (.negSucc 127) (.ofNat 127)) C ls st
  | .i2s => x1 (xto (.negSucc 32767) (.ofNat 32767)) C ls st
  | .i2c => x1 (xto 0 (.ofNat 65535)) C ls st
  | .ladd => x2L xladd C ls st
  | .lsub => x2L xlsub C ls st
  | .lmul => x2L xlany C ls st
  | .land => x2L xlany C ls st
  | .lor => x2L xlany C ls st
  | .ldiv => x2L xldiv C ls st
  | .lneg => (match st with
    | a :: t => bif Nat.beq a.1 1 then (let q := xfL C; some (q.1, ls, xL q.2 :: t)) else none
    | _ => none)
  | .i2l => (match st with
    | a :: t => bif Nat.beq a.1 0 then some (C, ls, xL a.2.1 :: t) else none
    | _ => none)
  | .l2i => (match st with
    | a :: t => bif Nat.beq a.1 1 then (let q := xci C a.2.1; some (q.1, ls, xi q.2 :: t)) else none
    | _ => none)
  | .lcmp => (match st with
    | b :: a :: t => bif Nat.beq a.1 1 && Nat.beq b.1 1 then some (C, ls, (6, xadd (.negSucc 0) a.2.1 b.2.1, 0) :: t) else none
    | _ => none)
  | .lshl => (match st with
    | b :: a :: t => bif Nat.beq a.1 1 && Nat.beq b.1 0 then (let q := xfL C; some (q.1, ls, xL q.2 :: t)) else none
    | _ => none)
  | .dup => (match st with
    | a :: t => bif xw2 a then none else some (C, ls, a :: a :: t)
    | _ => none)
  | .dup_x1 => (match st with
    | a :: b :: t => bif xw2 a || xw2 b then none else some (C, ls, a :: b :: a :: t)
    | _ => none)
  | .dup2 => (match st with
    | a :: b :: t => bif xw2 a || xw2 b then none else some (C, ls, a :: b :: a :: b :: t)
    | _ => none)
  | .pop => (match st with
    | a :: t => bif xw2 a then none else some (C, ls, t)
    | _ => none)
  | .pop2 => (match st with
    | a :: t => bif xw2 a then some (C, ls, t) else none
    | _ => none)
  | _ => none
section XPU
variable {ρ : List Int} {σ : List Nat} {C : xC} {ls : xLS} {st : List xv} {lc : zm_L} {sc : List Value} {q : xPR}
theorem xpush_ok {v : Value} (hC : xCok ρ C) (hl : xlk ρ σ ls lc) (hs : xsk ρ σ st sc) (h : xpush v C ls st = some q) : xP ρ σ q (some (lc, v :: sc)) := by
  unfold xpush at h
  split at h
  · cases h; exact xP_id hC hl ⟨⟨_, rfl, xe_k _⟩, hs⟩
  · cases h; exact xP_id hC hl ⟨⟨_, rfl, xe_k _⟩, hs⟩
  · cases h; exact xP_id hC hl ⟨rfl, hs⟩
  · cases h
theorem xldi_ok {k : Nat} (hC : xCok ρ C) (hl : xlk ρ σ ls lc) (hs : xsk ρ σ st sc) (h : xldi C ls k st = some q) : xP ρ σ q (zm_ldi lc k sc) := by
  unfold xldi at h
  split at h
  · rename_i a ha
    obtain ⟨v, hv, hc⟩ := xget_ok hl ha
    cases ht : Nat.beq a.1 0 with
    | false => rw [ht] at h; cases h
    | true =>
      rw [ht] at h
      cases h
      obtain ⟨i, rfl, he⟩ := xc_i hc ht
      simp only [zm_ldi, hv]
      exact xP_id hC hl ⟨hc, hs⟩
  · cases h
theorem xldl_ok {k : Nat} (hC : xCok ρ C) (hl : xlk ρ σ ls lc) (hs : xsk ρ σ st sc) (h : xldl C ls k st = some q) : xP ρ σ q (zm_ldl lc k sc) := by
  unfold xldl at h
  split at h
  · rename_i a ha
    obtain ⟨v, hv, hc⟩ := xget_ok hl ha
    cases ht : Nat.beq a.1 1 with
    | false => rw [ht] at h; cases h
    | true =>
      rw [ht] at h
      cases h
      obtain ⟨i, rfl, he⟩ := xc_L hc ht
      simp only [zm_ldl, hv]
      exact xP_id hC hl ⟨hc, hs⟩
  · cases h
theorem xlda_ok {k : Nat} (hC : xCok ρ C) (hl : xlk ρ σ ls lc) (hs : xsk ρ σ st sc) (h : xlda C ls k st = some q) : xP ρ σ q (zm_lda lc k sc) := by
  unfold xlda at h
  split at h
  · rename_i a ha
    obtain ⟨v, hv, hc⟩ := xget_ok hl ha
    cases ht : xir a with
    | false => rw [ht] at h; cases h
    | true =>
      rw [ht] at h
      cases h
      rcases xc_r hc ht with rfl | ⟨b, rfl⟩ | ⟨j, rfl⟩
      · simp only [zm_lda, hv]; exact xP_id hC hl ⟨hc, hs⟩
      · simp only [zm_lda, hv]; exact xP_id hC hl ⟨hc, hs⟩
      · simp only [zm_lda, hv]; exact xP_id hC hl ⟨hc, hs⟩
  · cases h
theorem xw2_0 {a : xv} (ht : Nat.beq a.1 0 = true) : xw2 a = false := by
  unfold xw2
  rw [Nat.eq_of_beq_eq_true ht]
  rfl
theorem xsti_ok {k : Nat} (hC : xCok ρ C) (hl : xlk ρ σ ls lc) (hs : xsk ρ σ st sc) (h : xsti C ls k st = some q) : xP ρ σ q (zm_sti lc k sc) := by
  unfold xsti at h
  split at h
  · rename_i a t
    obtain ⟨v, s, rfl, hc, hs'⟩ := xsk_cons hs
    cases ht : Nat.beq a.1 0 with
    | false => rw [ht] at h; cases h
    | true =>
      rw [ht] at h
      cases h
      obtain ⟨i, rfl, he⟩ := xc_i hc ht
      exact xP_id hC (xst_ok1 hl hc (xw2_0 ht)) hs'
  · cases h
theorem xstl_ok {k : Nat} (hC : xCok ρ C) (hl : xlk ρ σ ls lc) (hs : xsk ρ σ st sc) (h : xstl C ls k st = some q) : xP ρ σ q (zm_stl lc k sc) := by
  unfold xstl at h
  split at h
  · rename_i a t
    obtain ⟨v, s, rfl, hc, hs'⟩ := xsk_cons hs
    cases ht : Nat.beq a.1 1 with
    | false => rw [ht] at h; cases h
    | true =>
      rw [ht] at h
      cases h
      obtain ⟨i, rfl, he⟩ := xc_L hc ht
      exact xP_id hC (xst_ok2 hl hc ht) hs'
  · cases h
theorem xsta_ok {k : Nat} (hC : xCok ρ C) (hl : xlk ρ σ ls lc) (hs : xsk ρ σ st sc) (h : xsta C ls k st = some q) : xP ρ σ q (zm_sta lc k sc) := by
  unfold xsta at h
  split at h
  · rename_i a t
    obtain ⟨v, s, rfl, hc, hs'⟩ := xsk_cons hs
    cases ht : xir a with
    | false => rw [ht] at h; cases h
    | true =>
      rw [ht] at h
      cases h
      rcases xc_r hc ht with rfl | ⟨b, rfl⟩ | ⟨j, rfl⟩
      · exact xP_id hC (xst_ok1 hl hc (xir_w2 ht)) hs'
      · exact xP_id hC (xst_ok1 hl hc (xir_w2 ht)) hs'
      · exact xP_id hC (xst_ok1 hl hc (xir_w2 ht)) hs'
  · cases h
theorem xP_R {lc' : zm_L} {v : xC × xl} {x : Int} {f : xl → xv} {t : List xv} {s : List Value} {w : Value} (hq : xR ρ v x) (hl : xlk ρ σ ls lc') (hs : xsk ρ σ t s) (hw : ∀ r, xe (ρ ++ r) v.2 = some x → xc (ρ ++ r) σ (f v.2) w) : xP ρ σ (v.1, ls, f v.2 :: t) (some (lc', w :: s)) := by
  obtain ⟨r, h1, h2⟩ := hq
  exact ⟨r, lc', w :: s, rfl, h1, xlk_m hl, hw r h2, xsk_m hs⟩
theorem xiinc_ok {x : zm_X} {k : Nat} (hC : xCok ρ C) (hl : xlk ρ σ ls lc) (hs : xsk ρ σ st sc) (h : xiinc x C ls k st = some q) : xP ρ σ q (zm_iinc x lc k sc) := by
  unfold xiinc at h
  split at h
  · rename_i a c ha hx
    obtain ⟨v, hv, hc⟩ := xget_ok hl ha
    cases ht : Nat.beq a.1 0 with
    | false => rw [ht] at h; cases h
    | true =>
      rw [ht] at h
      cases h
      obtain ⟨i, rfl, he⟩ := xc_i hc ht
      simp only [zm_iinc, hv, hx]
      obtain ⟨r, h1, h2⟩ := xci_ok (i := i + c) hC (xe_pl c.toInt he) (Int32.toInt_add i c)
      exact ⟨r, _, sc, rfl, h1, xst_ok1 (xlk_m hl) ⟨_, rfl, h2⟩ rfl, xsk_m hs⟩
  · cases h
theorem x2_ok {f : xO2} {F : Int32 → Int32 → Int32} (hF : xo2 f F) (hC : xCok ρ C) (hl : xlk ρ σ ls lc) (hs : xsk ρ σ st sc) (h : x2 f C ls st = some q) : xP ρ σ q (zm_ii F lc sc) := by
  unfold x2 at h
  split at h
  · rename_i b a t
    obtain ⟨vb, s1, rfl, hb, hs1⟩ := xsk_cons hs
    obtain ⟨va, s2, rfl, ha, hs2⟩ := xsk_cons hs1
    cases ht : Nat.beq a.1 0 && Nat.beq b.1 0 with
    | false => rw [ht] at h; cases h
    | true =>
      rw [ht] at h
      simp only [Bool.and_eq_true] at ht
      simp only [cond_true] at h
      split at h
      · rename_i v hv
        cases h
        obtain ⟨ia, rfl, ea⟩ := xc_i ha ht.1
        obtain ⟨ib, rfl, eb⟩ := xc_i hb ht.2
        exact xP_R (f := xi) (hF ρ C _ _ ia ib v hC ea eb hv) hl hs2 (fun r hr => ⟨_, rfl, hr⟩)
      · cases h
  · cases h
theorem x2z_ok {f : xO2} {F : Int32 → Int32 → Int32} (hF : xo2 f F) (hz : ∀ (ρ : List Int) (C : xC) (ea eb : xl) (b : Int32) (q : xC × xl), xe ρ eb = some b.toInt → f C ea eb = some q → b ≠ 0) (hC : xCok ρ C) (hl : xlk ρ σ ls lc) (hs : xsk ρ σ st sc) (h : x2 f C ls st = some q) : xP ρ σ q (zm_iz F lc sc) := by
  unfold x2 at h
  split at h
  · rename_i b a t
    obtain ⟨vb, s1, rfl, hb, hs1⟩ := xsk_cons hs
    obtain ⟨va, s2, rfl, ha, hs2⟩ := xsk_cons hs1
    cases ht : Nat.beq a.1 0 && Nat.beq b.1 0 with
    | false => rw [ht] at h; cases h
    | true =>
      rw [ht] at h
      simp only [Bool.and_eq_true] at ht
      simp only [cond_true] at h
      split at h
      · rename_i v hv
        cases h
        obtain ⟨ia, rfl, ea⟩ := xc_i ha ht.1
        obtain ⟨ib, rfl, eb⟩ := xc_i hb ht.2
        simp only [zm_iz, if_neg (hz ρ C _ _ ib v eb hv)]
        exact xP_R (f := xi) (hF ρ C _ _ ia ib v hC ea eb hv) hl hs2 (fun r hr => ⟨_, rfl, hr⟩)
      · cases h
  · cases h
theorem x1_ok {f : xC → xl → xC × xl} {F : Int32 → Int32} (hF : ∀ (ρ : List Int) (C : xC) (e : xl) (a : Int32), xCok ρ C → xe ρ e = some a.toInt → xR ρ (f C e) (F a).toInt) (hC : xCok ρ C) (hl : xlk ρ σ ls lc) (hs : xsk ρ σ st sc) (h : x1 f C ls st = some q) : xP ρ σ q (zm_i F lc sc) := by
  unfold x1 at h
  split at h
  · rename_i a t
    obtain ⟨va, s2, rfl, ha, hs2⟩ := xsk_cons hs
    cases ht : Nat.beq a.1 0 with
    | false => rw [ht] at h; cases h
    | true =>
      rw [ht] at h
      cases h
      obtain ⟨ia, rfl, ea⟩ := xc_i ha ht
      exact xP_R (f := xi) (hF ρ C _ ia hC ea) hl hs2 (fun r hr => ⟨_, rfl, hr⟩)
  · cases h
theorem x2L_ok {f : xC → xl → xl → Option (xC × xl)} {F : Int64 → Int64 → Int64} (hF : ∀ (ρ : List Int) (C : xC) (ea eb : xl) (a b : Int64) (q : xC × xl), xCok ρ C → xe ρ ea = some a.toInt → xe ρ eb = some b.toInt → f C ea eb = some q → xR ρ q (F a b).toInt) (hC : xCok ρ C) (hl : xlk ρ σ ls lc) (hs : xsk ρ σ st sc) (h : x2L f C ls st = some q) : xP ρ σ q (zm_ll F lc sc) := by
  unfold x2L at h
  split at h
  · rename_i b a t
    obtain ⟨vb, s1, rfl, hb, hs1⟩ := xsk_cons hs
    obtain ⟨va, s2, rfl, ha, hs2⟩ := xsk_cons hs1
    cases ht : Nat.beq a.1 1 && Nat.beq b.1 1 with
    | false => rw [ht] at h; cases h
    | true =>
      rw [ht] at h
      simp only [Bool.and_eq_true] at ht
      simp only [cond_true] at h
      split at h
      · rename_i v hv
        cases h
        obtain ⟨ia, rfl, ea⟩ := xc_L ha ht.1
        obtain ⟨ib, rfl, eb⟩ := xc_L hb ht.2
        exact xP_R (f := xL) (hF ρ C _ _ ia ib v hC ea eb hv) hl hs2 (fun r hr => ⟨_, rfl, hr⟩)
      · cases h
  · cases h
theorem x2Lz_ok {F : Int64 → Int64 → Int64} (hC : xCok ρ C) (hl : xlk ρ σ ls lc) (hs : xsk ρ σ st sc) (h : x2L xldiv C ls st = some q) : xP ρ σ q (zm_lz F lc sc) := by
  unfold x2L at h
  split at h
  · rename_i b a t
    obtain ⟨vb, s1, rfl, hb, hs1⟩ := xsk_cons hs
    obtain ⟨va, s2, rfl, ha, hs2⟩ := xsk_cons hs1
    cases ht : Nat.beq a.1 1 && Nat.beq b.1 1 with
    | false => rw [ht] at h; cases h
    | true =>
      rw [ht] at h
      simp only [Bool.and_eq_true] at ht
      simp only [cond_true] at h
      split at h
      · rename_i v hv
        cases h
        obtain ⟨ia, rfl, ea⟩ := xc_L ha ht.1
        obtain ⟨ib, rfl, eb⟩ := xc_L hb ht.2
        unfold xldiv at hv
        split at hv
        · rename_i l u hl2 hu
          obtain ⟨y1, p1, q1⟩ := xlo_ok hC.1.1 hl2
          obtain ⟨y2, p2, q2⟩ := xhi_ok hC.1.1 hu
          rw [eb] at p1 p2
          cases p1; cases p2
          cases hh : xle 1 l || xle u (.negSucc 0) with
          | false => rw [hh] at hv; cases hv
          | true =>
            rw [hh] at hv
            cases hv
            have hne : ib ≠ 0 := by
              rintro rfl
              have e0 : (0 : Int64).toInt = 0 := rfl
              simp only [Bool.or_eq_true, xle_iff] at hh
              have e1 : (Int.negSucc 0) = -1 := rfl
              omega
            simp only [zm_lz, if_neg hne]
            exact xP_R (f := xL) (xR_fL hC _) hl hs2 (fun r hr => ⟨_, rfl, hr⟩)
        · cases hv
      · cases h
  · cases h
end XPU
