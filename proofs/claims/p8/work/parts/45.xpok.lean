/-! The instructions that need neither heap nor jump are followed rightly -/
theorem xneg_ok : ∀ (ρ : List Int) (C : xC) (e : xl) (a : Int32), xCok ρ C → xe ρ e = some a.toInt → xR ρ (xneg C e) (-a).toInt := by
  intro ρ C e a hC he
  refine xci_ok hC (xe_sc _ he) ?_
  rw [Int32.toInt_neg]
  congr 1
  show _ = (-1) * a.toInt
  omega
theorem xto_ok {lo hi : Int} {F : Int32 → Int32} (hF : ∀ a : Int32, lo ≤ (F a).toInt ∧ (F a).toInt ≤ hi ∧ (lo ≤ a.toInt → a.toInt ≤ hi → (F a).toInt = a.toInt)) : ∀ (ρ : List Int) (C : xC) (e : xl) (a : Int32), xCok ρ C → xe ρ e = some a.toInt → xR ρ (xto lo hi C e) (F a).toInt := by
  intro ρ C e a hC he
  obtain ⟨h1, h2, h3⟩ := hF a
  unfold xto
  cases hb : xbt C.1.1 lo hi e with
  | true =>
    obtain ⟨k1, k2⟩ := xbt_ok hC.1.1 hb he
    rw [h3 k1 k2]
    exact xR_id hC he
  | false => exact xR_fr hC h1 h2
theorem xb_bm {z : Int} {n : Nat} (h : 0 < n) : -(n : Int) ≤ z.bmod (2 * n) ∧ z.bmod (2 * n) ≤ (n : Int) - 1 ∧ (-(n : Int) ≤ z → z ≤ (n : Int) - 1 → z.bmod (2 * n) = z) := by
  have h1 := Int.le_bmod (x := z) (m := 2 * n) (by omega)
  have h2 := Int.bmod_lt (x := z) (m := 2 * n) (by omega)
  refine ⟨by omega, by omega, fun a b => ?_⟩
  apply Int.bmod_eq_of_le <;> omega
theorem xi2b_ok (a : Int32) : Int.negSucc 127 ≤ (a.toInt8.toInt32).toInt ∧ (a.toInt8.toInt32).toInt ≤ Int.ofNat 127 ∧ (Int.negSucc 127 ≤ a.toInt → a.toInt ≤ Int.ofNat 127 → (a.toInt8.toInt32).toInt = a.toInt) := by
  rw [xb_i2b]
  exact xb_bm (n := 128) (by decide)
theorem xi2s_ok (a : Int32) : Int.negSucc 32767 ≤ (a.toInt16.toInt32).toInt ∧ (a.toInt16.toInt32).toInt ≤ Int.ofNat 32767 ∧ (Int.negSucc 32767 ≤ a.toInt → a.toInt ≤ Int.ofNat 32767 → (a.toInt16.toInt32).toInt = a.toInt) := by
  rw [xb_i2s]
  exact xb_bm (n := 32768) (by decide)
theorem xladd_ok : ∀ (ρ : List Int) (C : xC) (ea eb : xl) (a b : Int64) (q : xC × xl), xCok ρ C → xe ρ ea = some a.toInt → xe ρ eb = some b.toInt → xladd C ea eb = some q → xR ρ q (a + b).toInt := by
  intro ρ C ea eb a b q hC ha hb h
  cases h
  refine xcL_ok hC (xe_add ha hb) ?_
  rw [Int64.toInt_add]
  congr 1
  show _ = a.toInt + 1 * b.toInt
  omega
theorem xlsub_ok : ∀ (ρ : List Int) (C : xC) (ea eb : xl) (a b : Int64) (q : xC × xl), xCok ρ C → xe ρ ea = some a.toInt → xe ρ eb = some b.toInt → xlsub C ea eb = some q → xR ρ q (a - b).toInt := by
  intro ρ C ea eb a b q hC ha hb h
  cases h
  refine xcL_ok hC (xe_add ha hb) ?_
  rw [Int64.toInt_sub]
  congr 1
  show _ = a.toInt + (-1) * b.toInt
  omega
theorem xlany_ok (F : Int64 → Int64 → Int64) : ∀ (ρ : List Int) (C : xC) (ea eb : xl) (a b : Int64) (q : xC × xl), xCok ρ C → xe ρ ea = some a.toInt → xe ρ eb = some b.toInt → xlany C ea eb = some q → xR ρ q (F a b).toInt := by
  intro ρ C ea eb a b q hC ha hb h
  cases h
  exact xR_fL hC _
theorem xcmp_sgn (a b : Int64) : lg_cmp a b = xsgn (a.toInt + Int.negSucc 0 * b.toInt) := by
  have e : a.toInt + Int.negSucc 0 * b.toInt = a.toInt - b.toInt := by
    show a.toInt + (-1) * b.toInt = _
    omega
  rw [e]
  unfold lg_cmp xsgn
  by_cases h1 : a > b
  · have h1' : b.toInt < a.toInt := Int64.lt_iff_toInt_lt.mp h1
    rw [if_pos h1, if_neg (by omega), if_neg (by omega)]
  · have h1' : ¬ b.toInt < a.toInt := fun h => h1 (Int64.lt_iff_toInt_lt.mpr h)
    rw [if_neg h1]
    by_cases h2 : a = b
    · subst h2
      rw [if_pos rfl, if_neg (by omega), if_pos (by omega)]
    · have h2' : a.toInt ≠ b.toInt := fun h => h2 (Int64.toInt_inj.mp h)
      rw [if_neg h2, if_pos (by omega)]
section XPK
variable {ρ : List Int} {σ : List Nat} {C : xC} {ls : xLS} {st : List xv} {lc : zm_L} {sc : List Value} {q : xPR} {x : zm_X}
theorem xw2_cat {a : xv} {v : Value} (h : xc ρ σ a v) (hw : xw2 a = false) : Nat.beq v.category 1 = true := by
  rw [xc_cat h, hw]
  rfl
theorem xw2_cat2 {a : xv} {v : Value} (h : xc ρ σ a v) (hw : xw2 a = true) : Nat.beq v.category 2 = true := by
  rw [xc_cat h, hw]
  rfl
theorem xp_lneg (hC : xCok ρ C) (hl : xlk ρ σ ls lc) (hs : xsk ρ σ st sc) (h : xp .lneg x C ls st = some q) : xP ρ σ q (zm_pure .lneg x lc sc) := by
  simp only [xp] at h
  split at h
  · rename_i a t
    obtain ⟨v, s, rfl, hc, hs'⟩ := xsk_cons hs
    cases ht : Nat.beq a.1 1 with
    | false => rw [ht] at h; cases h
    | true =>
      rw [ht] at h
      cases h
      obtain ⟨i, rfl, he⟩ := xc_L hc ht
      exact xP_R (f := xL) (xR_fL hC _) hl hs' (fun r hr => ⟨_, rfl, hr⟩)
  · cases h
theorem xp_i2l (hC : xCok ρ C) (hl : xlk ρ σ ls lc) (hs : xsk ρ σ st sc) (h : xp .i2l x C ls st = some q) : xP ρ σ q (zm_pure .i2l x lc sc) := by
  simp only [xp] at h
  split at h
  · rename_i a t
    obtain ⟨v, s, rfl, hc, hs'⟩ := xsk_cons hs
    cases ht : Nat.beq a.1 0 with
    | false => rw [ht] at h; cases h
    | true =>
      rw [ht] at h
      cases h
      obtain ⟨i, rfl, he⟩ := xc_i hc ht
      exact xP_id hC hl ⟨⟨_, rfl, by rw [Int32.toInt_toInt64]; exact he⟩, hs'⟩
  · cases h
theorem xp_l2i (hC : xCok ρ C) (hl : xlk ρ σ ls lc) (hs : xsk ρ σ st sc) (h : xp .l2i x C ls st = some q) : xP ρ σ q (zm_pure .l2i x lc sc) := by
  simp only [xp] at h
  split at h
  · rename_i a t
    obtain ⟨v, s, rfl, hc, hs'⟩ := xsk_cons hs
    cases ht : Nat.beq a.1 1 with
    | false => rw [ht] at h; cases h
    | true =>
      rw [ht] at h
      cases h
      obtain ⟨i, rfl, he⟩ := xc_L hc ht
      exact xP_R (f := xi) (xci_ok hC he (Int64.toInt_toInt32 i)) hl hs' (fun r hr => ⟨_, rfl, hr⟩)
  · cases h
theorem xp_lcmp (hC : xCok ρ C) (hl : xlk ρ σ ls lc) (hs : xsk ρ σ st sc) (h : xp .lcmp x C ls st = some q) : xP ρ σ q (zm_pure .lcmp x lc sc) := by
  simp only [xp] at h
  split at h
  · rename_i b a t
    obtain ⟨vb, s1, rfl, hb, hs1⟩ := xsk_cons hs
    obtain ⟨va, s2, rfl, ha, hs2⟩ := xsk_cons hs1
    cases ht : Nat.beq a.1 1 && Nat.beq b.1 1 with
    | false => rw [ht] at h; cases h
    | true =>
      rw [ht] at h
      simp only [Bool.and_eq_true] at ht
      cases h
      obtain ⟨ia, rfl, ea⟩ := xc_L ha ht.1
      obtain ⟨ib, rfl, eb⟩ := xc_L hb ht.2
      refine xP_id hC hl ⟨⟨_, ?_, xe_add ea eb⟩, hs2⟩
      show Value.int (lg_cmp ia ib) = _
      rw [xcmp_sgn]
  · cases h
theorem xp_lshl (hC : xCok ρ C) (hl : xlk ρ σ ls lc) (hs : xsk ρ σ st sc) (h : xp .lshl x C ls st = some q) : xP ρ σ q (zm_pure .lshl x lc sc) := by
  simp only [xp] at h
  split at h
  · rename_i b a t
    obtain ⟨vb, s1, rfl, hb, hs1⟩ := xsk_cons hs
    obtain ⟨va, s2, rfl, ha, hs2⟩ := xsk_cons hs1
    cases ht : Nat.beq a.1 1 && Nat.beq b.1 0 with
    | false => rw [ht] at h; cases h
    | true =>
      rw [ht] at h
      simp only [Bool.and_eq_true] at ht
      cases h
      obtain ⟨ia, rfl, ea⟩ := xc_L ha ht.1
      obtain ⟨ib, rfl, eb⟩ := xc_i hb ht.2
      exact xP_R (f := xL) (xR_fL hC _) hl hs2 (fun r hr => ⟨_, rfl, hr⟩)
  · cases h
theorem xp_dup (hC : xCok ρ C) (hl : xlk ρ σ ls lc) (hs : xsk ρ σ st sc) (h : xp .dup x C ls st = some q) : xP ρ σ q (zm_pure .dup x lc sc) := by
  simp only [xp] at h
  split at h
  · rename_i a t
    obtain ⟨v, s, rfl, hc, hs'⟩ := xsk_cons hs
    cases ht : xw2 a with
    | true => rw [ht] at h; cases h
    | false =>
      rw [ht] at h
      cases h
      simp only [zm_pure, zm_dup, xw2_cat hc ht, cond_true]
      exact xP_id hC hl ⟨hc, hc, hs'⟩
  · cases h
theorem xp_dx1 (hC : xCok ρ C) (hl : xlk ρ σ ls lc) (hs : xsk ρ σ st sc) (h : xp .dup_x1 x C ls st = some q) : xP ρ σ q (zm_pure .dup_x1 x lc sc) := by
  simp only [xp] at h
  split at h
  · rename_i a b t
    obtain ⟨va, s1, rfl, ha, hs1⟩ := xsk_cons hs
    obtain ⟨vb, s2, rfl, hb, hs2⟩ := xsk_cons hs1
    cases ht : xw2 a || xw2 b with
    | true => rw [ht] at h; cases h
    | false =>
      rw [ht] at h
      cases h
      obtain ⟨h1, h2⟩ := Bool.or_eq_false_iff.mp ht
      simp only [zm_pure, zm_dx1, xw2_cat ha h1, xw2_cat hb h2, Bool.and_self, cond_true]
      exact xP_id hC hl ⟨ha, hb, ha, hs2⟩
  · cases h
theorem xp_dup2 (hC : xCok ρ C) (hl : xlk ρ σ ls lc) (hs : xsk ρ σ st sc) (h : xp .dup2 x C ls st = some q) : xP ρ σ q (zm_pure .dup2 x lc sc) := by
  simp only [xp] at h
  split at h
  · rename_i a b t
    obtain ⟨va, s1, rfl, ha, hs1⟩ := xsk_cons hs
    obtain ⟨vb, s2, rfl, hb, hs2⟩ := xsk_cons hs1
    cases ht : xw2 a || xw2 b with
    | true => rw [ht] at h; cases h
    | false =>
      rw [ht] at h
      cases h
      obtain ⟨h1, h2⟩ := Bool.or_eq_false_iff.mp ht
      simp only [zm_pure, zm_dup2, xw2_cat ha h1, xw2_cat hb h2, Bool.and_self, cond_true]
      exact xP_id hC hl ⟨ha, hb, ha, hb, hs2⟩
  · cases h
theorem xp_pop (hC : xCok ρ C) (hl : xlk ρ σ ls lc) (hs : xsk ρ σ st sc) (h : xp .pop x C ls st = some q) : xP ρ σ q (zm_pure .pop x lc sc) := by
  simp only [xp] at h
  split at h
  · rename_i a t
    obtain ⟨v, s, rfl, hc, hs'⟩ := xsk_cons hs
    cases ht : xw2 a with
    | true => rw [ht] at h; cases h
    | false =>
      rw [ht] at h
      cases h
      simp only [zm_pure, zm_pop, xw2_cat hc ht, cond_true]
      exact xP_id hC hl hs'
  · cases h
theorem xp_pop2 (hC : xCok ρ C) (hl : xlk ρ σ ls lc) (hs : xsk ρ σ st sc) (h : xp .pop2 x C ls st = some q) : xP ρ σ q (zm_pure .pop2 x lc sc) := by
  simp only [xp] at h
  split at h
  · rename_i a t
    obtain ⟨v, s, rfl, hc, hs'⟩ := xsk_cons hs
    cases ht : xw2 a with
    | false => rw [ht] at h; cases h
    | true =>
      rw [ht] at h
      cases h
      simp only [zm_pure, zm_pop2, xw2_cat2 hc ht, cond_true]
      exact xP_id hC hl hs'
  · cases h
theorem xp_ok {i : Jvm.ClassFile.Instr} (hC : xCok ρ C) (hl : xlk ρ σ ls lc) (hs : xsk ρ σ st sc) (h : xp i x C ls st = some q) : xP ρ σ q (zm_pure i x lc sc) := by
  cases i with
  | iconst k => exact xpush_ok hC hl hs h
  | bipush k => exact xpush_ok hC hl hs h
  | sipush k => exact xpush_ok hC hl hs h
  | lconst k => exact xpush_ok hC hl hs h
  | ldc k => exact xpush_ok hC hl hs h
  | ldc_w k => exact xpush_ok hC hl hs h
  | ldc2_w k => exact xpush_ok hC hl hs h
  | aconst_null => cases h; exact xP_id hC hl ⟨rfl, hs⟩
  | iload k => exact xldi_ok hC hl hs h
  | iload_n k => exact xldi_ok hC hl hs h
  | lload k => exact xldl_ok hC hl hs h
  | lload_n k => exact xldl_ok hC hl hs h
  | aload k => exact xlda_ok hC hl hs h
  | aload_n k => exact xlda_ok hC hl hs h
  | istore k => exact xsti_ok hC hl hs h
  | istore_n k => exact xsti_ok hC hl hs h
  | lstore k => exact xstl_ok hC hl hs h
  | lstore_n k => exact xstl_ok hC hl hs h
  | astore k => exact xsta_ok hC hl hs h
  | astore_n k => exact xsta_ok hC hl hs h
  | iinc k c => exact xiinc_ok hC hl hs h
  | iadd => exact x2_ok xo_add_ok hC hl hs h
  | isub => exact x2_ok xo_sub_ok hC hl hs h
  | imul => exact x2_ok xo_mul_ok hC hl hs h
  | iand => exact x2_ok xo_and_ok hC hl hs h
  | ior => exact x2_ok xo_or_ok hC hl hs h
  | ixor => exact x2_ok xo_xor_ok hC hl hs h
  | ishl => exact x2_ok xo_shl_ok hC hl hs h
  | ishr => exact x2_ok xo_shr_ok hC hl hs h
  | iushr => exact x2_ok (xo_any_ok _) hC hl hs h
  | idiv => exact x2z_ok xo_div_ok.1 xo_div_ok.2 hC hl hs h
  | irem => exact x2z_ok xo_rem_ok.1 xo_rem_ok.2 hC hl hs h
  | ineg => exact x1_ok xneg_ok hC hl hs h
  | i2b => exact x1_ok (xto_ok xi2b_ok) hC hl hs h
  | i2s => exact x1_ok (xto_ok xi2s_ok) hC hl hs h
  | i2c => exact x1_ok (xto_ok (F := fun a => (a.toUInt32 % 65536).toInt32) xb_i2c) hC hl hs h
  | ladd => exact x2L_ok xladd_ok hC hl hs h
  | lsub => exact x2L_ok xlsub_ok hC hl hs h
  | lmul => exact x2L_ok (xlany_ok _) hC hl hs h
  | land => exact x2L_ok (xlany_ok _) hC hl hs h
  | lor => exact x2L_ok (xlany_ok _) hC hl hs h
  | ldiv => exact x2Lz_ok hC hl hs h
  | lneg => exact xp_lneg hC hl hs h
  | i2l => exact xp_i2l hC hl hs h
  | l2i => exact xp_l2i hC hl hs h
  | lcmp => exact xp_lcmp hC hl hs h
  | lshl => exact xp_lshl hC hl hs h
  | dup => exact xp_dup hC hl hs h
  | dup_x1 => exact xp_dx1 hC hl hs h
  | dup2 => exact xp_dup2 hC hl hs h
  | pop => exact xp_pop hC hl hs h
  | pop2 => exact xp_pop2 hC hl hs h
  | _ => cases h
end XPK
