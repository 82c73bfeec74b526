/-! Reasoning about the small machine -/
section ZMU
variable {P : Nat → Option zm_M} {df : Nat → List Value} {og og' : Nat → Option zm_C}
def zm_ol (og og' : Nat → Option zm_C) : Prop := (∀ (j : Nat) (c : zm_C), og j = some c → og' j = some c) ∧ og' 95 = og 95
theorem zm_ol_id (og : Nat → Option zm_C) : zm_ol og og := ⟨fun _ _ z => z, rfl⟩
theorem zm_rd_og {h : zm_H} {v : Value} {c : zm_C} (ho : zm_ol og og') (hv : zm_rd og h v = some c) : zm_rd og' h v = some c := by
  unfold zm_rd at hv ⊢
  split at hv
  · exact hv
  · split at hv
    · exact hv
    · exact ho.1 _ _ hv
  · cases hv
theorem zm_hp_og {i : Jvm.ClassFile.Instr} {x : zm_X} {st : List Value} {h : zm_H} {q : List Value × zm_H} (ho : zm_ol og og') (hp : zm_hp df og i x st h = some q) : zm_hp df og' i x st h = some q := by
  have ald : ∀ i : Jvm.ClassFile.Instr, zm_ald og i st h = some q → zm_ald og' i st h = some q := by
    intro i hp
    unfold zm_ald at hp ⊢
    split at hp
    · split at hp
      · rename_i hr
        rw [zm_rd_og ho hr]
        exact hp
      · cases hp
    · cases hp
  cases i with
  | arraylength =>
    simp only [zm_hp] at hp ⊢
    split at hp
    · split at hp
      · rename_i hr
        rw [zm_rd_og ho hr]
        exact hp
      · cases hp
    · cases hp
  | iaload => exact ald _ hp
  | laload => exact ald _ hp
  | baload => exact ald _ hp
  | aaload =>
    have hp : zm_aal og st h = some q := hp
    show zm_aal og' st h = some q
    unfold zm_aal at hp ⊢
    split at hp
    · exact hp
    · exact ald _ hp
  | getstatic k =>
    have e : ∀ v, zm_gs og' v = zm_gs og v := by
      intro v
      unfold zm_gs
      rw [ho.2]
    simp only [zm_hp, e] at hp ⊢
    exact hp
  | _ => exact hp
/-- more fuel, more depth, more old things: the same -/
theorem zm_ex_up (ho : zm_ol og og') : ∀ (n d mi pc : Nat) (ls : zm_L) (st : List Value) (h : zm_H) (v : Option Value × zm_H), zm_ex P df og n d mi pc ls st h = some v → ∀ n' d' : Nat, n ≤ n' → d ≤ d' → zm_ex P df og' n' d' mi pc ls st h = some v := by
  intro n
  induction n with
  | zero => intro d mi pc ls st h v hx; simp [zm_ex] at hx
  | succ n ih =>
    intro d mi pc ls st h v hx n' d' hn hd
    cases n' with
    | zero => omega
    | succ n' =>
      have hn : n ≤ n' := by omega
      have hnp : ∀ {i : Jvm.ClassFile.Instr} {x : zm_X}, zm_hp df og i x st h = none → zm_isH i x = false → zm_hp df og' i x st h = none := by
        intro i x _ hi
        cases hz : zm_hp df og' i x st h with
        | none => rfl
        | some q => rw [zm_isH_of hz] at hi; cases hi
      simp only [zm_ex] at hx ⊢
      cases hP : P mi with
      | none => rw [hP] at hx; cases hx
      | some mr =>
        rw [hP] at hx
        dsimp only at hx ⊢
        cases hat : zm_at mr.2 pc with
        | none => rw [hat] at hx; cases hx
        | some i =>
          rw [hat] at hx
          dsimp only at hx ⊢
          cases hre : zm_ret mr.1.2.2.2 i.1 st with
          | some r0 => rw [hre] at hx; exact hx
          | none =>
            rw [hre] at hx
            dsimp only at hx ⊢
            cases hpu : zm_pure i.1 i.2.2 ls st with
            | some q => rw [hpu] at hx; exact ih _ _ _ _ _ _ _ hx _ _ hn hd
            | none =>
              rw [hpu] at hx
              dsimp only at hx ⊢
              cases hbr : zm_br i.1 i.2.2 pc st with
              | some q => rw [hbr] at hx; exact ih _ _ _ _ _ _ _ hx _ _ hn hd
              | none =>
                rw [hbr] at hx
                dsimp only at hx ⊢
                cases hhp : zm_hp df og i.1 i.2.2 st h with
                | some q =>
                  rw [hhp] at hx
                  rw [zm_hp_og ho hhp]
                  exact ih _ _ _ _ _ _ _ hx _ _ hn hd
                | none =>
                  rw [hhp] at hx
                  dsimp only at hx
                  cases hca : zm_call i.1 i.2.2 st h with
                  | none => rw [hca] at hx; cases hx
                  | some q =>
                    rw [hca] at hx
                    dsimp only at hx
                    have hic := zm_isC_of hca
                    rw [hnp hhp (by
                      obtain ⟨i1, i2, i3⟩ := i
                      cases i1 with
                      | invokespecial k => simpa [zm_isC, zm_isH] using hic
                      | invokestatic k => simpa [zm_isC, zm_isH] using hic
                      | _ => first | rfl | (cases hic; done))]
                    dsimp only
                    cases d with
                    | zero => cases hx
                    | succ d =>
                      dsimp only at hx
                      cases d' with
                      | zero => omega
                      | succ d' =>
                        dsimp only
                        cases hmc : P q.1 with
                        | none => rw [hmc] at hx; cases hx
                        | some mc =>
                          rw [hmc] at hx
                          dsimp only at hx ⊢
                          cases hb : Nat.ble (zm_cat q.2.1) mc.1.2.2.1 with
                          | false => rw [hb] at hx; cases hx
                          | true =>
                            rw [hb] at hx
                            simp only [cond_true] at hx ⊢
                            cases hw : zm_ex P df og n d q.1 0 (lv_args 0 q.2.1) [] h with
                            | none => rw [hw] at hx; cases hx
                            | some w =>
                              rw [hw] at hx
                              rw [ih _ _ _ _ _ _ _ hw _ _ hn (show d ≤ d' by omega)]
                              exact ih _ _ _ _ _ _ _ hx _ _ hn hd
end ZMU
/-- the small machine comes from here to an end with Q -/
def zm_Y (og : Nat → Option zm_C) (d mi pc : Nat) (ls : zm_L) (st : List Value) (h : zm_H) (Q : Option Value → zm_H → Prop) : Prop := ∃ (n : Nat) (r : Option Value) (h' : zm_H), zm_ex zm_P zm_df og n d mi pc ls st h = some (r, h') ∧ Q r h'
def zm_sn (rows : List zm_Row) : Nat → Nat → zm_L → List Value → Option (Nat × zm_L × List Value)
  | 0, pc, ls, st => some (pc, ls, st)
  | k + 1, pc, ls, st => match zm_at rows pc with
    | none => none
    | some i => match zm_pure i.1 i.2.2 ls st with
      | some q => zm_sn rows k (pc + i.2.1) q.1 q.2
      | none => match i.1 with
        | .goto _ => zm_sn rows k i.2.2.1 ls st
        | _ => none
theorem zm_retP {ret : Option FieldType} {i : Jvm.ClassFile.Instr} {st : List Value} (h : zm_isP i = true ∨ zm_isB i = true) : zm_ret ret i st = none := by
  cases i <;> first | rfl | (rcases h with h | h <;> cases h)
section ZMY
variable {og : Nat → Option zm_C} {d mi pc : Nat} {ls : zm_L} {st : List Value} {h : zm_H} {Q : Option Value → zm_H → Prop} {mr : zm_M} {i : Jvm.ClassFile.Instr × Nat × zm_X}
theorem zm_Y.mono {Q' : Option Value → zm_H → Prop} (hy : zm_Y og d mi pc ls st h Q) (hq : ∀ r h', Q r h' → Q' r h') : zm_Y og d mi pc ls st h Q' := by
  obtain ⟨n, r, h', a, b⟩ := hy
  exact ⟨n, r, h', a, hq _ _ b⟩
theorem zm_Y.deep {d' : Nat} (hy : zm_Y og d mi pc ls st h Q) (hd : d ≤ d') : zm_Y og d' mi pc ls st h Q := by
  obtain ⟨n, r, h', a, b⟩ := hy
  exact ⟨n, r, h', zm_ex_up (zm_ol_id _) _ _ _ _ _ _ _ _ a _ _ (Nat.le_refl n) hd, b⟩
theorem zm_Y.old {og' : Nat → Option zm_C} (hy : zm_Y og d mi pc ls st h Q) (ho : zm_ol og og') : zm_Y og' d mi pc ls st h Q := by
  obtain ⟨n, r, h', a, b⟩ := hy
  exact ⟨n, r, h', zm_ex_up ho _ _ _ _ _ _ _ _ a _ _ (Nat.le_refl n) (Nat.le_refl d), b⟩
theorem zy_p {q : zm_L × List Value} (hP : zm_P mi = some mr) (ha : zm_at mr.2 pc = some i) (hp : zm_pure i.1 i.2.2 ls st = some q) (k : zm_Y og d mi (pc + i.2.1) q.1 q.2 h Q) : zm_Y og d mi pc ls st h Q := by
  obtain ⟨n, r, h', a, b⟩ := k
  refine ⟨n + 1, r, h', ?_, b⟩
  simp only [zm_ex, hP, ha, hp, zm_retP (Or.inl (zm_isP_of hp))]
  exact a
theorem zy_b {q : Nat × List Value} (hP : zm_P mi = some mr) (ha : zm_at mr.2 pc = some i) (hp : zm_br i.1 i.2.2 pc st = some q) (k : zm_Y og d mi q.1 ls q.2 h Q) : zm_Y og d mi pc ls st h Q := by
  obtain ⟨n, r, h', a, b⟩ := k
  refine ⟨n + 1, r, h', ?_, b⟩
  have hib := zm_isB_of hp
  have hpn : zm_pure i.1 i.2.2 ls st = none := by
    cases hz : zm_pure i.1 i.2.2 ls st with
    | none => rfl
    | some q2 =>
      have hip := zm_isP_of hz
      obtain ⟨i1, i2⟩ := i
      cases i1 <;> first | (cases hib; done) | (cases hip; done)
  simp only [zm_ex, hP, ha, hp, hpn, zm_retP (Or.inr hib)]
  exact a
theorem zy_h {q : List Value × zm_H} (hP : zm_P mi = some mr) (ha : zm_at mr.2 pc = some i) (hp : zm_hp zm_df og i.1 i.2.2 st h = some q) (k : zm_Y og d mi (pc + i.2.1) ls q.1 q.2 Q) : zm_Y og d mi pc ls st h Q := by
  obtain ⟨n, r, h', a, b⟩ := k
  refine ⟨n + 1, r, h', ?_, b⟩
  have hih := zm_isH_of hp
  have h1 : zm_pure i.1 i.2.2 ls st = none := by
    cases hz : zm_pure i.1 i.2.2 ls st with
    | none => rfl
    | some q2 =>
      have hip := zm_isP_of hz
      obtain ⟨i1, i2⟩ := i
      cases i1 <;> first | (cases hih; done) | (cases hip; done)
  have h2 : zm_br i.1 i.2.2 pc st = none := by
    cases hz : zm_br i.1 i.2.2 pc st with
    | none => rfl
    | some q2 =>
      have hip := zm_isB_of hz
      obtain ⟨i1, i2⟩ := i
      cases i1 <;> first | (cases hih; done) | (cases hip; done)
  have h3 : zm_ret mr.1.2.2.2 i.1 st = none := by
    obtain ⟨i1, i2⟩ := i
    cases i1 <;> first | rfl | cases hih
  simp only [zm_ex, hP, ha, hp, h1, h2, h3]
  exact a
theorem zy_c {q : Nat × List Value × List Value} {mc : zm_M} (hP : zm_P mi = some mr) (ha : zm_at mr.2 pc = some i) (hp : zm_call i.1 i.2.2 st h = some q) (hmc : zm_P q.1 = some mc) (hcat : Nat.ble (zm_cat q.2.1) mc.1.2.2.1 = true) (k : zm_Y og d q.1 0 (lv_args 0 q.2.1) [] h (fun r h1 => zm_Y og (d + 1) mi (pc + 3) ls (r.toList ++ q.2.2) h1 Q)) : zm_Y og (d + 1) mi pc ls st h Q := by
  obtain ⟨n1, r1, h1, a1, n2, r, h', a2, b⟩ := k
  refine ⟨n1 + n2 + 1, r, h', ?_, b⟩
  have hic := zm_isC_of hp
  have e1 : zm_pure i.1 i.2.2 ls st = none := by
    cases hz : zm_pure i.1 i.2.2 ls st with
    | none => rfl
    | some q2 =>
      have hip := zm_isP_of hz
      obtain ⟨i1, i2⟩ := i
      cases i1 <;> first | (cases hic; done) | (cases hip; done)
  have e2 : zm_br i.1 i.2.2 pc st = none := by
    cases hz : zm_br i.1 i.2.2 pc st with
    | none => rfl
    | some q2 =>
      have hip := zm_isB_of hz
      obtain ⟨i1, i2⟩ := i
      cases i1 <;> first | (cases hic; done) | (cases hip; done)
  have e3 : zm_ret mr.1.2.2.2 i.1 st = none := by
    obtain ⟨i1, i2⟩ := i
    cases i1 <;> first | rfl | cases hic
  have e4 : zm_hp zm_df og i.1 i.2.2 st h = none := by
    cases hz : zm_hp zm_df og i.1 i.2.2 st h with
    | none => rfl
    | some q2 =>
      have hip := zm_isH_of hz
      obtain ⟨i1, i2, i3⟩ := i
      cases i1 with
      | invokespecial k =>
        change (!(Nat.beq i3.2.2.1 1)) = true at hic
        change Nat.beq i3.2.2.1 1 = true at hip
        rw [hip] at hic
        cases hic
      | invokestatic k =>
        change Nat.beq i3.2.2.1 0 = true at hic
        change (!(Nat.beq i3.2.2.1 0)) = true at hip
        rw [hic] at hip
        cases hip
      | _ => first | (cases hic; done) | (cases hip; done)
  have u1 := zm_ex_up (zm_ol_id _) _ _ _ _ _ _ _ _ a1 (n1 + n2) _ (by omega) (Nat.le_refl _)
  have u2 := zm_ex_up (zm_ol_id _) _ _ _ _ _ _ _ _ a2 (n1 + n2) _ (by omega) (Nat.le_refl _)
  simp only [zm_ex, hP, ha, hp, e1, e2, e3, e4, hmc, hcat, cond_true, u1]
  exact u2
theorem zy_r {r : Option Value} (hP : zm_P mi = some mr) (ha : zm_at mr.2 pc = some i) (hp : zm_ret mr.1.2.2.2 i.1 st = some r) (hq : Q r h) : zm_Y og d mi pc ls st h Q := by
  refine ⟨1, r, h, ?_, hq⟩
  simp only [zm_ex, hP, ha, hp]
theorem zy_n (k : Nat) {pc' : Nat} {ls' : zm_L} {st' : List Value} (hP : zm_P mi = some mr) (hs : zm_sn mr.2 k pc ls st = some (pc', ls', st')) (kk : zm_Y og d mi pc' ls' st' h Q) : zm_Y og d mi pc ls st h Q := by
  induction k generalizing pc ls st with
  | zero =>
    simp only [zm_sn, Option.some.injEq, Prod.mk.injEq] at hs
    obtain ⟨rfl, rfl, rfl⟩ := hs
    exact kk
  | succ k ih =>
    simp only [zm_sn] at hs
    split at hs
    · cases hs
    · rename_i i ha
      split at hs
      · rename_i q hp
        exact zy_p hP ha hp (ih hs)
      · split at hs
        · rename_i off hi
          refine zy_b (q := (i.2.2.1, st)) hP ha ?_ (ih hs)
          rw [hi]
          rfl
        · cases hs
end ZMY
section ZMF
variable {og : Nat → Option zm_C} {df : Nat → List Value} {st : List Value} {h : zm_H} {w : Value} {ps : List Nat}
theorem zs_ne {h : zm_H} {a b : Nat} {c x : zm_C} (hb : h[b]? = some c) (hn : a ≠ b) : (h.set a x)[b]? = some c := by
  rw [List.getElem?_set_ne hn]; exact hb
theorem zs_eq {h : zm_H} {a : Nat} {c x : zm_C} (hb : h[a]? = some c) : (h.set a x)[a]? = some x := List.getElem?_set_self (List.getElem?_eq_some_iff.mp hb).1
theorem zs_app {h g : zm_H} {b : Nat} {c : zm_C} (hb : h[b]? = some c) : (h ++ g)[b]? = some c := by
  rw [List.getElem?_append_left (List.getElem?_eq_some_iff.mp hb).1]; exact hb
theorem zs_new {h g : zm_H} {n k : Nat} {c : zm_C} (hl : h.length = n) (hg : g[k]? = some c) : (h ++ g)[n + k]? = some c := by
  rw [List.getElem?_append_right (by omega), hl, Nat.add_sub_cancel_left]; exact hg
theorem zs_lset {h : zm_H} {a n : Nat} {x : zm_C} (hl : h.length = n) : (h.set a x).length = n := by rw [List.length_set]; exact hl
theorem zs_lapp {h g : zm_H} {n m : Nat} (hl : h.length = n) (hg : n + g.length = m) : (h ++ g).length = m := by rw [List.length_append, hl]; exact hg
theorem zh_get {j ci k c a : Nat} {fs : List Value} {v : Value} (hc : h[a]? = some (.inr (ci, fs))) (hv : fs[k]? = some v) : zm_hp df og (.getfield j) (ci, k, c, w, ps) (.ref a :: st) h = some (v :: st, h) := by
  have e : Nat.beq ci ci = true := Nat.beq_refl ci
  simp only [zm_hp, hc, zm_geto, e, cond_true, hv]
theorem zh_put {j ci k c a : Nat} {fs : List Value} {v : Value} (hc : h[a]? = some (.inr (ci, fs))) (hl : Nat.blt k fs.length = true) (ho : zm_okv (zm_ft ci k) v = true) : zm_hp df og (.putfield j) (ci, k, c, w, ps) (v :: .ref a :: st) h = some (st, h.set a (.inr (ci, fs.set k v))) := by
  have e : Nat.beq ci ci = true := Nat.beq_refl ci
  simp only [zm_hp, hc, zm_puto, e, hl, ho, Bool.and_true, cond_true]
theorem zh_alen {x : zm_X} {a t n : Nat} {k : zm_K} (hc : h[a]? = some (.inl (t, n, k))) : zm_hp df og .arraylength x (.ref a :: st) h = some (.int (Int32.ofNat n) :: st, h) := by
  simp only [zm_hp, zm_rd, hc]
theorem zh_alenO {x : zm_X} {a t n : Nat} {k : zm_K} (ha : zm_ba a = none) (hc : og a = some (.inl (t, n, k))) : zm_hp df og .arraylength x (.retAddr a :: st) h = some (.int (Int32.ofNat n) :: st, h) := by
  simp only [zm_hp, zm_rd, ha, hc]
theorem zh_iald {x : zm_X} {a n : Nat} {f : Nat → Int32} {j v : Int32} (hc : h[a]? = some (.inl (0, n, .inl f))) (hi : zm_in j n = true) (hv : f j.toNatClampNeg = v) : zm_hp df og .iaload x (.int j :: .ref a :: st) h = some (.int v :: st, h) := by
  simp only [zm_hp, zm_ald, zm_rd, hc, hi, zm_lds, Bool.and_true, cond_true, zm_kv, hv]
  rfl
theorem zh_ialdO {x : zm_X} {a n : Nat} {f : Nat → Int32} {j v : Int32} (ha : zm_ba a = none) (hc : og a = some (.inl (0, n, .inl f))) (hi : zm_in j n = true) (hv : f j.toNatClampNeg = v) : zm_hp df og .iaload x (.int j :: .retAddr a :: st) h = some (.int v :: st, h) := by
  simp only [zm_hp, zm_ald, zm_rd, ha, hc, hi, zm_lds, Bool.and_true, cond_true, zm_kv, hv]
  rfl
theorem zh_zald {x : zm_X} {a n t : Nat} {f : Nat → Int32} {j v : Int32} (hc : h[a]? = some (.inl (t, n, .inl f))) (ht : (Nat.beq t 2 || Nat.beq t 3) = true) (hi : zm_in j n = true) (hv : f j.toNatClampNeg = v) : zm_hp df og .baload x (.int j :: .ref a :: st) h = some (.int v :: st, h) := by
  simp only [zm_hp, zm_ald, zm_rd, hc, hi, zm_lds, ht, Bool.and_true, cond_true, zm_kv, hv]
theorem zh_lald {x : zm_X} {a n : Nat} {f : Nat → Int64} {j : Int32} {v : Int64} (hc : h[a]? = some (.inl (1, n, .inr (.inl f)))) (hi : zm_in j n = true) (hv : f j.toNatClampNeg = v) : zm_hp df og .laload x (.int j :: .ref a :: st) h = some (.long v :: st, h) := by
  simp only [zm_hp, zm_ald, zm_rd, hc, hi, zm_lds, Bool.and_true, cond_true, zm_kv, hv]
  rfl
theorem zh_aald {x : zm_X} {a n t : Nat} {f : Nat → Option Nat} {j : Int32} {v : Option Nat} (hc : h[a]? = some (.inl (t, n, .inr (.inr f)))) (ht : (Nat.ble 4 t && Nat.ble t 7) = true) (hi : zm_in j n = true) (hv : f j.toNatClampNeg = v) : zm_hp df og .aaload x (.int j :: .ref a :: st) h = some (va_rf v :: st, h) := by
  simp only [zm_hp, zm_aal, zm_ald, zm_rd, hc, hi, zm_lds, ht, Bool.and_true, cond_true, zm_kv, hv]
theorem zh_iast {x : zm_X} {a n : Nat} {f : Nat → Int32} {j v : Int32} (hc : h[a]? = some (.inl (0, n, .inl f))) (hi : zm_in j n = true) : zm_hp df og .iastore x (.int v :: .int j :: .ref a :: st) h = some (st, h.set a (.inl (0, n, .inl (upd f j.toNatClampNeg v)))) := by
  simp only [zm_hp, zm_iast, hc, hi, Bool.and_true]
  rfl
theorem zh_last {x : zm_X} {a n : Nat} {f : Nat → Int64} {j : Int32} {v : Int64} (hc : h[a]? = some (.inl (1, n, .inr (.inl f)))) (hi : zm_in j n = true) : zm_hp df og .lastore x (.long v :: .int j :: .ref a :: st) h = some (st, h.set a (.inl (1, n, .inr (.inl (vp_updL f j.toNatClampNeg v))))) := by
  simp only [zm_hp, zm_last, hc, hi, Bool.and_true]
  rfl
theorem zh_bast {x : zm_X} {a n : Nat} {f : Nat → Int32} {j v : Int32} (hc : h[a]? = some (.inl (2, n, .inl f))) (hi : zm_in j n = true) : zm_hp df og .bastore x (.int v :: .int j :: .ref a :: st) h = some (st, h.set a (.inl (2, n, .inl (upd f j.toNatClampNeg v.toInt8.toInt32)))) := by
  simp only [zm_hp, zm_bast, hc, hi, cond_true]
  rfl
theorem zh_zast {x : zm_X} {a n : Nat} {f : Nat → Int32} {j v : Int32} (hc : h[a]? = some (.inl (3, n, .inl f))) (hi : zm_in j n = true) : zm_hp df og .bastore x (.int v :: .int j :: .ref a :: st) h = some (st, h.set a (.inl (3, n, .inl (upd f j.toNatClampNeg (v &&& 1))))) := by
  simp only [zm_hp, zm_bast, hc, hi, cond_true]
  rfl
theorem zh_aast {x : zm_X} {a n t r ci : Nat} {f : Nat → Option Nat} {fs : List Value} {j : Int32} (hc : h[a]? = some (.inl (t, n, .inr (.inr f)))) (hr : h[r]? = some (.inr (ci, fs))) (ht : (Nat.ble 4 t && Nat.ble t 6 && Nat.beq ci (zm_tc t)) = true) (hi : zm_in j n = true) : zm_hp df og .aastore x (.ref r :: .int j :: .ref a :: st) h = some (st, h.set a (.inl (t, n, .inr (.inr (va_up f j.toNatClampNeg (some r)))))) := by
  simp only [zm_hp, zm_aast, hc, hr, ht, hi, Bool.and_true, cond_true]
theorem zh_new {j ci k c n : Nat} (hl : h.length = n) : zm_hp df og (.new j) (ci, k, c, w, ps) st h = some (.ref n :: st, h ++ [.inr (ci, df ci)]) := by
  simp only [zm_hp, hl]
theorem zh_newa {at_ : ArrayType} {t k c n N : Nat} {m : Int32} (hl : h.length = n) (hm : (!(decide (m < 0)) && Nat.ble m.toNatClampNeg 60000) = true) (hN : m.toNatClampNeg = N) : zm_hp df og (.newarray at_) (t, k, c, w, ps) (.int m :: st) h = some (.ref n :: st, h ++ [.inl (t, N, zm_zero t)]) := by
  subst hN
  simp only [zm_hp, zm_newa, hm, cond_true, hl]
theorem zh_anew {j t k c n N : Nat} {m : Int32} (hl : h.length = n) (hm : (!(decide (m < 0)) && Nat.ble m.toNatClampNeg 60000) = true) (hN : m.toNatClampNeg = N) : zm_hp df og (.anewarray j) (t, k, c, w, ps) (.int m :: st) h = some (.ref n :: st, h ++ [.inl (t, N, .inr (.inr (fun _ => none)))]) := by
  subst hN
  simp only [zm_hp, zm_anew, hm, cond_true, hl]
theorem zh_oinit {j k b a : Nat} : zm_hp df og (.invokespecial j) (k, b, 1, w, ps) [.ref a] h = some ([], h) := by
  rfl
theorem zh_gets {j : Nat} {x : zm_X} : zm_hp df og (.getstatic j) x st h = some (zm_gs og x.2.2.2.1 :: st, h) := rfl
end ZMF
section ZMI
variable {og : Nat → Option zm_C} {d mi t f : Nat} {ls : zm_L} {st : List Value} {h : zm_H} {Q : Option Value → zm_H → Prop} {a b : Int32}
theorem zi_eq (k1 : a = 0 → zm_Y og d mi t ls st h Q) (k2 : ¬ a = 0 → zm_Y og d mi f ls st h Q) : zm_Y og d mi (zm_if .eq a t f) ls st h Q := by
  unfold zm_if; dsimp only; split <;> first | (apply k1; assumption) | (apply k2; assumption)
theorem zi_ne (k1 : ¬ a = 0 → zm_Y og d mi t ls st h Q) (k2 : a = 0 → zm_Y og d mi f ls st h Q) : zm_Y og d mi (zm_if .ne a t f) ls st h Q := by
  unfold zm_if; dsimp only; split <;> first | (apply k1; assumption) | (apply k2; assumption)
theorem zi_lt (k1 : a < 0 → zm_Y og d mi t ls st h Q) (k2 : ¬ a < 0 → zm_Y og d mi f ls st h Q) : zm_Y og d mi (zm_if .lt a t f) ls st h Q := by
  unfold zm_if; dsimp only; split <;> first | (apply k1; assumption) | (apply k2; assumption)
theorem zi_ge (k1 : 0 ≤ a → zm_Y og d mi t ls st h Q) (k2 : ¬ 0 ≤ a → zm_Y og d mi f ls st h Q) : zm_Y og d mi (zm_if .ge a t f) ls st h Q := by
  unfold zm_if; dsimp only; split <;> first | (apply k1; assumption) | (apply k2; assumption)
theorem zi_gt (k1 : 0 < a → zm_Y og d mi t ls st h Q) (k2 : ¬ 0 < a → zm_Y og d mi f ls st h Q) : zm_Y og d mi (zm_if .gt a t f) ls st h Q := by
  unfold zm_if; dsimp only; split <;> first | (apply k1; assumption) | (apply k2; assumption)
theorem zi_le (k1 : a ≤ 0 → zm_Y og d mi t ls st h Q) (k2 : ¬ a ≤ 0 → zm_Y og d mi f ls st h Q) : zm_Y og d mi (zm_if .le a t f) ls st h Q := by
  unfold zm_if; dsimp only; split <;> first | (apply k1; assumption) | (apply k2; assumption)
theorem zc_eq (k1 : a = b → zm_Y og d mi t ls st h Q) (k2 : ¬ a = b → zm_Y og d mi f ls st h Q) : zm_Y og d mi (zm_ic .eq a b t f) ls st h Q := by
  unfold zm_ic; dsimp only; split <;> first | (apply k1; assumption) | (apply k2; assumption)
theorem zc_ne (k1 : ¬ a = b → zm_Y og d mi t ls st h Q) (k2 : a = b → zm_Y og d mi f ls st h Q) : zm_Y og d mi (zm_ic .ne a b t f) ls st h Q := by
  unfold zm_ic; dsimp only; split <;> first | (apply k1; assumption) | (apply k2; assumption)
theorem zc_lt (k1 : a < b → zm_Y og d mi t ls st h Q) (k2 : ¬ a < b → zm_Y og d mi f ls st h Q) : zm_Y og d mi (zm_ic .lt a b t f) ls st h Q := by
  unfold zm_ic; dsimp only; split <;> first | (apply k1; assumption) | (apply k2; assumption)
theorem zc_ge (k1 : b ≤ a → zm_Y og d mi t ls st h Q) (k2 : ¬ b ≤ a → zm_Y og d mi f ls st h Q) : zm_Y og d mi (zm_ic .ge a b t f) ls st h Q := by
  unfold zm_ic; dsimp only; split <;> first | (apply k1; assumption) | (apply k2; assumption)
theorem zc_gt (k1 : b < a → zm_Y og d mi t ls st h Q) (k2 : ¬ b < a → zm_Y og d mi f ls st h Q) : zm_Y og d mi (zm_ic .gt a b t f) ls st h Q := by
  unfold zm_ic; dsimp only; split <;> first | (apply k1; assumption) | (apply k2; assumption)
theorem zc_le (k1 : a ≤ b → zm_Y og d mi t ls st h Q) (k2 : ¬ a ≤ b → zm_Y og d mi f ls st h Q) : zm_Y og d mi (zm_ic .le a b t f) ls st h Q := by
  unfold zm_ic; dsimp only; split <;> first | (apply k1; assumption) | (apply k2; assumption)
end ZMI
/-! More locals do no harm: at a loop's head the locals that it needs, in one order -/
def zm_le (b a : zm_L) : Prop := (b.map (fun q => q.1)).Nodup ∧ ∀ (k : Nat) (w : Value), zm_get b k = some w → zm_get a k = some w
theorem zm_get_cons (q : Nat × Value) (t : zm_L) (i : Nat) : zm_get (q :: t) i = if q.1 = i then some q.2 else zm_get t i := by
  show (bif Nat.beq q.1 i then some q.2 else zm_get t i) = _
  by_cases h : q.1 = i
  · rw [if_pos h, h, Nat.beq_refl]; rfl
  · rw [if_neg h, show Nat.beq q.1 i = false from Bool.eq_false_iff.mpr (fun z => h (Nat.eq_of_beq_eq_true z))]; rfl
theorem zm_get_of_mem {b : zm_L} (hn : (b.map (fun q => q.1)).Nodup) {k : Nat} {w : Value} (h : (k, w) ∈ b) : zm_get b k = some w := by
  induction b with
  | nil => cases h
  | cons q t ih =>
    rw [List.map_cons, List.nodup_cons] at hn
    rw [zm_get_cons]
    rcases List.mem_cons.mp h with e | e
    · rw [← e, if_pos rfl]
    · have hne : q.1 ≠ k := fun z => hn.1 (List.mem_map.mpr ⟨(k, w), e, z.symm⟩)
      rw [if_neg hne]
      exact ih hn.2 e
theorem zm_get_filter {p : Nat × Value → Bool} {a : zm_L} {k : Nat} {w : Value} (h : zm_get a k = some w) (hp : p (k, w) = true) : zm_get (a.filter p) k = some w := by
  induction a with
  | nil => simp [zm_get] at h
  | cons q t ih =>
    rw [zm_get_cons] at h
    by_cases hq : q.1 = k
    · rw [if_pos hq] at h
      have e : q = (k, w) := by
        obtain ⟨q1, q2⟩ := q
        cases h
        cases hq
        rfl
      rw [List.filter_cons, e, if_pos hp, zm_get_cons, if_pos rfl]
    · rw [if_neg hq] at h
      rw [List.filter_cons]
      split
      · rw [zm_get_cons, if_neg hq]; exact ih h
      · exact ih h
theorem zm_le_st {p : Nat × Value → Bool} {b a : zm_L} {i : Nat} {v : Value} (h : zm_le b a) (hp : ∀ w : Value, p (i, w) = false) : zm_le ((i, v) :: b.filter p) ((i, v) :: a.filter p) := by
  have hnd : ((b.filter p).map (fun q => q.1)).Nodup := List.Nodup.sublist (List.Sublist.map _ List.filter_sublist) h.1
  refine ⟨?_, fun k w hk => ?_⟩
  · rw [List.map_cons, List.nodup_cons]
    refine ⟨fun z => ?_, hnd⟩
    obtain ⟨q, hq, e⟩ := List.mem_map.mp z
    have h2 := (List.mem_filter.mp hq).2
    obtain ⟨q1, q2⟩ := q
    dsimp only at e
    subst e
    rw [hp q2] at h2
    cases h2
  · rw [zm_get_cons] at hk ⊢
    by_cases hik : i = k
    · rw [if_pos hik] at hk ⊢; exact hk
    · rw [if_neg hik] at hk ⊢
      have hm := zm_get_mem hk
      obtain ⟨m1, m2⟩ := List.mem_filter.mp hm
      exact zm_get_filter (h.2 k w (zm_get_of_mem h.1 m1)) m2
theorem zm_le_st1 {b a : zm_L} {i : Nat} {v : Value} (h : zm_le b a) : zm_le (zm_st1 b i v) (zm_st1 a i v) := zm_le_st h (fun w => by simp)
theorem zm_le_st2 {b a : zm_L} {i : Nat} {v : Value} (h : zm_le b a) : zm_le (zm_st2 b i v) (zm_st2 a i v) := zm_le_st h (fun w => by simp)
section ZLE
variable {b a : zm_L} {x : zm_X} {st : List Value} {q : zm_L × List Value} {k : Nat}
theorem zl_ldi (h : zm_le b a) (hp : zm_ldi b k st = some q) : ∃ a', zm_ldi a k st = some (a', q.2) ∧ zm_le q.1 a' := by
  unfold zm_ldi at hp ⊢
  split at hp
  · rename_i hg; cases hp; rw [h.2 _ _ hg]; exact ⟨a, rfl, h⟩
  · cases hp
theorem zl_ldl (h : zm_le b a) (hp : zm_ldl b k st = some q) : ∃ a', zm_ldl a k st = some (a', q.2) ∧ zm_le q.1 a' := by
  unfold zm_ldl at hp ⊢
  split at hp
  · rename_i hg; cases hp; rw [h.2 _ _ hg]; exact ⟨a, rfl, h⟩
  · cases hp
theorem zl_lda (h : zm_le b a) (hp : zm_lda b k st = some q) : ∃ a', zm_lda a k st = some (a', q.2) ∧ zm_le q.1 a' := by
  unfold zm_lda at hp ⊢
  split at hp
  · rename_i hg; cases hp; rw [h.2 _ _ hg]; exact ⟨a, rfl, h⟩
  · rename_i hg; cases hp; rw [h.2 _ _ hg]; exact ⟨a, rfl, h⟩
  · rename_i hg; cases hp; rw [h.2 _ _ hg]; exact ⟨a, rfl, h⟩
  · cases hp
theorem zl_sti (h : zm_le b a) (hp : zm_sti b k st = some q) : ∃ a', zm_sti a k st = some (a', q.2) ∧ zm_le q.1 a' := by
  unfold zm_sti at hp ⊢
  split at hp
  · cases hp; exact ⟨_, rfl, zm_le_st1 h⟩
  · cases hp
theorem zl_stl (h : zm_le b a) (hp : zm_stl b k st = some q) : ∃ a', zm_stl a k st = some (a', q.2) ∧ zm_le q.1 a' := by
  unfold zm_stl at hp ⊢
  split at hp
  · cases hp; exact ⟨_, rfl, zm_le_st2 h⟩
  · cases hp
theorem zl_sta (h : zm_le b a) (hp : zm_sta b k st = some q) : ∃ a', zm_sta a k st = some (a', q.2) ∧ zm_le q.1 a' := by
  unfold zm_sta at hp ⊢
  split at hp
  · cases hp; exact ⟨_, rfl, zm_le_st1 h⟩
  · cases hp; exact ⟨_, rfl, zm_le_st1 h⟩
  · cases hp; exact ⟨_, rfl, zm_le_st1 h⟩
  · cases hp
theorem zl_iinc (h : zm_le b a) (hp : zm_iinc x b k st = some q) : ∃ a', zm_iinc x a k st = some (a', q.2) ∧ zm_le q.1 a' := by
  unfold zm_iinc at hp ⊢
  split at hp
  · rename_i hg hc; cases hp; rw [h.2 _ _ hg, hc]; exact ⟨_, rfl, zm_le_st1 h⟩
  · cases hp
theorem zl_any {F : zm_L → List Value → Option (zm_L × List Value)} (hF : ∀ ls ls' : zm_L, (F ls st = none ↔ F ls' st = none) ∧ ∀ q, F ls st = some q → q.1 = ls ∧ F ls' st = some (ls', q.2)) (h : zm_le b a) (hp : F b st = some q) : ∃ a', F a st = some (a', q.2) ∧ zm_le q.1 a' := by
  obtain ⟨e1, e2⟩ := (hF b a).2 q hp
  exact ⟨a, e2, by rw [e1]; exact h⟩
theorem zl_ii (f : Int32 → Int32 → Int32) (h : zm_le b a) (hp : zm_ii f b st = some q) : ∃ a', zm_ii f a st = some (a', q.2) ∧ zm_le q.1 a' := by
  unfold zm_ii at hp ⊢
  split at hp
  · cases hp; exact ⟨a, rfl, h⟩
  · cases hp
theorem zl_i (f : Int32 → Int32) (h : zm_le b a) (hp : zm_i f b st = some q) : ∃ a', zm_i f a st = some (a', q.2) ∧ zm_le q.1 a' := by
  unfold zm_i at hp ⊢
  split at hp
  · cases hp; exact ⟨a, rfl, h⟩
  · cases hp
theorem zl_ll (f : Int64 → Int64 → Int64) (h : zm_le b a) (hp : zm_ll f b st = some q) : ∃ a', zm_ll f a st = some (a', q.2) ∧ zm_le q.1 a' := by
  unfold zm_ll at hp ⊢
  split at hp
  · cases hp; exact ⟨a, rfl, h⟩
  · cases hp
theorem zl_l (f : Int64 → Int64) (h : zm_le b a) (hp : zm_l f b st = some q) : ∃ a', zm_l f a st = some (a', q.2) ∧ zm_le q.1 a' := by
  unfold zm_l at hp ⊢
  split at hp
  · cases hp; exact ⟨a, rfl, h⟩
  · cases hp
theorem zl_i2l (h : zm_le b a) (hp : zm_i2l b st = some q) : ∃ a', zm_i2l a st = some (a', q.2) ∧ zm_le q.1 a' := by
  unfold zm_i2l at hp ⊢
  split at hp
  · cases hp; exact ⟨a, rfl, h⟩
  · cases hp
theorem zl_l2i (h : zm_le b a) (hp : zm_l2i b st = some q) : ∃ a', zm_l2i a st = some (a', q.2) ∧ zm_le q.1 a' := by
  unfold zm_l2i at hp ⊢
  split at hp
  · cases hp; exact ⟨a, rfl, h⟩
  · cases hp
theorem zl_lcmp (h : zm_le b a) (hp : zm_lcmp b st = some q) : ∃ a', zm_lcmp a st = some (a', q.2) ∧ zm_le q.1 a' := by
  unfold zm_lcmp at hp ⊢
  split at hp
  · cases hp; exact ⟨a, rfl, h⟩
  · cases hp
theorem zl_lshl (h : zm_le b a) (hp : zm_lshl b st = some q) : ∃ a', zm_lshl a st = some (a', q.2) ∧ zm_le q.1 a' := by
  unfold zm_lshl at hp ⊢
  split at hp
  · cases hp; exact ⟨a, rfl, h⟩
  · cases hp
theorem zl_iz (f : Int32 → Int32 → Int32) (h : zm_le b a) (hp : zm_iz f b st = some q) : ∃ a', zm_iz f a st = some (a', q.2) ∧ zm_le q.1 a' := by
  unfold zm_iz at hp ⊢
  split at hp
  · split at hp
    · cases hp
    · rename_i hz; cases hp; exact ⟨a, by simp only [if_neg hz], h⟩
  · cases hp
theorem zl_lz (f : Int64 → Int64 → Int64) (h : zm_le b a) (hp : zm_lz f b st = some q) : ∃ a', zm_lz f a st = some (a', q.2) ∧ zm_le q.1 a' := by
  unfold zm_lz at hp ⊢
  split at hp
  · split at hp
    · cases hp
    · rename_i hz; cases hp; exact ⟨a, by simp only [if_neg hz], h⟩
  · cases hp
theorem zl_dup (h : zm_le b a) (hp : zm_dup b st = some q) : ∃ a', zm_dup a st = some (a', q.2) ∧ zm_le q.1 a' := by
  unfold zm_dup at hp ⊢
  split at hp
  · obtain ⟨hb, rfl⟩ := zm_bif hp; exact ⟨a, by simp only [hb, cond_true], h⟩
  · cases hp
theorem zl_dx1 (h : zm_le b a) (hp : zm_dx1 b st = some q) : ∃ a', zm_dx1 a st = some (a', q.2) ∧ zm_le q.1 a' := by
  unfold zm_dx1 at hp ⊢
  split at hp
  · obtain ⟨hb, rfl⟩ := zm_bif hp; exact ⟨a, by simp only [hb, cond_true], h⟩
  · cases hp
theorem zl_dup2 (h : zm_le b a) (hp : zm_dup2 b st = some q) : ∃ a', zm_dup2 a st = some (a', q.2) ∧ zm_le q.1 a' := by
  unfold zm_dup2 at hp ⊢
  split at hp
  · obtain ⟨hb, rfl⟩ := zm_bif hp; exact ⟨a, by simp only [hb, cond_true], h⟩
  · cases hp
theorem zl_pop (h : zm_le b a) (hp : zm_pop b st = some q) : ∃ a', zm_pop a st = some (a', q.2) ∧ zm_le q.1 a' := by
  unfold zm_pop at hp ⊢
  split at hp
  · obtain ⟨hb, rfl⟩ := zm_bif hp; exact ⟨a, by simp only [hb, cond_true], h⟩
  · cases hp
theorem zl_pop2 (h : zm_le b a) (hp : zm_pop2 b st = some q) : ∃ a', zm_pop2 a st = some (a', q.2) ∧ zm_le q.1 a' := by
  unfold zm_pop2 at hp ⊢
  split at hp
  · obtain ⟨hb, rfl⟩ := zm_bif hp; exact ⟨a, by simp only [hb, cond_true], h⟩
  · cases hp
theorem zm_pure_le {i : Jvm.ClassFile.Instr} (h : zm_le b a) (hp : zm_pure i x b st = some q) : ∃ a', zm_pure i x a st = some (a', q.2) ∧ zm_le q.1 a' := by
  cases i with
  | iconst _ => cases hp; exact ⟨a, rfl, h⟩
  | bipush _ => cases hp; exact ⟨a, rfl, h⟩
  | sipush _ => cases hp; exact ⟨a, rfl, h⟩
  | lconst _ => cases hp; exact ⟨a, rfl, h⟩
  | ldc _ => cases hp; exact ⟨a, rfl, h⟩
  | ldc_w _ => cases hp; exact ⟨a, rfl, h⟩
  | ldc2_w _ => cases hp; exact ⟨a, rfl, h⟩
  | aconst_null => cases hp; exact ⟨a, rfl, h⟩
  | iload k => exact zl_ldi h hp
  | iload_n k => exact zl_ldi h hp
  | lload k => exact zl_ldl h hp
  | lload_n k => exact zl_ldl h hp
  | aload k => exact zl_lda h hp
  | aload_n k => exact zl_lda h hp
  | istore k => exact zl_sti h hp
  | istore_n k => exact zl_sti h hp
  | lstore k => exact zl_stl h hp
  | lstore_n k => exact zl_stl h hp
  | astore k => exact zl_sta h hp
  | astore_n k => exact zl_sta h hp
  | iinc k n => exact zl_iinc h hp
  | iadd => exact zl_ii _ h hp
  | isub => exact zl_ii _ h hp
  | imul => exact zl_ii _ h hp
  | iand => exact zl_ii _ h hp
  | ior => exact zl_ii _ h hp
  | ixor => exact zl_ii _ h hp
  | ishl => exact zl_ii _ h hp
  | ishr => exact zl_ii _ h hp
  | iushr => exact zl_ii _ h hp
  | idiv => exact zl_iz _ h hp
  | irem => exact zl_iz _ h hp
  | ineg => exact zl_i _ h hp
  | i2b => exact zl_i _ h hp
  | i2s => exact zl_i _ h hp
  | i2c => exact zl_i _ h hp
  | ladd => exact zl_ll _ h hp
  | lsub => exact zl_ll _ h hp
  | lmul => exact zl_ll _ h hp
  | land => exact zl_ll _ h hp
  | lor => exact zl_ll _ h hp
  | ldiv => exact zl_lz _ h hp
  | lneg => exact zl_l _ h hp
  | i2l => exact zl_i2l h hp
  | l2i => exact zl_l2i h hp
  | lcmp => exact zl_lcmp h hp
  | lshl => exact zl_lshl h hp
  | dup => exact zl_dup h hp
  | dup_x1 => exact zl_dx1 h hp
  | dup2 => exact zl_dup2 h hp
  | pop => exact zl_pop h hp
  | pop2 => exact zl_pop2 h hp
  | _ => cases hp
end ZLE
theorem zm_ex_le {P : Nat → Option zm_M} {df : Nat → List Value} {og : Nat → Option zm_C} : ∀ (n d mi pc : Nat) (b a : zm_L) (st : List Value) (h : zm_H) (v : Option Value × zm_H), zm_ex P df og n d mi pc b st h = some v → zm_le b a → zm_ex P df og n d mi pc a st h = some v := by
  intro n
  induction n with
  | zero => intro d mi pc b a st h v hx; simp [zm_ex] at hx
  | succ n ih =>
    intro d mi pc b a st h v hx hle
    have hpn : ∀ {i : Jvm.ClassFile.Instr} {x : zm_X}, zm_pure i x b st = none → zm_isP i = false → zm_pure i x a st = none := by
      intro i x _ hi
      cases hz : zm_pure i x a st with
      | none => rfl
      | some q => rw [zm_isP_of hz] at hi; cases hi
    simp only [zm_ex] at hx ⊢
    cases hP : P mi with
    | none => rw [hP] at hx; cases hx
    | some mr =>
      rw [hP] at hx
      dsimp only at hx ⊢
      cases hat : zm_at mr.2 pc with
      | none => rw [hat] at hx; cases hx
      | some i =>
        rw [hat] at hx
        dsimp only at hx ⊢
        cases hre : zm_ret mr.1.2.2.2 i.1 st with
        | some r0 => rw [hre] at hx; exact hx
        | none =>
          rw [hre] at hx
          dsimp only at hx ⊢
          cases hpu : zm_pure i.1 i.2.2 b st with
          | some q =>
            rw [hpu] at hx
            obtain ⟨a', e1, e2⟩ := zm_pure_le hle hpu
            rw [e1]
            exact ih _ _ _ _ _ _ _ _ hx e2
          | none =>
            rw [hpu] at hx
            dsimp only at hx
            cases hbr : zm_br i.1 i.2.2 pc st with
            | some q =>
              rw [hbr] at hx
              have hib := zm_isB_of hbr
              rw [hpn hpu (by
                obtain ⟨i1, i2⟩ := i
                cases i1 <;> first | rfl | (cases hib; done))]
              exact ih _ _ _ _ _ _ _ _ hx hle
            | none =>
              rw [hbr] at hx
              dsimp only at hx
              cases hhp : zm_hp df og i.1 i.2.2 st h with
              | some q =>
                rw [hhp] at hx
                have hih := zm_isH_of hhp
                rw [hpn hpu (by
                  obtain ⟨i1, i2⟩ := i
                  cases i1 <;> first | rfl | (cases hih; done))]
                exact ih _ _ _ _ _ _ _ _ hx hle
              | none =>
                rw [hhp] at hx
                dsimp only at hx
                cases hca : zm_call i.1 i.2.2 st h with
                | none => rw [hca] at hx; cases hx
                | some q =>
                  rw [hca] at hx
                  dsimp only at hx
                  have hic := zm_isC_of hca
                  rw [hpn hpu (by
                    obtain ⟨i1, i2⟩ := i
                    cases i1 <;> first | rfl | (cases hic; done))]
                  dsimp only
                  cases d with
                  | zero => cases hx
                  | succ d =>
                    dsimp only at hx ⊢
                    cases hmc : P q.1 with
                    | none => rw [hmc] at hx; cases hx
                    | some mc =>
                      rw [hmc] at hx
                      dsimp only at hx ⊢
                      cases hb : Nat.ble (zm_cat q.2.1) mc.1.2.2.1 with
                      | false => rw [hb] at hx; cases hx
                      | true =>
                        rw [hb] at hx
                        simp only [cond_true] at hx ⊢
                        cases hw : zm_ex P df og n d q.1 0 (lv_args 0 q.2.1) [] h with
                        | none => rw [hw] at hx; cases hx
                        | some w =>
                          rw [hw] at hx
                          exact ih _ _ _ _ _ _ _ _ hx hle
theorem zy_sub (b : zm_L) {og : Nat → Option zm_C} {d mi pc : Nat} {a : zm_L} {st : List Value} {h : zm_H} {Q : Option Value → zm_H → Prop} (hn : (b.map (fun q => q.1)).Nodup) (hb : ∀ q ∈ b, zm_get a q.1 = some q.2) (k : zm_Y og d mi pc b st h Q) : zm_Y og d mi pc a st h Q := by
  obtain ⟨n, r, h', e, hq⟩ := k
  exact ⟨n, r, h', zm_ex_le _ _ _ _ _ _ _ _ _ e ⟨hn, fun k w hk => hb (k, w) (zm_get_mem hk)⟩, hq⟩
