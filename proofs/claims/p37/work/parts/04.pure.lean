/-! The machine goes as the small machine goes: steps without the heap -/
def zm_tr (ba : Nat) (ao : Nat → Nat) : Value → Value
  | .ref k => .ref (ba + k)
  | .retAddr j => .ref (ao j)
  | v => v
def zm_trl (ba : Nat) (ao : Nat → Nat) (ls : zm_L) : zm_L := ls.map (fun q => (q.1, zm_tr ba ao q.2))
theorem zm_tr_cat (ba : Nat) (ao : Nat → Nat) (v : Value) : (zm_tr ba ao v).category = v.category := by cases v <;> rfl
theorem zm_get_mem {ls : zm_L} {i : Nat} {v : Value} (h : zm_get ls i = some v) : (i, v) ∈ ls := by
  induction ls with
  | nil => simp [zm_get] at h
  | cons q t ih =>
    unfold zm_get at h
    cases hb : Nat.beq q.1 i with
    | true =>
      rw [hb] at h
      have e := Nat.eq_of_beq_eq_true hb
      simp only [cond_true, Option.some.injEq] at h
      subst h
      subst e
      exact List.mem_cons_self
    | false =>
      rw [hb] at h
      exact List.mem_cons_of_mem _ (ih h)
theorem zm_get_at {ba : Nat} {ao : Nat → Nat} {lsA : Array Slot} {nL : Nat} {ls : zm_L} {i : Nat} {v : Value} (h : lv_has lsA nL (zm_trl ba ao ls)) (hg : zm_get ls i = some v) : lsA[i]? = some (.val (zm_tr ba ao v)) :=
  h.2.2 (i, zm_tr ba ao v) (List.mem_map.mpr ⟨(i, v), zm_get_mem hg, rfl⟩)
theorem zm_st1_tr (ba : Nat) (ao : Nat → Nat) (ls : zm_L) (i : Nat) (v : Value) : (i, zm_tr ba ao v) :: (zm_trl ba ao ls).filter (fun q => !(q.1 == i) && !(q.1 + 1 == i && q.2.category == 2)) = zm_trl ba ao (zm_st1 ls i v) := by
  simp [zm_st1, zm_trl, List.filter_map, Function.comp_def, zm_tr_cat]
theorem zm_st2_tr (ba : Nat) (ao : Nat → Nat) (ls : zm_L) (i : Nat) (v : Value) : (i, zm_tr ba ao v) :: (zm_trl ba ao ls).filter (fun q => !(q.1 == i) && (!(q.1 == i + 1) && !(q.1 + 1 == i && q.2.category == 2))) = zm_trl ba ao (zm_st2 ls i v) := by
  simp [zm_st2, zm_trl, List.filter_map, Function.comp_def, zm_tr_cat]
/-- a word, by its place among the words -/
def zm_m (_TW : List Cond) (ps : List Nat) (j : Nat) (c : Cond) : Bool := match ps[j]? with
  | some p => (match zm_lk p with
    | some w => decide (w = c) && goodWord w
    | none => false)
  | none => false
theorem zm_m_in {ps : List Nat} {j : Nat} {c : Cond} (h : zm_m zm_W ps j c = true) : c ∈ zm_W := by
  unfold zm_m at h
  cases hp : ps[j]? with
  | none => rw [hp] at h; cases h
  | some p =>
    rw [hp] at h
    dsimp only at h
    cases hw : zm_lk p with
    | none => rw [hw] at h; cases h
    | some w =>
      rw [hw] at h
      simp only [Bool.and_eq_true, decide_eq_true_eq] at h
      obtain ⟨rfl, hg⟩ := h
      exact List.mem_filter.mpr ⟨zm_lk_in hw, hg⟩
abbrev zm_SS : Type := List (String × Nat × String × Nat)
def zm_sm (SS : zm_SS) (cls : String) (k j : Nat) : Bool := SS.any (fun q => decide (q.1 = cls) && (decide (q.2.1 = k) && decide (q.2.2.2 = j)))
def zm_ldok (TW : List Cond) (SS : zm_SS) (cls : String) (k : Nat) (x : zm_X) : Bool := match x.2.2.2.1 with
  | .int v => zm_m TW x.2.2.2.2 0 (.constant cls k v)
  | .retAddr j => zm_sm SS cls k j
  | _ => false
def zm_ldlok (TW : List Cond) (cls : String) (k : Nat) (x : zm_X) : Bool := match x.2.2.2.1 with
  | .long v => zm_m TW x.2.2.2.2 0 (.constantLong cls k v)
  | _ => false
/-- what a row must hold besides its decoding -/
def zm_pok (TW : List Cond) (SS : zm_SS) (cls : String) (maxL : Nat) (i : Jvm.ClassFile.Instr) (len : Nat) (x : zm_X) : Bool := match i with
  | .iconst n => decide (len = 1) && decide (x.2.2.2.1 = .int (Int32.ofInt n))
  | .bipush n => decide (len = 2) && decide (x.2.2.2.1 = .int (Int8.ofInt n).toInt32)
  | .sipush n => decide (len = 3) && decide (x.2.2.2.1 = .int (Int16.ofInt n).toInt32)
  | .lconst n => decide (len = 1) && decide (x.2.2.2.1 = .long (Int64.ofNat (n : Nat)))
  | .ldc k => decide (len = 2) && zm_ldok TW SS cls k x
  | .ldc_w k => decide (len = 3) && zm_ldok TW SS cls k x
  | .ldc2_w k => decide (len = 3) && zm_ldlok TW cls k x
  | .iload _ => decide (len = 2)
  | .lload _ => decide (len = 2)
  | .aload _ => decide (len = 2)
  | .istore k => decide (len = 2) && decide (k < maxL)
  | .lstore k => decide (len = 2) && decide (k + 1 < maxL)
  | .astore k => decide (len = 2) && decide (k < maxL)
  | .istore_n k => decide (len = 1) && decide (k.val < maxL)
  | .lstore_n k => decide (len = 1) && decide (k.val + 1 < maxL)
  | .astore_n k => decide (len = 1) && decide (k.val < maxL)
  | .iinc k n => decide (len = 3) && (decide (k < maxL) && decide (x.2.2.2.1 = .int (Int32.ofInt n)))
  | _ => decide (len = 1)
section ZMP
variable {p : Program} {l : Launch} {e : Env} {R : Room} {s : State} {m : MethodId} {args : Array Value} {below : List Frame} {meth : Method} {c : Code} {H : Heap} {locs : List Loc} {cells slots : Nat} {Q : State → Prop}
variable {cc : ByteArray} {pc : Nat} {lsA : Array Slot} {rest : List Value}
theorem zm_ldcwS (hexec : p.tables.exec = Jvm.exec) (hb : c.code = cc) {own tx : String} {index q : Nat} (hown : s.vm.findClass own = some m.cls) (hZ : vk_R own index tx q s) (hdg : decode cc pc = .ok (.ldc_w index, 3))
    (k : W p l e R s m args below meth c H locs cells slots Q (F0 m (pc + 3) lsA (.ref q :: rest))) : W p l e R s m args below meth c H locs cells slots Q (F0 m pc lsA rest) := by
  intro T hT X
  obtain ⟨t, a1, b1⟩ := k T hT X
  refine ⟨t, ?_, b1⟩
  obtain ⟨kk, cf, i, a', hk, hcf, hcp, -, hr, hev'⟩ := Cond.stringRef_spec hown hZ.1
  cases hZ.2.symm.trans hev'
  obtain ⟨k', hk', he⟩ := X.warmed.alike.2.2 _ _ hk
  have hr' : k'.resolved[index]? = some (some (.string q)) := by
    rcases X.warmed.entry hk hk' index with h | ⟨h, -⟩
    · rw [h]; exact hr
    · rw [hr] at h; cases h
  have hdg' : decode c.code (F0 m pc lsA rest).pc = .ok (.ldc_w index, 3) := by rw [hb]; exact hdg
  jvm_step X.here [hexec, hdg', Jvm.Op.ldc_w.wp_string (e := e) (s := T) (f := F0 m pc lsA rest) X.here.top hk' (by rw [he]; exact hcf) hcp hr']
  exact a1
variable {ba : Nat} {ao : Nat → Nat} {SS : zm_SS} {cls : String} {maxL len : Nat} {x : zm_X} {ls : zm_L} {st : List Value} {q : zm_L × List Value}
/-- what a heap-free step stands on -/
def zm_Cp (p : Program) (s : State) (m : MethodId) (args : Array Value) (c : Code) (cc : ByteArray) (ao : Nat → Nat) (TW : List Cond) (SS : zm_SS) (cls : String) : Prop :=
  p.tables.exec = Jvm.exec ∧ c.code = cc ∧ s.vm.findClass cls = some m.cls ∧ (∀ w ∈ TW, w.before args s = true) ∧ ∀ q ∈ SS, vk_R q.1 q.2.1 q.2.2.1 (ao q.2.2.2) s
theorem zm_ldc_ok {w : Bool} {k : Nat} (C : zm_Cp p s m args c cc ao zm_W SS cls) (hk : zm_ldok zm_W SS cls k x = true) (hd : decode cc pc = .ok (if w then (.ldc_w k, 3) else (.ldc k, 2)))
    (kk : W p l e R s m args below meth c H locs cells slots Q (F0 m (pc + (if w then 3 else 2)) lsA (zm_tr ba ao x.2.2.2.1 :: rest))) : W p l e R s m args below meth c H locs cells slots Q (F0 m pc lsA rest) := by
  obtain ⟨hx, hb, hown, hT, hS⟩ := C
  unfold zm_ldok at hk
  split at hk
  · rename_i v hv
    rw [hv] at kk
    have h1 := hT _ (zm_m_in hk)
    cases w with
    | true => exact lv_ldcw hx hb hown h1 hd kk
    | false => exact lv_ldc hx hb hown h1 hd kk
  · rename_i j hv
    rw [hv] at kk
    unfold zm_sm at hk
    obtain ⟨y, hy, h⟩ := List.any_eq_true.mp hk
    simp only [Bool.and_eq_true, decide_eq_true_eq] at h
    obtain ⟨h1, h2, h3⟩ := h
    have hr := hS y hy
    rw [h1, h2, h3] at hr
    cases w with
    | true => exact zm_ldcwS hx hb hown hr hd kk
    | false => exact va_ldcS hx hb hown hr hd kk
  · cases hk

theorem zm_p_iconst {n : Int} (C : zm_Cp p s m args c cc ao zm_W SS cls) (hd : decode cc pc = .ok ((.iconst n), len)) (hk : zm_pok zm_W SS cls maxL (.iconst n) len x = true) (hv : lv_has lsA maxL (zm_trl ba ao ls)) (hp : zm_pure (.iconst n) x ls st = some q)
    (kk : ∀ lsA, lv_has lsA maxL (zm_trl ba ao q.1) → W p l e R s m args below meth c H locs cells slots Q (F0 m (pc + len) lsA (q.2.map (zm_tr ba ao)))) : W p l e R s m args below meth c H locs cells slots Q (F0 m pc lsA (st.map (zm_tr ba ao))) := by
  obtain ⟨hx, hb, hown, hT, hS⟩ := id C
  simp only [zm_pok, Bool.and_eq_true, decide_eq_true_eq] at hk
  obtain ⟨rfl, hv2⟩ := hk
  simp only [zm_pure, Option.some.injEq] at hp
  subst hp
  have k1 := kk lsA hv
  simp only [List.map_cons, hv2, zm_tr] at k1
  exact lv_iconst hx hb hd rfl k1
theorem zm_p_bipush {n : Int} (C : zm_Cp p s m args c cc ao zm_W SS cls) (hd : decode cc pc = .ok ((.bipush n), len)) (hk : zm_pok zm_W SS cls maxL (.bipush n) len x = true) (hv : lv_has lsA maxL (zm_trl ba ao ls)) (hp : zm_pure (.bipush n) x ls st = some q)
    (kk : ∀ lsA, lv_has lsA maxL (zm_trl ba ao q.1) → W p l e R s m args below meth c H locs cells slots Q (F0 m (pc + len) lsA (q.2.map (zm_tr ba ao)))) : W p l e R s m args below meth c H locs cells slots Q (F0 m pc lsA (st.map (zm_tr ba ao))) := by
  obtain ⟨hx, hb, hown, hT, hS⟩ := id C
  simp only [zm_pok, Bool.and_eq_true, decide_eq_true_eq] at hk
  obtain ⟨rfl, hv2⟩ := hk
  simp only [zm_pure, Option.some.injEq] at hp
  subst hp
  have k1 := kk lsA hv
  simp only [List.map_cons, hv2, zm_tr] at k1
  exact lv_bipush hx hb hd rfl k1
theorem zm_p_sipush {n : Int} (C : zm_Cp p s m args c cc ao zm_W SS cls) (hd : decode cc pc = .ok ((.sipush n), len)) (hk : zm_pok zm_W SS cls maxL (.sipush n) len x = true) (hv : lv_has lsA maxL (zm_trl ba ao ls)) (hp : zm_pure (.sipush n) x ls st = some q)
    (kk : ∀ lsA, lv_has lsA maxL (zm_trl ba ao q.1) → W p l e R s m args below meth c H locs cells slots Q (F0 m (pc + len) lsA (q.2.map (zm_tr ba ao)))) : W p l e R s m args below meth c H locs cells slots Q (F0 m pc lsA (st.map (zm_tr ba ao))) := by
  obtain ⟨hx, hb, hown, hT, hS⟩ := id C
  simp only [zm_pok, Bool.and_eq_true, decide_eq_true_eq] at hk
  obtain ⟨rfl, hv2⟩ := hk
  simp only [zm_pure, Option.some.injEq] at hp
  subst hp
  have k1 := kk lsA hv
  simp only [List.map_cons, hv2, zm_tr] at k1
  exact lv_sipush hx hb hd rfl k1
theorem zm_p_lconst {n : Fin 2} (C : zm_Cp p s m args c cc ao zm_W SS cls) (hd : decode cc pc = .ok ((.lconst n), len)) (hk : zm_pok zm_W SS cls maxL (.lconst n) len x = true) (hv : lv_has lsA maxL (zm_trl ba ao ls)) (hp : zm_pure (.lconst n) x ls st = some q)
    (kk : ∀ lsA, lv_has lsA maxL (zm_trl ba ao q.1) → W p l e R s m args below meth c H locs cells slots Q (F0 m (pc + len) lsA (q.2.map (zm_tr ba ao)))) : W p l e R s m args below meth c H locs cells slots Q (F0 m pc lsA (st.map (zm_tr ba ao))) := by
  obtain ⟨hx, hb, hown, hT, hS⟩ := id C
  simp only [zm_pok, Bool.and_eq_true, decide_eq_true_eq] at hk
  obtain ⟨rfl, hv2⟩ := hk
  simp only [zm_pure, Option.some.injEq] at hp
  subst hp
  have k1 := kk lsA hv
  simp only [List.map_cons, hv2, zm_tr] at k1
  exact lv_lconst hx hb hd rfl k1
theorem zm_p_ldc {k : Nat} (C : zm_Cp p s m args c cc ao zm_W SS cls) (hd : decode cc pc = .ok ((.ldc k), len)) (hk : zm_pok zm_W SS cls maxL (.ldc k) len x = true) (hv : lv_has lsA maxL (zm_trl ba ao ls)) (hp : zm_pure (.ldc k) x ls st = some q)
    (kk : ∀ lsA, lv_has lsA maxL (zm_trl ba ao q.1) → W p l e R s m args below meth c H locs cells slots Q (F0 m (pc + len) lsA (q.2.map (zm_tr ba ao)))) : W p l e R s m args below meth c H locs cells slots Q (F0 m pc lsA (st.map (zm_tr ba ao))) := by
  obtain ⟨hx, hb, hown, hT, hS⟩ := id C
  simp only [zm_pok, Bool.and_eq_true, decide_eq_true_eq] at hk
  obtain ⟨rfl, hk⟩ := hk
  simp only [zm_pure, Option.some.injEq] at hp
  subst hp
  exact zm_ldc_ok (w := false) C hk hd (kk lsA hv)
theorem zm_p_ldc_w {k : Nat} (C : zm_Cp p s m args c cc ao zm_W SS cls) (hd : decode cc pc = .ok ((.ldc_w k), len)) (hk : zm_pok zm_W SS cls maxL (.ldc_w k) len x = true) (hv : lv_has lsA maxL (zm_trl ba ao ls)) (hp : zm_pure (.ldc_w k) x ls st = some q)
    (kk : ∀ lsA, lv_has lsA maxL (zm_trl ba ao q.1) → W p l e R s m args below meth c H locs cells slots Q (F0 m (pc + len) lsA (q.2.map (zm_tr ba ao)))) : W p l e R s m args below meth c H locs cells slots Q (F0 m pc lsA (st.map (zm_tr ba ao))) := by
  obtain ⟨hx, hb, hown, hT, hS⟩ := id C
  simp only [zm_pok, Bool.and_eq_true, decide_eq_true_eq] at hk
  obtain ⟨rfl, hk⟩ := hk
  simp only [zm_pure, Option.some.injEq] at hp
  subst hp
  exact zm_ldc_ok (w := true) C hk hd (kk lsA hv)
theorem zm_p_ldc2_w {k : Nat} (C : zm_Cp p s m args c cc ao zm_W SS cls) (hd : decode cc pc = .ok ((.ldc2_w k), len)) (hk : zm_pok zm_W SS cls maxL (.ldc2_w k) len x = true) (hv : lv_has lsA maxL (zm_trl ba ao ls)) (hp : zm_pure (.ldc2_w k) x ls st = some q)
    (kk : ∀ lsA, lv_has lsA maxL (zm_trl ba ao q.1) → W p l e R s m args below meth c H locs cells slots Q (F0 m (pc + len) lsA (q.2.map (zm_tr ba ao)))) : W p l e R s m args below meth c H locs cells slots Q (F0 m pc lsA (st.map (zm_tr ba ao))) := by
  obtain ⟨hx, hb, hown, hT, hS⟩ := id C
  simp only [zm_pok, Bool.and_eq_true, decide_eq_true_eq] at hk
  obtain ⟨rfl, hk⟩ := hk
  simp only [zm_pure, Option.some.injEq] at hp
  subst hp
  unfold zm_ldlok at hk
  split at hk
  · rename_i v hv2
    have k1 := kk lsA hv
    simp only [List.map_cons, hv2, zm_tr] at k1
    exact lv_ldc2 hx hb hown (hT _ (zm_m_in hk)) hd k1
  · cases hk
theorem zm_p_aconst_null (C : zm_Cp p s m args c cc ao zm_W SS cls) (hd : decode cc pc = .ok (.aconst_null, len)) (hk : zm_pok zm_W SS cls maxL .aconst_null len x = true) (hv : lv_has lsA maxL (zm_trl ba ao ls)) (hp : zm_pure .aconst_null x ls st = some q)
    (kk : ∀ lsA, lv_has lsA maxL (zm_trl ba ao q.1) → W p l e R s m args below meth c H locs cells slots Q (F0 m (pc + len) lsA (q.2.map (zm_tr ba ao)))) : W p l e R s m args below meth c H locs cells slots Q (F0 m pc lsA (st.map (zm_tr ba ao))) := by
  obtain ⟨hx, hb, hown, hT, hS⟩ := id C
  simp only [zm_pok, decide_eq_true_eq] at hk
  subst hk
  simp only [zm_pure, Option.some.injEq] at hp
  subst hp
  exact lv_null hx hb hd (kk lsA hv)
theorem zm_p_iload {k : Nat} (C : zm_Cp p s m args c cc ao zm_W SS cls) (hd : decode cc pc = .ok ((.iload k), len)) (hk : zm_pok zm_W SS cls maxL (.iload k) len x = true) (hv : lv_has lsA maxL (zm_trl ba ao ls)) (hp : zm_pure (.iload k) x ls st = some q)
    (kk : ∀ lsA, lv_has lsA maxL (zm_trl ba ao q.1) → W p l e R s m args below meth c H locs cells slots Q (F0 m (pc + len) lsA (q.2.map (zm_tr ba ao)))) : W p l e R s m args below meth c H locs cells slots Q (F0 m pc lsA (st.map (zm_tr ba ao))) := by
  obtain ⟨hx, hb, hown, hT, hS⟩ := id C
  simp only [zm_pok, decide_eq_true_eq] at hk
  subst hk
  simp only [zm_pure] at hp
  unfold zm_ldi at hp
  split at hp
  · rename_i a hg
    simp only [Option.some.injEq] at hp
    subst hp
    exact lv_iload hx hb hd (zm_get_at hv hg) (kk lsA hv)
  · cases hp
theorem zm_p_iload_n {k : Fin 4} (C : zm_Cp p s m args c cc ao zm_W SS cls) (hd : decode cc pc = .ok ((.iload_n k), len)) (hk : zm_pok zm_W SS cls maxL (.iload_n k) len x = true) (hv : lv_has lsA maxL (zm_trl ba ao ls)) (hp : zm_pure (.iload_n k) x ls st = some q)
    (kk : ∀ lsA, lv_has lsA maxL (zm_trl ba ao q.1) → W p l e R s m args below meth c H locs cells slots Q (F0 m (pc + len) lsA (q.2.map (zm_tr ba ao)))) : W p l e R s m args below meth c H locs cells slots Q (F0 m pc lsA (st.map (zm_tr ba ao))) := by
  obtain ⟨hx, hb, hown, hT, hS⟩ := id C
  simp only [zm_pok, decide_eq_true_eq] at hk
  subst hk
  simp only [zm_pure] at hp
  unfold zm_ldi at hp
  split at hp
  · rename_i a hg
    simp only [Option.some.injEq] at hp
    subst hp
    exact lv_iload_n hx hb hd rfl (zm_get_at hv hg) (kk lsA hv)
  · cases hp
theorem zm_p_lload {k : Nat} (C : zm_Cp p s m args c cc ao zm_W SS cls) (hd : decode cc pc = .ok ((.lload k), len)) (hk : zm_pok zm_W SS cls maxL (.lload k) len x = true) (hv : lv_has lsA maxL (zm_trl ba ao ls)) (hp : zm_pure (.lload k) x ls st = some q)
    (kk : ∀ lsA, lv_has lsA maxL (zm_trl ba ao q.1) → W p l e R s m args below meth c H locs cells slots Q (F0 m (pc + len) lsA (q.2.map (zm_tr ba ao)))) : W p l e R s m args below meth c H locs cells slots Q (F0 m pc lsA (st.map (zm_tr ba ao))) := by
  obtain ⟨hx, hb, hown, hT, hS⟩ := id C
  simp only [zm_pok, decide_eq_true_eq] at hk
  subst hk
  simp only [zm_pure] at hp
  unfold zm_ldl at hp
  split at hp
  · rename_i a hg
    simp only [Option.some.injEq] at hp
    subst hp
    exact lv_lload hx hb hd (zm_get_at hv hg) (kk lsA hv)
  · cases hp
theorem zm_p_lload_n {k : Fin 4} (C : zm_Cp p s m args c cc ao zm_W SS cls) (hd : decode cc pc = .ok ((.lload_n k), len)) (hk : zm_pok zm_W SS cls maxL (.lload_n k) len x = true) (hv : lv_has lsA maxL (zm_trl ba ao ls)) (hp : zm_pure (.lload_n k) x ls st = some q)
    (kk : ∀ lsA, lv_has lsA maxL (zm_trl ba ao q.1) → W p l e R s m args below meth c H locs cells slots Q (F0 m (pc + len) lsA (q.2.map (zm_tr ba ao)))) : W p l e R s m args below meth c H locs cells slots Q (F0 m pc lsA (st.map (zm_tr ba ao))) := by
  obtain ⟨hx, hb, hown, hT, hS⟩ := id C
  simp only [zm_pok, decide_eq_true_eq] at hk
  subst hk
  simp only [zm_pure] at hp
  unfold zm_ldl at hp
  split at hp
  · rename_i a hg
    simp only [Option.some.injEq] at hp
    subst hp
    exact lv_lload_n hx hb hd rfl (zm_get_at hv hg) (kk lsA hv)
  · cases hp
theorem zm_p_aload {k : Nat} (C : zm_Cp p s m args c cc ao zm_W SS cls) (hd : decode cc pc = .ok ((.aload k), len)) (hk : zm_pok zm_W SS cls maxL (.aload k) len x = true) (hv : lv_has lsA maxL (zm_trl ba ao ls)) (hp : zm_pure (.aload k) x ls st = some q)
    (kk : ∀ lsA, lv_has lsA maxL (zm_trl ba ao q.1) → W p l e R s m args below meth c H locs cells slots Q (F0 m (pc + len) lsA (q.2.map (zm_tr ba ao)))) : W p l e R s m args below meth c H locs cells slots Q (F0 m pc lsA (st.map (zm_tr ba ao))) := by
  obtain ⟨hx, hb, hown, hT, hS⟩ := id C
  simp only [zm_pok, decide_eq_true_eq] at hk
  subst hk
  simp only [zm_pure] at hp
  unfold zm_lda at hp
  split at hp
  · rename_i a hg
    simp only [Option.some.injEq] at hp
    subst hp
    exact lv_aload hx hb hd (zm_get_at hv hg) (kk lsA hv)
  · rename_i hg
    simp only [Option.some.injEq] at hp
    subst hp
    exact lv_aloadN hx hb hd (zm_get_at hv hg) (kk lsA hv)
  · rename_i a hg
    simp only [Option.some.injEq] at hp
    subst hp
    exact lv_aload hx hb hd (zm_get_at hv hg) (kk lsA hv)
  · cases hp
theorem zm_p_aload_n {k : Fin 4} (C : zm_Cp p s m args c cc ao zm_W SS cls) (hd : decode cc pc = .ok ((.aload_n k), len)) (hk : zm_pok zm_W SS cls maxL (.aload_n k) len x = true) (hv : lv_has lsA maxL (zm_trl ba ao ls)) (hp : zm_pure (.aload_n k) x ls st = some q)
    (kk : ∀ lsA, lv_has lsA maxL (zm_trl ba ao q.1) → W p l e R s m args below meth c H locs cells slots Q (F0 m (pc + len) lsA (q.2.map (zm_tr ba ao)))) : W p l e R s m args below meth c H locs cells slots Q (F0 m pc lsA (st.map (zm_tr ba ao))) := by
  obtain ⟨hx, hb, hown, hT, hS⟩ := id C
  simp only [zm_pok, decide_eq_true_eq] at hk
  subst hk
  simp only [zm_pure] at hp
  unfold zm_lda at hp
  split at hp
  · rename_i a hg
    simp only [Option.some.injEq] at hp
    subst hp
    exact lv_aload_n hx hb hd rfl (zm_get_at hv hg) (kk lsA hv)
  · rename_i hg
    simp only [Option.some.injEq] at hp
    subst hp
    exact lv_aload_nN hx hb hd rfl (zm_get_at hv hg) (kk lsA hv)
  · rename_i a hg
    simp only [Option.some.injEq] at hp
    subst hp
    exact lv_aload_n hx hb hd rfl (zm_get_at hv hg) (kk lsA hv)
  · cases hp
theorem zm_p_istore {k : Nat} (C : zm_Cp p s m args c cc ao zm_W SS cls) (hd : decode cc pc = .ok ((.istore k), len)) (hk : zm_pok zm_W SS cls maxL (.istore k) len x = true) (hv : lv_has lsA maxL (zm_trl ba ao ls)) (hp : zm_pure (.istore k) x ls st = some q)
    (kk : ∀ lsA, lv_has lsA maxL (zm_trl ba ao q.1) → W p l e R s m args below meth c H locs cells slots Q (F0 m (pc + len) lsA (q.2.map (zm_tr ba ao)))) : W p l e R s m args below meth c H locs cells slots Q (F0 m pc lsA (st.map (zm_tr ba ao))) := by
  obtain ⟨hx, hb, hown, hT, hS⟩ := id C
  simp only [zm_pok, Bool.and_eq_true, decide_eq_true_eq] at hk
  obtain ⟨rfl, hk⟩ := hk
  simp only [zm_pure] at hp
  unfold zm_sti at hp
  split at hp
  · rename_i a st2
    simp only [Option.some.injEq] at hp
    subst hp
    exact lv_istore hx hb hd hv hk (zm_st1_tr ba ao ls _ (.int a)) (fun ls2 h2 => kk ls2 h2)
  · cases hp
theorem zm_p_istore_n {k : Fin 4} (C : zm_Cp p s m args c cc ao zm_W SS cls) (hd : decode cc pc = .ok ((.istore_n k), len)) (hk : zm_pok zm_W SS cls maxL (.istore_n k) len x = true) (hv : lv_has lsA maxL (zm_trl ba ao ls)) (hp : zm_pure (.istore_n k) x ls st = some q)
    (kk : ∀ lsA, lv_has lsA maxL (zm_trl ba ao q.1) → W p l e R s m args below meth c H locs cells slots Q (F0 m (pc + len) lsA (q.2.map (zm_tr ba ao)))) : W p l e R s m args below meth c H locs cells slots Q (F0 m pc lsA (st.map (zm_tr ba ao))) := by
  obtain ⟨hx, hb, hown, hT, hS⟩ := id C
  simp only [zm_pok, Bool.and_eq_true, decide_eq_true_eq] at hk
  obtain ⟨rfl, hk⟩ := hk
  simp only [zm_pure] at hp
  unfold zm_sti at hp
  split at hp
  · rename_i a st2
    simp only [Option.some.injEq] at hp
    subst hp
    exact lv_istore_n hx hb hd rfl hv hk (zm_st1_tr ba ao ls _ (.int a)) (fun ls2 h2 => kk ls2 h2)
  · cases hp
theorem zm_p_lstore {k : Nat} (C : zm_Cp p s m args c cc ao zm_W SS cls) (hd : decode cc pc = .ok ((.lstore k), len)) (hk : zm_pok zm_W SS cls maxL (.lstore k) len x = true) (hv : lv_has lsA maxL (zm_trl ba ao ls)) (hp : zm_pure (.lstore k) x ls st = some q)
    (kk : ∀ lsA, lv_has lsA maxL (zm_trl ba ao q.1) → W p l e R s m args below meth c H locs cells slots Q (F0 m (pc + len) lsA (q.2.map (zm_tr ba ao)))) : W p l e R s m args below meth c H locs cells slots Q (F0 m pc lsA (st.map (zm_tr ba ao))) := by
  obtain ⟨hx, hb, hown, hT, hS⟩ := id C
  simp only [zm_pok, Bool.and_eq_true, decide_eq_true_eq] at hk
  obtain ⟨rfl, hk⟩ := hk
  simp only [zm_pure] at hp
  unfold zm_stl at hp
  split at hp
  · rename_i a st2
    simp only [Option.some.injEq] at hp
    subst hp
    exact lv_lstore hx hb hd hv hk (zm_st2_tr ba ao ls _ (.long a)) (fun ls2 h2 => kk ls2 h2)
  · cases hp
theorem zm_p_lstore_n {k : Fin 4} (C : zm_Cp p s m args c cc ao zm_W SS cls) (hd : decode cc pc = .ok ((.lstore_n k), len)) (hk : zm_pok zm_W SS cls maxL (.lstore_n k) len x = true) (hv : lv_has lsA maxL (zm_trl ba ao ls)) (hp : zm_pure (.lstore_n k) x ls st = some q)
    (kk : ∀ lsA, lv_has lsA maxL (zm_trl ba ao q.1) → W p l e R s m args below meth c H locs cells slots Q (F0 m (pc + len) lsA (q.2.map (zm_tr ba ao)))) : W p l e R s m args below meth c H locs cells slots Q (F0 m pc lsA (st.map (zm_tr ba ao))) := by
  obtain ⟨hx, hb, hown, hT, hS⟩ := id C
  simp only [zm_pok, Bool.and_eq_true, decide_eq_true_eq] at hk
  obtain ⟨rfl, hk⟩ := hk
  simp only [zm_pure] at hp
  unfold zm_stl at hp
  split at hp
  · rename_i a st2
    simp only [Option.some.injEq] at hp
    subst hp
    exact lv_lstore_n hx hb hd rfl hv hk (zm_st2_tr ba ao ls _ (.long a)) (fun ls2 h2 => kk ls2 h2)
  · cases hp
theorem zm_p_astore {k : Nat} (C : zm_Cp p s m args c cc ao zm_W SS cls) (hd : decode cc pc = .ok ((.astore k), len)) (hk : zm_pok zm_W SS cls maxL (.astore k) len x = true) (hv : lv_has lsA maxL (zm_trl ba ao ls)) (hp : zm_pure (.astore k) x ls st = some q)
    (kk : ∀ lsA, lv_has lsA maxL (zm_trl ba ao q.1) → W p l e R s m args below meth c H locs cells slots Q (F0 m (pc + len) lsA (q.2.map (zm_tr ba ao)))) : W p l e R s m args below meth c H locs cells slots Q (F0 m pc lsA (st.map (zm_tr ba ao))) := by
  obtain ⟨hx, hb, hown, hT, hS⟩ := id C
  simp only [zm_pok, Bool.and_eq_true, decide_eq_true_eq] at hk
  obtain ⟨rfl, hk⟩ := hk
  simp only [zm_pure] at hp
  unfold zm_sta at hp
  split at hp
  · rename_i a st2
    simp only [Option.some.injEq] at hp
    subst hp
    exact lv_astore hx hb hd hv hk (zm_st1_tr ba ao ls _ (.ref a)) (fun ls2 h2 => kk ls2 h2)
  · rename_i st2
    simp only [Option.some.injEq] at hp
    subst hp
    exact lv_astoreN hx hb hd hv hk (zm_st1_tr ba ao ls _ .null) (fun ls2 h2 => kk ls2 h2)
  · rename_i a st2
    simp only [Option.some.injEq] at hp
    subst hp
    exact lv_astore hx hb hd hv hk (zm_st1_tr ba ao ls _ (.retAddr a)) (fun ls2 h2 => kk ls2 h2)
  · cases hp
theorem zm_p_astore_n {k : Fin 4} (C : zm_Cp p s m args c cc ao zm_W SS cls) (hd : decode cc pc = .ok ((.astore_n k), len)) (hk : zm_pok zm_W SS cls maxL (.astore_n k) len x = true) (hv : lv_has lsA maxL (zm_trl ba ao ls)) (hp : zm_pure (.astore_n k) x ls st = some q)
    (kk : ∀ lsA, lv_has lsA maxL (zm_trl ba ao q.1) → W p l e R s m args below meth c H locs cells slots Q (F0 m (pc + len) lsA (q.2.map (zm_tr ba ao)))) : W p l e R s m args below meth c H locs cells slots Q (F0 m pc lsA (st.map (zm_tr ba ao))) := by
  obtain ⟨hx, hb, hown, hT, hS⟩ := id C
  simp only [zm_pok, Bool.and_eq_true, decide_eq_true_eq] at hk
  obtain ⟨rfl, hk⟩ := hk
  simp only [zm_pure] at hp
  unfold zm_sta at hp
  split at hp
  · rename_i a st2
    simp only [Option.some.injEq] at hp
    subst hp
    exact lv_astore_n hx hb hd rfl hv hk (zm_st1_tr ba ao ls _ (.ref a)) (fun ls2 h2 => kk ls2 h2)
  · rename_i st2
    simp only [Option.some.injEq] at hp
    subst hp
    exact lv_astore_nN hx hb hd rfl hv hk (zm_st1_tr ba ao ls _ .null) (fun ls2 h2 => kk ls2 h2)
  · rename_i a st2
    simp only [Option.some.injEq] at hp
    subst hp
    exact lv_astore_n hx hb hd rfl hv hk (zm_st1_tr ba ao ls _ (.retAddr a)) (fun ls2 h2 => kk ls2 h2)
  · cases hp
theorem zm_p_iinc {k : Nat} {n : Int} (C : zm_Cp p s m args c cc ao zm_W SS cls) (hd : decode cc pc = .ok ((.iinc k n), len)) (hk : zm_pok zm_W SS cls maxL (.iinc k n) len x = true) (hv : lv_has lsA maxL (zm_trl ba ao ls)) (hp : zm_pure (.iinc k n) x ls st = some q)
    (kk : ∀ lsA, lv_has lsA maxL (zm_trl ba ao q.1) → W p l e R s m args below meth c H locs cells slots Q (F0 m (pc + len) lsA (q.2.map (zm_tr ba ao)))) : W p l e R s m args below meth c H locs cells slots Q (F0 m pc lsA (st.map (zm_tr ba ao))) := by
  obtain ⟨hx, hb, hown, hT, hS⟩ := id C
  simp only [zm_pok, Bool.and_eq_true, decide_eq_true_eq] at hk
  obtain ⟨rfl, hk, hc⟩ := hk
  simp only [zm_pure] at hp
  unfold zm_iinc at hp
  rw [hc] at hp
  split at hp
  · rename_i a c2 hg hc2
    cases hc2
    simp only [Option.some.injEq] at hp
    subst hp
    obtain ⟨j, hj⟩ := List.getElem?_of_mem (List.mem_map.mpr ⟨(k, Value.int a), zm_get_mem hg, rfl⟩ : (k, Value.int a) ∈ zm_trl ba ao ls)
    exact lv_iinc hx hb hd hv hj rfl hk (zm_st1_tr ba ao ls _ (.int (a + Int32.ofInt n))) (fun ls2 h2 => kk ls2 h2)
  · cases hp
theorem zm_p_iadd (C : zm_Cp p s m args c cc ao zm_W SS cls) (hd : decode cc pc = .ok (.iadd, len)) (hk : zm_pok zm_W SS cls maxL .iadd len x = true) (hv : lv_has lsA maxL (zm_trl ba ao ls)) (hp : zm_pure .iadd x ls st = some q)
    (kk : ∀ lsA, lv_has lsA maxL (zm_trl ba ao q.1) → W p l e R s m args below meth c H locs cells slots Q (F0 m (pc + len) lsA (q.2.map (zm_tr ba ao)))) : W p l e R s m args below meth c H locs cells slots Q (F0 m pc lsA (st.map (zm_tr ba ao))) := by
  obtain ⟨hx, hb, hown, hT, hS⟩ := id C
  simp only [zm_pok, decide_eq_true_eq] at hk
  subst hk
  simp only [zm_pure] at hp
  unfold zm_ii at hp
  split at hp
  · rename_i b a st2
    simp only [Option.some.injEq] at hp
    subst hp
    exact lv_iadd hx hb hd (kk lsA hv)
  · cases hp
theorem zm_p_isub (C : zm_Cp p s m args c cc ao zm_W SS cls) (hd : decode cc pc = .ok (.isub, len)) (hk : zm_pok zm_W SS cls maxL .isub len x = true) (hv : lv_has lsA maxL (zm_trl ba ao ls)) (hp : zm_pure .isub x ls st = some q)
    (kk : ∀ lsA, lv_has lsA maxL (zm_trl ba ao q.1) → W p l e R s m args below meth c H locs cells slots Q (F0 m (pc + len) lsA (q.2.map (zm_tr ba ao)))) : W p l e R s m args below meth c H locs cells slots Q (F0 m pc lsA (st.map (zm_tr ba ao))) := by
  obtain ⟨hx, hb, hown, hT, hS⟩ := id C
  simp only [zm_pok, decide_eq_true_eq] at hk
  subst hk
  simp only [zm_pure] at hp
  unfold zm_ii at hp
  split at hp
  · rename_i b a st2
    simp only [Option.some.injEq] at hp
    subst hp
    exact lv_isub hx hb hd (kk lsA hv)
  · cases hp
theorem zm_p_imul (C : zm_Cp p s m args c cc ao zm_W SS cls) (hd : decode cc pc = .ok (.imul, len)) (hk : zm_pok zm_W SS cls maxL .imul len x = true) (hv : lv_has lsA maxL (zm_trl ba ao ls)) (hp : zm_pure .imul x ls st = some q)
    (kk : ∀ lsA, lv_has lsA maxL (zm_trl ba ao q.1) → W p l e R s m args below meth c H locs cells slots Q (F0 m (pc + len) lsA (q.2.map (zm_tr ba ao)))) : W p l e R s m args below meth c H locs cells slots Q (F0 m pc lsA (st.map (zm_tr ba ao))) := by
  obtain ⟨hx, hb, hown, hT, hS⟩ := id C
  simp only [zm_pok, decide_eq_true_eq] at hk
  subst hk
  simp only [zm_pure] at hp
  unfold zm_ii at hp
  split at hp
  · rename_i b a st2
    simp only [Option.some.injEq] at hp
    subst hp
    exact lv_imul hx hb hd (kk lsA hv)
  · cases hp
theorem zm_p_iand (C : zm_Cp p s m args c cc ao zm_W SS cls) (hd : decode cc pc = .ok (.iand, len)) (hk : zm_pok zm_W SS cls maxL .iand len x = true) (hv : lv_has lsA maxL (zm_trl ba ao ls)) (hp : zm_pure .iand x ls st = some q)
    (kk : ∀ lsA, lv_has lsA maxL (zm_trl ba ao q.1) → W p l e R s m args below meth c H locs cells slots Q (F0 m (pc + len) lsA (q.2.map (zm_tr ba ao)))) : W p l e R s m args below meth c H locs cells slots Q (F0 m pc lsA (st.map (zm_tr ba ao))) := by
  obtain ⟨hx, hb, hown, hT, hS⟩ := id C
  simp only [zm_pok, decide_eq_true_eq] at hk
  subst hk
  simp only [zm_pure] at hp
  unfold zm_ii at hp
  split at hp
  · rename_i b a st2
    simp only [Option.some.injEq] at hp
    subst hp
    exact lv_iand hx hb hd (kk lsA hv)
  · cases hp
theorem zm_p_ior (C : zm_Cp p s m args c cc ao zm_W SS cls) (hd : decode cc pc = .ok (.ior, len)) (hk : zm_pok zm_W SS cls maxL .ior len x = true) (hv : lv_has lsA maxL (zm_trl ba ao ls)) (hp : zm_pure .ior x ls st = some q)
    (kk : ∀ lsA, lv_has lsA maxL (zm_trl ba ao q.1) → W p l e R s m args below meth c H locs cells slots Q (F0 m (pc + len) lsA (q.2.map (zm_tr ba ao)))) : W p l e R s m args below meth c H locs cells slots Q (F0 m pc lsA (st.map (zm_tr ba ao))) := by
  obtain ⟨hx, hb, hown, hT, hS⟩ := id C
  simp only [zm_pok, decide_eq_true_eq] at hk
  subst hk
  simp only [zm_pure] at hp
  unfold zm_ii at hp
  split at hp
  · rename_i b a st2
    simp only [Option.some.injEq] at hp
    subst hp
    exact lv_ior hx hb hd (kk lsA hv)
  · cases hp
theorem zm_p_ixor (C : zm_Cp p s m args c cc ao zm_W SS cls) (hd : decode cc pc = .ok (.ixor, len)) (hk : zm_pok zm_W SS cls maxL .ixor len x = true) (hv : lv_has lsA maxL (zm_trl ba ao ls)) (hp : zm_pure .ixor x ls st = some q)
    (kk : ∀ lsA, lv_has lsA maxL (zm_trl ba ao q.1) → W p l e R s m args below meth c H locs cells slots Q (F0 m (pc + len) lsA (q.2.map (zm_tr ba ao)))) : W p l e R s m args below meth c H locs cells slots Q (F0 m pc lsA (st.map (zm_tr ba ao))) := by
  obtain ⟨hx, hb, hown, hT, hS⟩ := id C
  simp only [zm_pok, decide_eq_true_eq] at hk
  subst hk
  simp only [zm_pure] at hp
  unfold zm_ii at hp
  split at hp
  · rename_i b a st2
    simp only [Option.some.injEq] at hp
    subst hp
    exact lv_ixor hx hb hd (kk lsA hv)
  · cases hp
theorem zm_p_ishl (C : zm_Cp p s m args c cc ao zm_W SS cls) (hd : decode cc pc = .ok (.ishl, len)) (hk : zm_pok zm_W SS cls maxL .ishl len x = true) (hv : lv_has lsA maxL (zm_trl ba ao ls)) (hp : zm_pure .ishl x ls st = some q)
    (kk : ∀ lsA, lv_has lsA maxL (zm_trl ba ao q.1) → W p l e R s m args below meth c H locs cells slots Q (F0 m (pc + len) lsA (q.2.map (zm_tr ba ao)))) : W p l e R s m args below meth c H locs cells slots Q (F0 m pc lsA (st.map (zm_tr ba ao))) := by
  obtain ⟨hx, hb, hown, hT, hS⟩ := id C
  simp only [zm_pok, decide_eq_true_eq] at hk
  subst hk
  simp only [zm_pure] at hp
  unfold zm_ii at hp
  split at hp
  · rename_i b a st2
    simp only [Option.some.injEq] at hp
    subst hp
    exact lv_ishl hx hb hd (kk lsA hv)
  · cases hp
theorem zm_p_ishr (C : zm_Cp p s m args c cc ao zm_W SS cls) (hd : decode cc pc = .ok (.ishr, len)) (hk : zm_pok zm_W SS cls maxL .ishr len x = true) (hv : lv_has lsA maxL (zm_trl ba ao ls)) (hp : zm_pure .ishr x ls st = some q)
    (kk : ∀ lsA, lv_has lsA maxL (zm_trl ba ao q.1) → W p l e R s m args below meth c H locs cells slots Q (F0 m (pc + len) lsA (q.2.map (zm_tr ba ao)))) : W p l e R s m args below meth c H locs cells slots Q (F0 m pc lsA (st.map (zm_tr ba ao))) := by
  obtain ⟨hx, hb, hown, hT, hS⟩ := id C
  simp only [zm_pok, decide_eq_true_eq] at hk
  subst hk
  simp only [zm_pure] at hp
  unfold zm_ii at hp
  split at hp
  · rename_i b a st2
    simp only [Option.some.injEq] at hp
    subst hp
    exact lv_ishr hx hb hd (kk lsA hv)
  · cases hp
theorem zm_p_iushr (C : zm_Cp p s m args c cc ao zm_W SS cls) (hd : decode cc pc = .ok (.iushr, len)) (hk : zm_pok zm_W SS cls maxL .iushr len x = true) (hv : lv_has lsA maxL (zm_trl ba ao ls)) (hp : zm_pure .iushr x ls st = some q)
    (kk : ∀ lsA, lv_has lsA maxL (zm_trl ba ao q.1) → W p l e R s m args below meth c H locs cells slots Q (F0 m (pc + len) lsA (q.2.map (zm_tr ba ao)))) : W p l e R s m args below meth c H locs cells slots Q (F0 m pc lsA (st.map (zm_tr ba ao))) := by
  obtain ⟨hx, hb, hown, hT, hS⟩ := id C
  simp only [zm_pok, decide_eq_true_eq] at hk
  subst hk
  simp only [zm_pure] at hp
  unfold zm_ii at hp
  split at hp
  · rename_i b a st2
    simp only [Option.some.injEq] at hp
    subst hp
    exact lv_iushr hx hb hd rfl (kk lsA hv)
  · cases hp
theorem zm_p_ladd (C : zm_Cp p s m args c cc ao zm_W SS cls) (hd : decode cc pc = .ok (.ladd, len)) (hk : zm_pok zm_W SS cls maxL .ladd len x = true) (hv : lv_has lsA maxL (zm_trl ba ao ls)) (hp : zm_pure .ladd x ls st = some q)
    (kk : ∀ lsA, lv_has lsA maxL (zm_trl ba ao q.1) → W p l e R s m args below meth c H locs cells slots Q (F0 m (pc + len) lsA (q.2.map (zm_tr ba ao)))) : W p l e R s m args below meth c H locs cells slots Q (F0 m pc lsA (st.map (zm_tr ba ao))) := by
  obtain ⟨hx, hb, hown, hT, hS⟩ := id C
  simp only [zm_pok, decide_eq_true_eq] at hk
  subst hk
  simp only [zm_pure] at hp
  unfold zm_ll at hp
  split at hp
  · rename_i b a st2
    simp only [Option.some.injEq] at hp
    subst hp
    exact lv_ladd hx hb hd (kk lsA hv)
  · cases hp
theorem zm_p_lsub (C : zm_Cp p s m args c cc ao zm_W SS cls) (hd : decode cc pc = .ok (.lsub, len)) (hk : zm_pok zm_W SS cls maxL .lsub len x = true) (hv : lv_has lsA maxL (zm_trl ba ao ls)) (hp : zm_pure .lsub x ls st = some q)
    (kk : ∀ lsA, lv_has lsA maxL (zm_trl ba ao q.1) → W p l e R s m args below meth c H locs cells slots Q (F0 m (pc + len) lsA (q.2.map (zm_tr ba ao)))) : W p l e R s m args below meth c H locs cells slots Q (F0 m pc lsA (st.map (zm_tr ba ao))) := by
  obtain ⟨hx, hb, hown, hT, hS⟩ := id C
  simp only [zm_pok, decide_eq_true_eq] at hk
  subst hk
  simp only [zm_pure] at hp
  unfold zm_ll at hp
  split at hp
  · rename_i b a st2
    simp only [Option.some.injEq] at hp
    subst hp
    exact lv_lsub hx hb hd (kk lsA hv)
  · cases hp
theorem zm_p_lmul (C : zm_Cp p s m args c cc ao zm_W SS cls) (hd : decode cc pc = .ok (.lmul, len)) (hk : zm_pok zm_W SS cls maxL .lmul len x = true) (hv : lv_has lsA maxL (zm_trl ba ao ls)) (hp : zm_pure .lmul x ls st = some q)
    (kk : ∀ lsA, lv_has lsA maxL (zm_trl ba ao q.1) → W p l e R s m args below meth c H locs cells slots Q (F0 m (pc + len) lsA (q.2.map (zm_tr ba ao)))) : W p l e R s m args below meth c H locs cells slots Q (F0 m pc lsA (st.map (zm_tr ba ao))) := by
  obtain ⟨hx, hb, hown, hT, hS⟩ := id C
  simp only [zm_pok, decide_eq_true_eq] at hk
  subst hk
  simp only [zm_pure] at hp
  unfold zm_ll at hp
  split at hp
  · rename_i b a st2
    simp only [Option.some.injEq] at hp
    subst hp
    exact lv_lmul hx hb hd (kk lsA hv)
  · cases hp
theorem zm_p_land (C : zm_Cp p s m args c cc ao zm_W SS cls) (hd : decode cc pc = .ok (.land, len)) (hk : zm_pok zm_W SS cls maxL .land len x = true) (hv : lv_has lsA maxL (zm_trl ba ao ls)) (hp : zm_pure .land x ls st = some q)
    (kk : ∀ lsA, lv_has lsA maxL (zm_trl ba ao q.1) → W p l e R s m args below meth c H locs cells slots Q (F0 m (pc + len) lsA (q.2.map (zm_tr ba ao)))) : W p l e R s m args below meth c H locs cells slots Q (F0 m pc lsA (st.map (zm_tr ba ao))) := by
  obtain ⟨hx, hb, hown, hT, hS⟩ := id C
  simp only [zm_pok, decide_eq_true_eq] at hk
  subst hk
  simp only [zm_pure] at hp
  unfold zm_ll at hp
  split at hp
  · rename_i b a st2
    simp only [Option.some.injEq] at hp
    subst hp
    exact lv_land hx hb hd (kk lsA hv)
  · cases hp
theorem zm_p_lor (C : zm_Cp p s m args c cc ao zm_W SS cls) (hd : decode cc pc = .ok (.lor, len)) (hk : zm_pok zm_W SS cls maxL .lor len x = true) (hv : lv_has lsA maxL (zm_trl ba ao ls)) (hp : zm_pure .lor x ls st = some q)
    (kk : ∀ lsA, lv_has lsA maxL (zm_trl ba ao q.1) → W p l e R s m args below meth c H locs cells slots Q (F0 m (pc + len) lsA (q.2.map (zm_tr ba ao)))) : W p l e R s m args below meth c H locs cells slots Q (F0 m pc lsA (st.map (zm_tr ba ao))) := by
  obtain ⟨hx, hb, hown, hT, hS⟩ := id C
  simp only [zm_pok, decide_eq_true_eq] at hk
  subst hk
  simp only [zm_pure] at hp
  unfold zm_ll at hp
  split at hp
  · rename_i b a st2
    simp only [Option.some.injEq] at hp
    subst hp
    exact lv_lor hx hb hd (kk lsA hv)
  · cases hp
theorem zm_p_idiv (C : zm_Cp p s m args c cc ao zm_W SS cls) (hd : decode cc pc = .ok (.idiv, len)) (hk : zm_pok zm_W SS cls maxL .idiv len x = true) (hv : lv_has lsA maxL (zm_trl ba ao ls)) (hp : zm_pure .idiv x ls st = some q)
    (kk : ∀ lsA, lv_has lsA maxL (zm_trl ba ao q.1) → W p l e R s m args below meth c H locs cells slots Q (F0 m (pc + len) lsA (q.2.map (zm_tr ba ao)))) : W p l e R s m args below meth c H locs cells slots Q (F0 m pc lsA (st.map (zm_tr ba ao))) := by
  obtain ⟨hx, hb, hown, hT, hS⟩ := id C
  simp only [zm_pok, decide_eq_true_eq] at hk
  subst hk
  simp only [zm_pure] at hp
  unfold zm_iz at hp
  split at hp
  · rename_i b a st2
    split at hp
    · cases hp
    · rename_i hz
      simp only [Option.some.injEq] at hp
      subst hp
      exact lv_idiv hx hb hd hz (kk lsA hv)
  · cases hp
theorem zm_p_irem (C : zm_Cp p s m args c cc ao zm_W SS cls) (hd : decode cc pc = .ok (.irem, len)) (hk : zm_pok zm_W SS cls maxL .irem len x = true) (hv : lv_has lsA maxL (zm_trl ba ao ls)) (hp : zm_pure .irem x ls st = some q)
    (kk : ∀ lsA, lv_has lsA maxL (zm_trl ba ao q.1) → W p l e R s m args below meth c H locs cells slots Q (F0 m (pc + len) lsA (q.2.map (zm_tr ba ao)))) : W p l e R s m args below meth c H locs cells slots Q (F0 m pc lsA (st.map (zm_tr ba ao))) := by
  obtain ⟨hx, hb, hown, hT, hS⟩ := id C
  simp only [zm_pok, decide_eq_true_eq] at hk
  subst hk
  simp only [zm_pure] at hp
  unfold zm_iz at hp
  split at hp
  · rename_i b a st2
    split at hp
    · cases hp
    · rename_i hz
      simp only [Option.some.injEq] at hp
      subst hp
      exact lv_irem hx hb hd hz (kk lsA hv)
  · cases hp
theorem zm_p_ldiv (C : zm_Cp p s m args c cc ao zm_W SS cls) (hd : decode cc pc = .ok (.ldiv, len)) (hk : zm_pok zm_W SS cls maxL .ldiv len x = true) (hv : lv_has lsA maxL (zm_trl ba ao ls)) (hp : zm_pure .ldiv x ls st = some q)
    (kk : ∀ lsA, lv_has lsA maxL (zm_trl ba ao q.1) → W p l e R s m args below meth c H locs cells slots Q (F0 m (pc + len) lsA (q.2.map (zm_tr ba ao)))) : W p l e R s m args below meth c H locs cells slots Q (F0 m pc lsA (st.map (zm_tr ba ao))) := by
  obtain ⟨hx, hb, hown, hT, hS⟩ := id C
  simp only [zm_pok, decide_eq_true_eq] at hk
  subst hk
  simp only [zm_pure] at hp
  unfold zm_lz at hp
  split at hp
  · rename_i b a st2
    split at hp
    · cases hp
    · rename_i hz
      simp only [Option.some.injEq] at hp
      subst hp
      exact lv_ldiv hx hb hd hz (kk lsA hv)
  · cases hp
theorem zm_p_ineg (C : zm_Cp p s m args c cc ao zm_W SS cls) (hd : decode cc pc = .ok (.ineg, len)) (hk : zm_pok zm_W SS cls maxL .ineg len x = true) (hv : lv_has lsA maxL (zm_trl ba ao ls)) (hp : zm_pure .ineg x ls st = some q)
    (kk : ∀ lsA, lv_has lsA maxL (zm_trl ba ao q.1) → W p l e R s m args below meth c H locs cells slots Q (F0 m (pc + len) lsA (q.2.map (zm_tr ba ao)))) : W p l e R s m args below meth c H locs cells slots Q (F0 m pc lsA (st.map (zm_tr ba ao))) := by
  obtain ⟨hx, hb, hown, hT, hS⟩ := id C
  simp only [zm_pok, decide_eq_true_eq] at hk
  subst hk
  simp only [zm_pure] at hp
  unfold zm_i at hp
  split at hp
  · rename_i a st2
    simp only [Option.some.injEq] at hp
    subst hp
    exact lv_ineg hx hb hd (kk lsA hv)
  · cases hp
theorem zm_p_lneg (C : zm_Cp p s m args c cc ao zm_W SS cls) (hd : decode cc pc = .ok (.lneg, len)) (hk : zm_pok zm_W SS cls maxL .lneg len x = true) (hv : lv_has lsA maxL (zm_trl ba ao ls)) (hp : zm_pure .lneg x ls st = some q)
    (kk : ∀ lsA, lv_has lsA maxL (zm_trl ba ao q.1) → W p l e R s m args below meth c H locs cells slots Q (F0 m (pc + len) lsA (q.2.map (zm_tr ba ao)))) : W p l e R s m args below meth c H locs cells slots Q (F0 m pc lsA (st.map (zm_tr ba ao))) := by
  obtain ⟨hx, hb, hown, hT, hS⟩ := id C
  simp only [zm_pok, decide_eq_true_eq] at hk
  subst hk
  simp only [zm_pure] at hp
  unfold zm_l at hp
  split at hp
  · rename_i a st2
    simp only [Option.some.injEq] at hp
    subst hp
    exact lv_lneg hx hb hd (kk lsA hv)
  · cases hp
theorem zm_p_i2b (C : zm_Cp p s m args c cc ao zm_W SS cls) (hd : decode cc pc = .ok (.i2b, len)) (hk : zm_pok zm_W SS cls maxL .i2b len x = true) (hv : lv_has lsA maxL (zm_trl ba ao ls)) (hp : zm_pure .i2b x ls st = some q)
    (kk : ∀ lsA, lv_has lsA maxL (zm_trl ba ao q.1) → W p l e R s m args below meth c H locs cells slots Q (F0 m (pc + len) lsA (q.2.map (zm_tr ba ao)))) : W p l e R s m args below meth c H locs cells slots Q (F0 m pc lsA (st.map (zm_tr ba ao))) := by
  obtain ⟨hx, hb, hown, hT, hS⟩ := id C
  simp only [zm_pok, decide_eq_true_eq] at hk
  subst hk
  simp only [zm_pure] at hp
  unfold zm_i at hp
  split at hp
  · rename_i a st2
    simp only [Option.some.injEq] at hp
    subst hp
    exact lv_i2b hx hb hd rfl (kk lsA hv)
  · cases hp
theorem zm_p_i2s (C : zm_Cp p s m args c cc ao zm_W SS cls) (hd : decode cc pc = .ok (.i2s, len)) (hk : zm_pok zm_W SS cls maxL .i2s len x = true) (hv : lv_has lsA maxL (zm_trl ba ao ls)) (hp : zm_pure .i2s x ls st = some q)
    (kk : ∀ lsA, lv_has lsA maxL (zm_trl ba ao q.1) → W p l e R s m args below meth c H locs cells slots Q (F0 m (pc + len) lsA (q.2.map (zm_tr ba ao)))) : W p l e R s m args below meth c H locs cells slots Q (F0 m pc lsA (st.map (zm_tr ba ao))) := by
  obtain ⟨hx, hb, hown, hT, hS⟩ := id C
  simp only [zm_pok, decide_eq_true_eq] at hk
  subst hk
  simp only [zm_pure] at hp
  unfold zm_i at hp
  split at hp
  · rename_i a st2
    simp only [Option.some.injEq] at hp
    subst hp
    exact lv_i2s hx hb hd rfl (kk lsA hv)
  · cases hp
theorem zm_p_i2c (C : zm_Cp p s m args c cc ao zm_W SS cls) (hd : decode cc pc = .ok (.i2c, len)) (hk : zm_pok zm_W SS cls maxL .i2c len x = true) (hv : lv_has lsA maxL (zm_trl ba ao ls)) (hp : zm_pure .i2c x ls st = some q)
    (kk : ∀ lsA, lv_has lsA maxL (zm_trl ba ao q.1) → W p l e R s m args below meth c H locs cells slots Q (F0 m (pc + len) lsA (q.2.map (zm_tr ba ao)))) : W p l e R s m args below meth c H locs cells slots Q (F0 m pc lsA (st.map (zm_tr ba ao))) := by
  obtain ⟨hx, hb, hown, hT, hS⟩ := id C
  simp only [zm_pok, decide_eq_true_eq] at hk
  subst hk
  simp only [zm_pure] at hp
  unfold zm_i at hp
  split at hp
  · rename_i a st2
    simp only [Option.some.injEq] at hp
    subst hp
    exact lv_i2c hx hb hd rfl (kk lsA hv)
  · cases hp
theorem zm_p_i2l (C : zm_Cp p s m args c cc ao zm_W SS cls) (hd : decode cc pc = .ok (.i2l, len)) (hk : zm_pok zm_W SS cls maxL .i2l len x = true) (hv : lv_has lsA maxL (zm_trl ba ao ls)) (hp : zm_pure .i2l x ls st = some q)
    (kk : ∀ lsA, lv_has lsA maxL (zm_trl ba ao q.1) → W p l e R s m args below meth c H locs cells slots Q (F0 m (pc + len) lsA (q.2.map (zm_tr ba ao)))) : W p l e R s m args below meth c H locs cells slots Q (F0 m pc lsA (st.map (zm_tr ba ao))) := by
  obtain ⟨hx, hb, hown, hT, hS⟩ := id C
  simp only [zm_pok, decide_eq_true_eq] at hk
  subst hk
  simp only [zm_pure] at hp
  unfold zm_i2l at hp
  split at hp
  · rename_i a st2
    simp only [Option.some.injEq] at hp
    subst hp
    exact lv_i2l hx hb hd rfl (kk lsA hv)
  · cases hp
theorem zm_p_l2i (C : zm_Cp p s m args c cc ao zm_W SS cls) (hd : decode cc pc = .ok (.l2i, len)) (hk : zm_pok zm_W SS cls maxL .l2i len x = true) (hv : lv_has lsA maxL (zm_trl ba ao ls)) (hp : zm_pure .l2i x ls st = some q)
    (kk : ∀ lsA, lv_has lsA maxL (zm_trl ba ao q.1) → W p l e R s m args below meth c H locs cells slots Q (F0 m (pc + len) lsA (q.2.map (zm_tr ba ao)))) : W p l e R s m args below meth c H locs cells slots Q (F0 m pc lsA (st.map (zm_tr ba ao))) := by
  obtain ⟨hx, hb, hown, hT, hS⟩ := id C
  simp only [zm_pok, decide_eq_true_eq] at hk
  subst hk
  simp only [zm_pure] at hp
  unfold zm_l2i at hp
  split at hp
  · rename_i a st2
    simp only [Option.some.injEq] at hp
    subst hp
    exact lv_l2i hx hb hd rfl (kk lsA hv)
  · cases hp
theorem zm_p_lcmp (C : zm_Cp p s m args c cc ao zm_W SS cls) (hd : decode cc pc = .ok (.lcmp, len)) (hk : zm_pok zm_W SS cls maxL .lcmp len x = true) (hv : lv_has lsA maxL (zm_trl ba ao ls)) (hp : zm_pure .lcmp x ls st = some q)
    (kk : ∀ lsA, lv_has lsA maxL (zm_trl ba ao q.1) → W p l e R s m args below meth c H locs cells slots Q (F0 m (pc + len) lsA (q.2.map (zm_tr ba ao)))) : W p l e R s m args below meth c H locs cells slots Q (F0 m pc lsA (st.map (zm_tr ba ao))) := by
  obtain ⟨hx, hb, hown, hT, hS⟩ := id C
  simp only [zm_pok, decide_eq_true_eq] at hk
  subst hk
  simp only [zm_pure] at hp
  unfold zm_lcmp at hp
  split at hp
  · rename_i b a st2
    simp only [Option.some.injEq] at hp
    subst hp
    exact W.lcmp hx hb hd (kk lsA hv)
  · cases hp
theorem zm_p_lshl (C : zm_Cp p s m args c cc ao zm_W SS cls) (hd : decode cc pc = .ok (.lshl, len)) (hk : zm_pok zm_W SS cls maxL .lshl len x = true) (hv : lv_has lsA maxL (zm_trl ba ao ls)) (hp : zm_pure .lshl x ls st = some q)
    (kk : ∀ lsA, lv_has lsA maxL (zm_trl ba ao q.1) → W p l e R s m args below meth c H locs cells slots Q (F0 m (pc + len) lsA (q.2.map (zm_tr ba ao)))) : W p l e R s m args below meth c H locs cells slots Q (F0 m pc lsA (st.map (zm_tr ba ao))) := by
  obtain ⟨hx, hb, hown, hT, hS⟩ := id C
  simp only [zm_pok, decide_eq_true_eq] at hk
  subst hk
  simp only [zm_pure] at hp
  unfold zm_lshl at hp
  split at hp
  · rename_i b a st2
    simp only [Option.some.injEq] at hp
    subst hp
    exact lv_lshl hx hb hd rfl (kk lsA hv)
  · cases hp
theorem zm_p_dup (C : zm_Cp p s m args c cc ao zm_W SS cls) (hd : decode cc pc = .ok (.dup, len)) (hk : zm_pok zm_W SS cls maxL .dup len x = true) (hv : lv_has lsA maxL (zm_trl ba ao ls)) (hp : zm_pure .dup x ls st = some q)
    (kk : ∀ lsA, lv_has lsA maxL (zm_trl ba ao q.1) → W p l e R s m args below meth c H locs cells slots Q (F0 m (pc + len) lsA (q.2.map (zm_tr ba ao)))) : W p l e R s m args below meth c H locs cells slots Q (F0 m pc lsA (st.map (zm_tr ba ao))) := by
  obtain ⟨hx, hb, hown, hT, hS⟩ := id C
  simp only [zm_pok, decide_eq_true_eq] at hk
  subst hk
  simp only [zm_pure] at hp
  unfold zm_dup at hp
  split at hp
  · rename_i v st2
    cases hc : Nat.beq v.category 1 with
    | false => rw [hc] at hp; cases hp
    | true =>
      rw [hc] at hp
      simp only [cond_true, Option.some.injEq] at hp
      subst hp
      exact lv_dup hx hb hd ((zm_tr_cat ba ao v).trans (Nat.eq_of_beq_eq_true hc)) (kk lsA hv)
  · cases hp
theorem zm_p_pop (C : zm_Cp p s m args c cc ao zm_W SS cls) (hd : decode cc pc = .ok (.pop, len)) (hk : zm_pok zm_W SS cls maxL .pop len x = true) (hv : lv_has lsA maxL (zm_trl ba ao ls)) (hp : zm_pure .pop x ls st = some q)
    (kk : ∀ lsA, lv_has lsA maxL (zm_trl ba ao q.1) → W p l e R s m args below meth c H locs cells slots Q (F0 m (pc + len) lsA (q.2.map (zm_tr ba ao)))) : W p l e R s m args below meth c H locs cells slots Q (F0 m pc lsA (st.map (zm_tr ba ao))) := by
  obtain ⟨hx, hb, hown, hT, hS⟩ := id C
  simp only [zm_pok, decide_eq_true_eq] at hk
  subst hk
  simp only [zm_pure] at hp
  unfold zm_pop at hp
  split at hp
  · rename_i v st2
    cases hc : Nat.beq v.category 1 with
    | false => rw [hc] at hp; cases hp
    | true =>
      rw [hc] at hp
      simp only [cond_true, Option.some.injEq] at hp
      subst hp
      exact lv_pop hx hb hd ((zm_tr_cat ba ao v).trans (Nat.eq_of_beq_eq_true hc)) (kk lsA hv)
  · cases hp
theorem zm_p_pop2 (C : zm_Cp p s m args c cc ao zm_W SS cls) (hd : decode cc pc = .ok (.pop2, len)) (hk : zm_pok zm_W SS cls maxL .pop2 len x = true) (hv : lv_has lsA maxL (zm_trl ba ao ls)) (hp : zm_pure .pop2 x ls st = some q)
    (kk : ∀ lsA, lv_has lsA maxL (zm_trl ba ao q.1) → W p l e R s m args below meth c H locs cells slots Q (F0 m (pc + len) lsA (q.2.map (zm_tr ba ao)))) : W p l e R s m args below meth c H locs cells slots Q (F0 m pc lsA (st.map (zm_tr ba ao))) := by
  obtain ⟨hx, hb, hown, hT, hS⟩ := id C
  simp only [zm_pok, decide_eq_true_eq] at hk
  subst hk
  simp only [zm_pure] at hp
  unfold zm_pop2 at hp
  split at hp
  · rename_i v st2
    cases hc : Nat.beq v.category 2 with
    | false => rw [hc] at hp; cases hp
    | true =>
      rw [hc] at hp
      simp only [cond_true, Option.some.injEq] at hp
      subst hp
      exact lv_pop2_2 hx hb hd ((zm_tr_cat ba ao v).trans (Nat.eq_of_beq_eq_true hc)) (kk lsA hv)
  · cases hp
theorem zm_p_dup_x1 (C : zm_Cp p s m args c cc ao zm_W SS cls) (hd : decode cc pc = .ok (.dup_x1, len)) (hk : zm_pok zm_W SS cls maxL .dup_x1 len x = true) (hv : lv_has lsA maxL (zm_trl ba ao ls)) (hp : zm_pure .dup_x1 x ls st = some q)
    (kk : ∀ lsA, lv_has lsA maxL (zm_trl ba ao q.1) → W p l e R s m args below meth c H locs cells slots Q (F0 m (pc + len) lsA (q.2.map (zm_tr ba ao)))) : W p l e R s m args below meth c H locs cells slots Q (F0 m pc lsA (st.map (zm_tr ba ao))) := by
  obtain ⟨hx, hb, hown, hT, hS⟩ := id C
  simp only [zm_pok, decide_eq_true_eq] at hk
  subst hk
  simp only [zm_pure] at hp
  unfold zm_dx1 at hp
  split at hp
  · rename_i v w st2
    cases hc : (Nat.beq v.category 1 && Nat.beq w.category 1) with
    | false => rw [hc] at hp; cases hp
    | true =>
      rw [hc] at hp
      simp only [cond_true, Option.some.injEq] at hp
      subst hp
      simp only [Bool.and_eq_true] at hc
      exact lv_dup_x1 hx hb hd ((zm_tr_cat ba ao v).trans (Nat.eq_of_beq_eq_true hc.1)) ((zm_tr_cat ba ao w).trans (Nat.eq_of_beq_eq_true hc.2)) (kk lsA hv)
  · cases hp
theorem zm_p_dup2 (C : zm_Cp p s m args c cc ao zm_W SS cls) (hd : decode cc pc = .ok (.dup2, len)) (hk : zm_pok zm_W SS cls maxL .dup2 len x = true) (hv : lv_has lsA maxL (zm_trl ba ao ls)) (hp : zm_pure .dup2 x ls st = some q)
    (kk : ∀ lsA, lv_has lsA maxL (zm_trl ba ao q.1) → W p l e R s m args below meth c H locs cells slots Q (F0 m (pc + len) lsA (q.2.map (zm_tr ba ao)))) : W p l e R s m args below meth c H locs cells slots Q (F0 m pc lsA (st.map (zm_tr ba ao))) := by
  obtain ⟨hx, hb, hown, hT, hS⟩ := id C
  simp only [zm_pok, decide_eq_true_eq] at hk
  subst hk
  simp only [zm_pure] at hp
  unfold zm_dup2 at hp
  split at hp
  · rename_i v w st2
    cases hc : (Nat.beq v.category 1 && Nat.beq w.category 1) with
    | false => rw [hc] at hp; cases hp
    | true =>
      rw [hc] at hp
      simp only [cond_true, Option.some.injEq] at hp
      subst hp
      simp only [Bool.and_eq_true] at hc
      exact lv_dup2_11 hx hb hd ((zm_tr_cat ba ao v).trans (Nat.eq_of_beq_eq_true hc.1)) ((zm_tr_cat ba ao w).trans (Nat.eq_of_beq_eq_true hc.2)) (kk lsA hv)
  · cases hp
theorem zm_pure_ok {i : Jvm.ClassFile.Instr} (C : zm_Cp p s m args c cc ao zm_W SS cls) (hd : decode cc pc = .ok (i, len)) (hk : zm_pok zm_W SS cls maxL i len x = true) (hv : lv_has lsA maxL (zm_trl ba ao ls)) (hp : zm_pure i x ls st = some q)
    (kk : ∀ lsA, lv_has lsA maxL (zm_trl ba ao q.1) → W p l e R s m args below meth c H locs cells slots Q (F0 m (pc + len) lsA (q.2.map (zm_tr ba ao)))) : W p l e R s m args below meth c H locs cells slots Q (F0 m pc lsA (st.map (zm_tr ba ao))) := by
  cases i with
  | iconst _ => exact zm_p_iconst C hd hk hv hp kk
  | bipush _ => exact zm_p_bipush C hd hk hv hp kk
  | sipush _ => exact zm_p_sipush C hd hk hv hp kk
  | lconst _ => exact zm_p_lconst C hd hk hv hp kk
  | ldc _ => exact zm_p_ldc C hd hk hv hp kk
  | ldc_w _ => exact zm_p_ldc_w C hd hk hv hp kk
  | ldc2_w _ => exact zm_p_ldc2_w C hd hk hv hp kk
  | aconst_null => exact zm_p_aconst_null C hd hk hv hp kk
  | iload _ => exact zm_p_iload C hd hk hv hp kk
  | iload_n _ => exact zm_p_iload_n C hd hk hv hp kk
  | lload _ => exact zm_p_lload C hd hk hv hp kk
  | lload_n _ => exact zm_p_lload_n C hd hk hv hp kk
  | aload _ => exact zm_p_aload C hd hk hv hp kk
  | aload_n _ => exact zm_p_aload_n C hd hk hv hp kk
  | istore _ => exact zm_p_istore C hd hk hv hp kk
  | istore_n _ => exact zm_p_istore_n C hd hk hv hp kk
  | lstore _ => exact zm_p_lstore C hd hk hv hp kk
  | lstore_n _ => exact zm_p_lstore_n C hd hk hv hp kk
  | astore _ => exact zm_p_astore C hd hk hv hp kk
  | astore_n _ => exact zm_p_astore_n C hd hk hv hp kk
  | iinc _ _ => exact zm_p_iinc C hd hk hv hp kk
  | iadd => exact zm_p_iadd C hd hk hv hp kk
  | isub => exact zm_p_isub C hd hk hv hp kk
  | imul => exact zm_p_imul C hd hk hv hp kk
  | iand => exact zm_p_iand C hd hk hv hp kk
  | ior => exact zm_p_ior C hd hk hv hp kk
  | ixor => exact zm_p_ixor C hd hk hv hp kk
  | ishl => exact zm_p_ishl C hd hk hv hp kk
  | ishr => exact zm_p_ishr C hd hk hv hp kk
  | iushr => exact zm_p_iushr C hd hk hv hp kk
  | ladd => exact zm_p_ladd C hd hk hv hp kk
  | lsub => exact zm_p_lsub C hd hk hv hp kk
  | lmul => exact zm_p_lmul C hd hk hv hp kk
  | land => exact zm_p_land C hd hk hv hp kk
  | lor => exact zm_p_lor C hd hk hv hp kk
  | idiv => exact zm_p_idiv C hd hk hv hp kk
  | irem => exact zm_p_irem C hd hk hv hp kk
  | ldiv => exact zm_p_ldiv C hd hk hv hp kk
  | ineg => exact zm_p_ineg C hd hk hv hp kk
  | lneg => exact zm_p_lneg C hd hk hv hp kk
  | i2b => exact zm_p_i2b C hd hk hv hp kk
  | i2s => exact zm_p_i2s C hd hk hv hp kk
  | i2c => exact zm_p_i2c C hd hk hv hp kk
  | i2l => exact zm_p_i2l C hd hk hv hp kk
  | l2i => exact zm_p_l2i C hd hk hv hp kk
  | lcmp => exact zm_p_lcmp C hd hk hv hp kk
  | lshl => exact zm_p_lshl C hd hk hv hp kk
  | dup => exact zm_p_dup C hd hk hv hp kk
  | pop => exact zm_p_pop C hd hk hv hp kk
  | pop2 => exact zm_p_pop2 C hd hk hv hp kk
  | dup_x1 => exact zm_p_dup_x1 C hd hk hv hp kk
  | dup2 => exact zm_p_dup2 C hd hk hv hp kk
  | _ => cases hp
end ZMP
