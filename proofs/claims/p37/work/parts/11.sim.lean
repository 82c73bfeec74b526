/-! Calls, returns, and the whole: the machine goes as the small machine goes -/
def zm_isP (i : Jvm.ClassFile.Instr) : Bool := match i with
  | .iconst _ | .bipush _ | .sipush _ | .lconst _ | .ldc _ | .ldc_w _ | .ldc2_w _ | .aconst_null | .iload _ | .iload_n _ | .lload _ | .lload_n _ | .aload _ | .aload_n _ | .istore _ | .istore_n _ | .lstore _ | .lstore_n _ | .astore _ | .astore_n _ | .iinc _ _ | .iadd | .isub | .imul | .iand | .ior | .ixor | .ishl | .ishr | .iushr | .idiv | .irem | .ineg | .i2b | .i2s | .i2c | .ladd | .lsub | .lmul | .land | .lor | .ldiv | .lneg | .i2l | .l2i | .lcmp | .lshl | .dup | .dup_x1 | .dup2 | .pop | .pop2 => true
  | _ => false
def zm_isB (i : Jvm.ClassFile.Instr) : Bool := match i with
  | .goto _ | .ifCond _ _ | .if_icmp _ _ | .if_acmp _ _ | .ifnull _ | .ifnonnull _ | .tableswitch _ _ _ _ => true
  | _ => false
def zm_isH (i : Jvm.ClassFile.Instr) (x : zm_X) : Bool := match i with
  | .getfield _ | .putfield _ | .getstatic _ | .arraylength | .iaload | .laload | .baload | .aaload | .iastore | .bastore | .lastore | .aastore | .newarray _ | .anewarray _ | .multianewarray _ _ | .new _ => true
  | .invokespecial _ => Nat.beq x.2.2.1 1
  | .invokestatic _ => !(Nat.beq x.2.2.1 0)
  | _ => false
def zm_isC (i : Jvm.ClassFile.Instr) (x : zm_X) : Bool := match i with
  | .invokevirtual _ => true
  | .invokestatic _ => Nat.beq x.2.2.1 0
  | .invokespecial _ => !(Nat.beq x.2.2.1 1)
  | _ => false
theorem zm_isP_of {i : Jvm.ClassFile.Instr} {x : zm_X} {ls : zm_L} {st : List Value} {q : zm_L × List Value} (h : zm_pure i x ls st = some q) : zm_isP i = true := by
  cases i <;> first | rfl | cases h
theorem zm_isB_of {i : Jvm.ClassFile.Instr} {x : zm_X} {pc : Nat} {st : List Value} {q : Nat × List Value} (h : zm_br i x pc st = some q) : zm_isB i = true := by
  cases i <;> first | rfl | cases h
theorem zm_isH_of {i : Jvm.ClassFile.Instr} {x : zm_X} {df : Nat → List Value} {og : Nat → Option zm_C} {st : List Value} {h : zm_H} {q : List Value × zm_H} (hp : zm_hp df og i x st h = some q) : zm_isH i x = true := by
  cases i with
  | invokespecial k => exact (zm_k_init hp).choose_spec.1
  | invokestatic k =>
    cases hb : Nat.beq x.2.2.1 0 with
    | false => simp [zm_isH, hb]
    | true =>
      have hb := Nat.eq_of_beq_eq_true hb
      rcases zm_k_is hp with ⟨h7, -⟩ | ⟨-, hm, -⟩
      · rw [hb] at h7; cases h7
      · rw [hb] at hm; cases hm
  | _ => first | rfl | cases hp
theorem zm_isC_of {i : Jvm.ClassFile.Instr} {x : zm_X} {st : List Value} {h : zm_H} {q : Nat × List Value × List Value} (hp : zm_call i x st h = some q) : zm_isC i x = true := by
  cases i with
  | invokespecial k =>
    simp only [zm_call] at hp
    cases hb : Nat.beq x.2.2.1 1 with
    | true => rw [hb] at hp; cases hp
    | false => simp [zm_isC, hb]
  | invokestatic k =>
    simp only [zm_call] at hp
    obtain ⟨hb, -⟩ := zm_bif hp
    simp only [Bool.and_eq_true] at hb
    exact hb.1
  | _ => first | rfl | cases hp
/-- what the row of a call must hold -/
def zm_cok (P : Nat → Option zm_M) (TW : List Cond) (NW : zm_NW) (cls : String) (i : Jvm.ClassFile.Instr) (len : Nat) (x : zm_X) : Bool := match P x.1 with
  | none => false
  | some mc => decide (len = 3) && (decide ((parseMethodDescriptor mc.1.1.desc).map (fun d => d.parameters.length) = some x.2.1) && (decide (mc.1.1.cls ≠ "java/lang/invoke/MethodHandle") && (decide (mc.1.1.cls ≠ "java/lang/invoke/VarHandle") && (decide (mc.1.1.cls ≠ "WindowRollLaw") && (zm_m TW x.2.2.2.2 1 (.initialized mc.1.1.cls) && (match i with
    | .invokestatic k => zm_m TW x.2.2.2.2 2 (.methodLink cls k mc.1.1) && zm_m TW x.2.2.2.2 3 (.static mc.1.1)
    | .invokevirtual k => zm_m TW x.2.2.2.2 2 (.methodLink cls k mc.1.1) && (zm_m TW x.2.2.2.2 3 (.instanceMethod mc.1.1) && (zm_m TW x.2.2.2.2 4 (.selects mc.1.1.cls mc.1.1 mc.1.1) && (match zm_cl[x.2.2.1]? with
      | some r => decide (r.1 = mc.1.1.cls) && decide (x.2.2.1 < 40)
      | none => decide (x.2.2.1 = 41) && decide (mc.1.1.cls = "java/lang/String"))))
    | .invokespecial k => decide (mc.1.1.name = "<init>") && (decide (mc.1.2.2.2 = none) && (zm_m TW x.2.2.2.2 3 (.instanceMethod mc.1.1) && (zm_m TW x.2.2.2.2 2 (.methodLink cls k mc.1.1) || NW.any (fun w => decide (w.1 = cls) && (decide (w.2.1 = k) && decide (w.2.2.1 = mc.1.1))))))
    | _ => false))))))
def zm_rok (P : Nat → Option zm_M) (TW : List Cond) (SS : zm_SS) (ST : zm_ST) (NW : zm_NW) (mr : MethodName × ByteArray × Nat × Option FieldType) (r : zm_Row) : Bool := decide (decode mr.2.1 r.1 = .ok (r.2.1, r.2.2.1)) && (bif zm_isP r.2.1 then zm_pok TW SS mr.1.cls mr.2.2.1 r.2.1 r.2.2.1 r.2.2.2 else bif zm_isB r.2.1 then zm_bok r.1 r.2.1 r.2.2.1 r.2.2.2 else bif zm_isH r.2.1 r.2.2.2 then zm_hok TW ST mr.1.cls mr.1.name r.2.1 r.2.2.1 r.2.2.2 else bif zm_isC r.2.1 r.2.2.2 then zm_cok P TW NW mr.1.cls r.2.1 r.2.2.1 r.2.2.2 else decide (r.2.2.1 = 1))
def zm_mok (P : Nat → Option zm_M) (TW : List Cond) (SS : zm_SS) (ST : zm_ST) (NW : zm_NW) (mr : zm_M) : Prop := plainName mr.1.1.cls = true ∧ mr.1.2.2.1 ≤ 37 ∧ (∀ r ∈ mr.2, zm_rok P TW SS ST NW mr.1 r = true) ∧ (mr.1.1.cls = "WindowRollLaw" ∨ .code mr.1.1 mr.1.2.1 mr.1.2.2.1 mr.1.2.2.2 ∈ TW)
theorem zm_at_mem {rows : List zm_Row} {pc : Nat} {i : Jvm.ClassFile.Instr × Nat × zm_X} (h : zm_at rows pc = some i) : (pc, i) ∈ rows := by
  induction rows with
  | nil => simp [zm_at] at h
  | cons q t ih =>
    unfold zm_at at h
    cases hb : Nat.beq q.1 pc with
    | true =>
      rw [hb] at h
      have e := Nat.eq_of_beq_eq_true hb
      simp only [cond_true, Option.some.injEq] at h
      subst h
      subst e
      exact List.mem_cons_self
    | false =>
      rw [hb] at h
      exact List.mem_cons_of_mem _ (ih h)
theorem zm_ex_mono {P : Nat → Option zm_M} {df : Nat → List Value} {og : Nat → Option zm_C} : ∀ (n d mi pc : Nat) (ls : zm_L) (st : List Value) (h : zm_H) (r : Option Value) (h' : zm_H), zm_ex P df og n d mi pc ls st h = some (r, h') → h.length ≤ h'.length ∧ zm_szs h ≤ zm_szs h' := by
  intro n
  induction n with
  | zero => intro d mi pc ls st h r h' hx; simp [zm_ex] at hx
  | succ n ih =>
    intro d mi pc ls st h r h' hx
    simp only [zm_ex] at hx
    split at hx
    · cases hx
    · split at hx
      · cases hx
      · split at hx
        · cases hx; exact ⟨Nat.le_refl _, Nat.le_refl _⟩
        · split at hx
          · exact ih _ _ _ _ _ _ _ _ hx
          · split at hx
            · exact ih _ _ _ _ _ _ _ _ hx
            · split at hx
              · rename_i hp
                have a := zm_hp_mono hp
                have b := ih _ _ _ _ _ _ _ _ hx
                omega
              · split at hx
                · cases hx
                · split at hx
                  · cases hx
                  · split at hx
                    · cases hx
                    · rename_i q _ _ _ _ mc _
                      cases hb : Nat.ble (zm_cat q.2.1) mc.1.2.2.1 with
                      | false => rw [hb] at hx; cases hx
                      | true =>
                        rw [hb] at hx
                        simp only [cond_true] at hx
                        split at hx
                        · cases hx
                        · rename_i w hw
                          have a := ih _ _ _ _ _ _ w.1 w.2 hw
                          have b := ih _ _ _ _ _ _ _ _ hx
                          omega
theorem zm_args_tr (ba : Nat) (ao : Nat → Nat) : ∀ (as : List Value) (i : Nat), zm_trl ba ao (lv_args i as) = lv_args i (as.map (zm_tr ba ao))
  | [], i => rfl
  | v :: vs, i => by
    show (i, zm_tr ba ao v) :: zm_trl ba ao (lv_args _ vs) = (i, zm_tr ba ao v) :: lv_args _ _
    rw [zm_args_tr ba ao vs, zm_tr_cat]
theorem zm_sl_len : ∀ vs : List Value, (lg_sl vs).length = zm_cat vs
  | [] => rfl
  | v :: vs => by
    have ih := zm_sl_len vs
    unfold lg_sl zm_cat at ih ⊢
    rw [List.flatMap_cons, List.length_append, ih, List.map_cons, List.sum_cons]
    rcases lv_cat v with h | h
    · rw [if_neg (by omega), h]; rfl
    · rw [if_pos h, h]; rfl
def zm_Pc (E : zm_E) (SS : zm_SS) (ST : zm_ST) (NW : zm_NW) (og : Nat → Option zm_C) (as : List Value) (h : zm_H) : Array Value → State → Prop := fun a U => a = (as.map (zm_t E)).toArray ∧ zm_Rel E h U.heap ∧ zm_G E SS ST NW og U
def zm_Qc (E : zm_E) (r : Option Value) (h : zm_H) : Array Value → State → Outcome → State → Prop := fun _ _ o t => o = .returned (r.map (zm_t E)) ∧ zm_Rel E h t.heap
def zm_rm (d mc ms : Nat) : Room := { frames := d + 1, cells := mc, slots := ms, locals := (d + 1) * 64 }
theorem zm_Pc_blind {E : zm_E} {SS : zm_SS} {ST : zm_ST} {NW : zm_NW} {og : Nat → Option zm_C} {as : List Value} {h : zm_H} : FrameBlind (zm_Pc E SS ST NW og as h) := fun a U g mk hq => ⟨hq.1, hq.2.1, hq.2.2.same rfl⟩
section ZMR
variable {p : Program} {l : Launch} {e : Env} {R : Room} {s : State} {m : MethodId} {args : Array Value} {below : List Frame} {meth : Method} {c : Code} {H : Heap} {locs : List Loc} {cells slots : Nat} {Q : State → Prop}
variable {cc : ByteArray} {pc : Nat} {lsA : Array Slot} {rest : List Value}
variable {E : zm_E} {SS : zm_SS} {ST : zm_ST} {NW : zm_NW} {og : Nat → Option zm_C} {df : Nat → List Value} {cls mname : String} {len : Nat} {x : zm_X} {st : List Value} {h : zm_H}
theorem zm_ret_ok {ret : Option FieldType} {i : Jvm.ClassFile.Instr} {r : Option Value} (hx : p.tables.exec = Jvm.exec) (hb : c.code = cc) (hr : meth.sig.returnType = ret) (hlocks : meth.locks = false) (hd : decode cc pc = .ok (i, 1)) (hp : zm_ret ret i st = some r) (hR : zm_Rel E h H) (hl : ∀ z ∈ locs, E.2.2.2.size ≤ z.base) :
    W p l e R s m args below meth c H locs cells slots (MQ below (zm_Qc E r h) args s cells slots (fun q => E.2.2.2.size ≤ q)) (F0 m pc lsA (st.map (zm_t E))) := by
  have hq : ∀ (v : Option Value) (t : State), t.heap = H → s.WarmedH t.vm → v = r.map (zm_t E) → zm_Qc E r h args s (.returned v) t := fun v t ht _ hv => ⟨by rw [hv], by rw [ht]; exact hR⟩
  cases i with
  | return_ =>
    simp only [zm_ret] at hp
    split at hp
    · cases hp
      exact W.vret hx hb hr (fun t a b => hq _ t a b rfl) hl hd hlocks
    · cases hp
  | ireturn =>
    simp only [zm_ret] at hp
    split at hp
    · rename_i ty v
      obtain ⟨ho, rfl⟩ := zm_bif hp
      exact W.zret (ty := ty) hx hb hr (zm_okv_fits (ba := 0) (ao := fun _ => 0) ho).1 (fun t a b => hq _ t a b rfl) hl hd hlocks
    · cases hp
  | lreturn =>
    simp only [zm_ret] at hp
    split at hp
    · cases hp
      exact W.lret hx hb hr (fun t a b => hq _ t a b rfl) hl hd hlocks
    · cases hp
  | areturn =>
    simp only [zm_ret] at hp
    split at hp
    · cases hp
      exact W.aret hx hb hr (Or.inl ⟨_, rfl⟩) (Or.inr ⟨_, rfl⟩) (fun t a b => hq _ t a b rfl) hl hd hlocks
    · cases hp
      exact W.aret hx hb hr (Or.inl ⟨_, rfl⟩) (Or.inl rfl) (fun t a b => hq _ t a b rfl) hl hd hlocks
    · cases hp
      exact W.aret hx hb hr (Or.inl ⟨_, rfl⟩) (Or.inr ⟨_, rfl⟩) (fun t a b => hq _ t a b rfl) hl hd hlocks
    · cases hp
  | _ => cases hp
/-- behind a call -/
theorem zm_go {mc ms : Nat} {r : Option Value} {h1 : zm_H} {stA : List Value} {a : Array Value} (hr : va_Run p l e R s m args below meth c H locs cells slots mc ms (F0 m pc lsA stA) rest (zm_Qc E r h1 a) (fun q => E.2.2.2.size ≤ q)) (hl : ∀ z ∈ locs, E.2.2.2.size ≤ z.base)
    (kk : ∀ (H1 : Heap) (locs1 : List Loc), zm_Rel E h1 H1 → (∀ z ∈ locs1, E.2.2.2.size ≤ z.base) → W p l e R s m args below meth c H1 locs1 (cells + mc) (slots + ms) Q (F0 m (pc + 3) lsA ((r.map (zm_t E)).toList ++ rest))) : W p l e R s m args below meth c H locs cells slots Q (F0 m pc lsA stA) := by
  intro T hT X
  obtain ⟨v, st₀, t, T', L, h0, X', hL, e1, e2, ⟨hv, hR1⟩, st⟩ := hr T hT X
  cases hv
  obtain ⟨t2, a1, b1⟩ := kk T'.heap (locs ++ L) (by rw [e1]; exact hR1) (fun z hz => by
    rcases List.mem_append.mp hz with g | g
    · exact hl z g
    · exact hL z g) T' rfl X'
  exact ⟨t2, st t2 a1, b1⟩
end ZMR
section ZVR
variable {p : Program} {l : Launch} {e : Env} {R : Room} {s : State} {m : MethodId} {args : Array Value} {below : List Frame} {meth : Method} {c : Code} {H : Heap} {locs : List Loc} {cells slots : Nat} {Q : State → Prop}
variable {y : MethodName} {bytes cc : ByteArray} {maxL nL mc ms n index : Nat} {ret : Option FieldType} {ws : List Cond} {rm : Room} {Pc : Array Value → State → Prop} {Qc : Array Value → State → Outcome → State → Prop} {free : Addr → Prop} {Ts : List Cond} {own C : String} {b : Addr} {As rest : List Value} {g : JFrame}
/-- a call with up to sixteen words below its arguments -/
theorem zv_runV (S : CallFix p m c cc nL s args Ts own) (hM : Met l y ws rm Pc Qc mc ms free) (cw : CallW R s args own C index y bytes maxL ret ws rm mc ms n) (h16 : 16 + (maxL + 11) + rm.locals ≤ R.locals) (hp : PreV s H C b Pc As)
    (hg : g.method = m) (hn : As.length = n) (hsize : g.locals.size = nL) (hstack : g.stack = As.reverse ++ .ref b :: rest) (hW : 2 * g.monitorRoom + (rest.map fun v => v.category).sum ≤ 16) (hdg : decode cc g.pc = .ok (.invokevirtual index, 3)) (hf : cells + mc ≤ R.cells ∧ slots + ms ≤ R.slots) :
    va_Run p l e R s m args below meth c H locs cells slots mc ms g rest (Qc (Value.ref b :: As).toArray) (free) := by
  obtain ⟨⟨hrc, hrs, hfr, hlo, hws, hcw, hcode, hini, hy, hlen, hl⟩, hin, hse⟩ := cw
  have hK : Back l R p e below s args y 3 16 (PreOf R mc ms Pc) (PostOf Qc mc ms free) := back_of (bytes := bytes) (maxL := maxL) (ret := ret) hM hp.1 hrc hrs hfr h16 hws hcw (fun a' U hW => word_at hW (Or.inl (by first | rfl | simp [Cond.onTables, Cond.keeps, Cond.steady])) hini)
  obtain ⟨hx, hb, hml, ho, -⟩ := S
  obtain ⟨-, ⟨cellB, hcB, hoB, hclB⟩, hPc⟩ := hp
  intro T hT X
  obtain ⟨v, vm₁, ⟨U', l2, c2, s2⟩, hW₁, X', ⟨g', mk, t, L, e1, e2, hq, h1, hL, h2, h3⟩, st⟩ := callV X hx (C := C) (bytes := bytes) (maxL := maxL) (ret := ret) ho hl hin hse hcode hy hK (by rw [hT]; exact hcB) hoB hclB hg (hsize.trans hml.symm) (argsL := As) (rest := rest) (fun sig h => hn.trans (hlen sig h)) hstack hW (by rw [hb]; exact hdg)
    (fun vm₁ hW₁ => ⟨hf.1, hf.2, hPc (T.setVm vm₁) hT hW₁⟩)
  dsimp only [Pt.U, Pt.locs, Pt.cells, Pt.slots] at X' e1 e2 h1 h2 h3 st
  subst h1; subst h2; subst h3
  exact ⟨v, (T.setVm vm₁).calling g' mk (Value.ref b :: As).toArray, t, U', L, hT, X', hL, e1, e2, hq, st⟩
end ZVR
