/-! What makes cells -/
section ZMN
variable {p : Program} {l : Launch} {e : Env} {R : Room} {s : State} {m : MethodId} {args : Array Value} {below : List Frame} {meth : Method} {c : Code} {H : Heap} {locs : List Loc} {cells slots : Nat} {Q : State → Prop}
variable {cc : ByteArray} {pc : Nat} {lsA : Array Slot} {rest : List Value}
variable {E : zm_E} {SS : zm_SS} {ST : zm_ST} {NW : zm_NW} {og : Nat → Option zm_C} {df : Nat → List Value} {cls mname : String} {len : Nat} {x : zm_X} {st : List Value} {h : zm_H} {q : List Value × zm_H}
theorem zm_szs_app (h : zm_H) (c : zm_C) : zm_szs (h ++ [c]) = zm_szs h + zm_sz c := by simp [zm_szs]
theorem zm_top (hR : zm_Rel E h H) : Value.ref H.size = zm_t E (.ref h.length) := by rw [hR.1]; rfl
theorem zm_h_newa {k : ArrayType} (C : zm_Ch p s m args meth c cc E zm_W SS ST NW og df cls mname) (hd : decode cc pc = .ok (.newarray k, len)) (hk : zm_hok zm_W ST cls mname (.newarray k) len x = true) (hR : zm_Rel E h H) (hp : zm_newa x st h = some q) (hc : cells + (q.2.length - h.length) ≤ R.cells) (hs : slots + (zm_szs q.2 - zm_szs h) ≤ R.slots)
    (kk : ∀ H : Heap, zm_Rel E q.2 H → W p l e R s m args below meth c H locs (cells + (q.2.length - h.length)) (slots + (zm_szs q.2 - zm_szs h)) Q (F0 m (pc + len) lsA (q.1.map (zm_t E)))) : W p l e R s m args below meth c H locs cells slots Q (F0 m pc lsA (st.map (zm_t E))) := by
  obtain ⟨hx, hb, hown, hts, hG, hT0, hnm⟩ := C
  simp only [zm_hok, Bool.and_eq_true, decide_eq_true_eq] at hk
  obtain ⟨rfl, h4, hty, hw⟩ := hk
  unfold zm_newa at hp
  split at hp
  · rename_i n st2
    cases hcc : (!(decide (n < 0)) && Nat.ble n.toNatClampNeg 60000) with
    | false => rw [hcc] at hp; cases hp
    | true =>
      rw [hcc] at hp
      simp only [cond_true, Option.some.injEq] at hp
      subst hp
      simp only [Bool.and_eq_true, Bool.not_eq_true', decide_eq_false_iff_not] at hcc
      obtain ⟨h0, hle⟩ := hcc
      have hle := Nat.le_of_ble_eq_true hle
      dsimp only at hc hs kk
      rw [List.length_append, List.length_singleton, Nat.add_sub_cancel_left] at hc kk
      rw [zm_szs_app, Nat.add_sub_cancel_left] at hs kk
      have harr := hts _ (zm_m_in hw)
      rw [← hty] at harr
      have hcb : componentBytes (newarray.typeOf k) ≤ 8 := by
        rw [hty]
        rcases (show x.1 = 0 ∨ x.1 = 1 ∨ x.1 = 2 ∨ x.1 = 3 by omega) with z | z | z | z <;> rw [z] <;> decide
      refine W.newa hx hb harr rfl hd rfl h0 (by have := Nat.mul_le_mul hle hcb; omega) hc hs fun cA kA comp f1 f2 f3 => ?_
      have hcA : cA = E.2.1 x.1 := by
        have h2 := (hG.2.1 x.1 (by omega)).2
        rw [hty] at f1
        rcases (show x.1 = 0 ∨ x.1 = 1 ∨ x.1 = 2 ∨ x.1 = 3 by omega) with z | z | z | z <;> rw [z] at h2 f1 ⊢ <;> exact Option.some.inj (f1.symm.trans h2)
      subst hcA
      have hdv : ∀ j : Nat, zm_t E (zm_kv (zm_zero x.1) j) = defaultValue (newarray.typeOf k) := by
        intro j
        rw [hty]
        rcases (show x.1 = 0 ∨ x.1 = 1 ∨ x.1 = 2 ∨ x.1 = 3 by omega) with z | z | z | z <;> rw [z] <;> rfl
      have k1 := kk (H.push { cls := E.2.1 x.1, slots := Array.replicate n.toNatClampNeg (defaultValue (newarray.typeOf k)), vm := .none }) (hR.push ⟨by omega, ?_⟩ (by rw [Array.size_push]) (fun z hz => by rw [Array.getElem?_push, if_neg (Nat.ne_of_lt hz)]))
      · simp only [List.map_cons, ← zm_top hR] at k1
        exact k1
      · rw [Array.getElem?_push_size, arrV_new]
        congr 2
        funext j
        exact (hdv j).symm
  · cases hp
theorem zm_h_anew {k : Nat} (C : zm_Ch p s m args meth c cc E zm_W SS ST NW og df cls mname) (hd : decode cc pc = .ok (.anewarray k, len)) (hk : zm_hok zm_W ST cls mname (.anewarray k) len x = true) (hR : zm_Rel E h H) (hp : zm_anew x st h = some q) (hc : cells + (q.2.length - h.length) ≤ R.cells) (hs : slots + (zm_szs q.2 - zm_szs h) ≤ R.slots)
    (kk : ∀ H : Heap, zm_Rel E q.2 H → W p l e R s m args below meth c H locs (cells + (q.2.length - h.length)) (slots + (zm_szs q.2 - zm_szs h)) Q (F0 m (pc + len) lsA (q.1.map (zm_t E)))) : W p l e R s m args below meth c H locs cells slots Q (F0 m pc lsA (st.map (zm_t E))) := by
  obtain ⟨hx, hb, hown, hts, hG, hT0, hnm⟩ := C
  simp only [zm_hok, Bool.and_eq_true, decide_eq_true_eq] at hk
  obtain ⟨rfl, h4, h7, hw⟩ := hk
  split at hw
  · rename_i C0 hC0
    unfold zm_anew at hp
    split at hp
    · rename_i n st2
      cases hcc : (!(decide (n < 0)) && Nat.ble n.toNatClampNeg 60000) with
      | false => rw [hcc] at hp; cases hp
      | true =>
        rw [hcc] at hp
        simp only [cond_true, Option.some.injEq] at hp
        subst hp
        simp only [Bool.and_eq_true, Bool.not_eq_true', decide_eq_false_iff_not] at hcc
        obtain ⟨h0, hle⟩ := hcc
        have hle := Nat.le_of_ble_eq_true hle
        dsimp only at hc hs kk
        rw [List.length_append, List.length_singleton, Nat.add_sub_cancel_left] at hc kk
        rw [zm_szs_app, Nat.add_sub_cancel_left] at hs kk
        refine W.anew hx hb hown (hts _ (zm_m_in hw)) (va_AO.use (hG.2.2.1.1 x.1 h4 h7 C0 hC0)) rfl hd rfl h0 (by omega) hc hs fun cA kA comp f1 f2 f3 f4 => ?_
        have hcA : cA = E.2.1 x.1 := by
          have h2 := (hG.2.1 x.1 (by omega)).2
          rw [hC0] at h2
          obtain ⟨_, _, _, _, _, g⟩ := h2
          exact Option.some.inj (f1.symm.trans g)
        subst hcA
        have k1 := kk (H.push { cls := E.2.1 x.1, slots := Array.replicate n.toNatClampNeg .null, vm := .none }) (hR.push ⟨by omega, ?_⟩ (by rw [Array.size_push]) (fun z hz => by rw [Array.getElem?_push, if_neg (Nat.ne_of_lt hz)]))
        · simp only [List.map_cons, ← zm_top hR] at k1
          exact k1
        · rw [Array.getElem?_push_size, arrV_new]
          rfl
    · cases hp
  · cases hw
theorem zm_h_new {k : Nat} (C : zm_Ch p s m args meth c cc E zm_W SS ST NW og df cls mname) (hd : decode cc pc = .ok (.new k, len)) (hk : zm_hok zm_W ST cls mname (.new k) len x = true) (hR : zm_Rel E h H) (hp : zm_hp df og (.new k) x st h = some q) (hc : cells + (q.2.length - h.length) ≤ R.cells) (hs : slots + (zm_szs q.2 - zm_szs h) ≤ R.slots)
    (kk : ∀ H : Heap, zm_Rel E q.2 H → W p l e R s m args below meth c H locs (cells + (q.2.length - h.length)) (slots + (zm_szs q.2 - zm_szs h)) Q (F0 m (pc + len) lsA (q.1.map (zm_t E)))) : W p l e R s m args below meth c H locs cells slots Q (F0 m pc lsA (st.map (zm_t E))) := by
  obtain ⟨hx, hb, hown, hts, hG, hT0, hnm⟩ := C
  simp only [zm_hok, Bool.and_eq_true, decide_eq_true_eq] at hk
  obtain ⟨rfl, hk⟩ := hk
  split at hk
  · rename_i r hr
    simp only [Bool.and_eq_true] at hk
    obtain ⟨w1, w2, w3⟩ := hk
    simp only [zm_hp, Option.some.injEq] at hp
    subst hp
    obtain ⟨C0, T, N⟩ := r
    obtain ⟨t1, t2, t3, t4, t5, t6⟩ := hT0 x.1 _ hr
    dsimp only at t1 t2 t3 t4 t5 t6 w1 w2 w3
    dsimp only at hc hs kk
    rw [List.length_append, List.length_singleton, Nat.add_sub_cancel_left] at hc kk
    rw [zm_szs_app, Nat.add_sub_cancel_left] at hs kk
    have hsz : zm_sz (.inr (x.1, df x.1)) = N := t5
    rw [hsz] at hs kk
    have hKn := hG.1.1 x.1 _ hr
    have hcl := hts _ (zm_m_in w1)
    have hins := hts _ (zm_m_in w2)
    have hini := hts _ (zm_m_in w3)
    refine W.newcK hx hb hown hcl hins hini rfl hd hc hs hKn.2.1 rfl fun H1 kC hkC e1 z1 o1 => ?_
    have k1 := kk H1 (hR.push ⟨_, hr, t5, ?_⟩ z1 o1)
    · simp only [List.map_cons, ← zm_top hR] at k1
      exact k1
    · refine (u_born (zm_ft x.1) hts t1 hKn hkC e1 t2).to (fun j hj => ?_)
      rw [t4 j hj]
      have h6 := t6 j
      show vp_V (df x.1) j = vp_V ((df x.1).map (zm_t E)) j
      unfold vp_V at h6 ⊢
      simp only [List.getD_eq_getElem?_getD, List.getElem?_map] at h6 ⊢
      cases hv : (df x.1)[j]? with
      | none => rfl
      | some v =>
        rw [hv] at h6
        simp only [Option.getD_some, Option.map_some] at h6 ⊢
        cases v with
        | ref a =>
          exfalso
          have : j < (df x.1).length := (List.getElem?_eq_some_iff.mp hv).1
          have h4 := t4 j (by omega)
          unfold vp_V at h4
          rw [List.getD_eq_getElem?_getD, hv] at h4
          simp only [Option.getD_some] at h4
          unfold defaultValue at h4
          split at h4 <;> cases h4
        | retAddr a => cases h6
        | _ => rfl
  · cases hk
theorem zm_szs_app2 (h g : zm_H) : zm_szs (h ++ g) = zm_szs h + zm_szs g := by simp [zm_szs]
theorem zm_szs_rep (n : Nat) (c : zm_C) : zm_szs (List.replicate n c) = n * zm_sz c := by simp [zm_szs]
theorem zm_outer (c : ClassId) (N h0 : Nat) : ∀ i : Nat, Jvm.Free.Multi.outerC c N h0 i = arrV c N (fun j => va_rf (if j < i then some (h0 + 1 + j) else none))
  | 0 => by
    show ({ cls := c, slots := Array.replicate N .null, vm := .none } : Cell) = _
    rw [arrV_new]
    refine congrArg (arrV c N) (funext fun j => ?_)
    simp [va_rf]
  | i + 1 => by
    show (Jvm.Free.Multi.outerC c N h0 i).setSlot i (.ref (h0 + 1 + i)) = _
    rw [zm_outer c N h0 i, arrV_store]
    refine congrArg (arrV c N) (funext fun j => ?_)
    by_cases e : j = i
    · subst e
      simp [updV, va_rf]
    · by_cases h : j < i
      · simp [updV, e, h, Nat.lt_succ_of_lt h]
      · simp [updV, e, h, show ¬ j < i + 1 by omega]
/-- many cells are made -/
theorem zm_Rel.pushes {g : zm_H} {H1 : Heap} (hR : zm_Rel E h H) (h1 : ∀ (j : Nat) (c : zm_C), g[j]? = some c → zm_at1 E c (H.size + j) H1) (z : H1.size = H.size + g.length) (o : ∀ q : Nat, q < H.size → H1[q]? = H[q]?) : zm_Rel E (h ++ g) H1 := by
  obtain ⟨a, b, d⟩ := hR
  refine ⟨by rw [z, a, List.length_append, Nat.add_assoc], fun q hq => by rw [o q (by omega)]; exact b q hq, fun j c2 hj => ?_⟩
  by_cases hl : j < h.length
  · rw [List.getElem?_append_left hl] at hj
    have h2 := d j c2 hj
    have e := o (E.2.2.2.size + j) (by omega)
    unfold zm_at1 at h2 ⊢
    split at h2
    · exact ⟨h2.1, by rw [e]; exact h2.2⟩
    · obtain ⟨r, r1, r2, r3⟩ := h2
      exact ⟨r, r1, r2, r3.kept e⟩
  · rw [List.getElem?_append_right (by omega)] at hj
    have := h1 (j - h.length) c2 hj
    rw [show H.size + (j - h.length) = E.2.2.2.size + j by omega] at this
    exact this
theorem zm_h_mnew {k d : Nat} (C : zm_Ch p s m args meth c cc E zm_W SS ST NW og df cls mname) (hd : decode cc pc = .ok (.multianewarray k d, len)) (hk : zm_hok zm_W ST cls mname (.multianewarray k d) len x = true) (hR : zm_Rel E h H) (hp : zm_mnew st h = some q) (hc : cells + (q.2.length - h.length) ≤ R.cells) (hs : slots + (zm_szs q.2 - zm_szs h) ≤ R.slots)
    (kk : ∀ H : Heap, zm_Rel E q.2 H → W p l e R s m args below meth c H locs (cells + (q.2.length - h.length)) (slots + (zm_szs q.2 - zm_szs h)) Q (F0 m (pc + len) lsA (q.1.map (zm_t E)))) : W p l e R s m args below meth c H locs cells slots Q (F0 m pc lsA (st.map (zm_t E))) := by
  obtain ⟨hx, hb, hown, hts, hG, hT0, hnm⟩ := C
  simp only [zm_hok, Bool.and_eq_true, decide_eq_true_eq] at hk
  obtain ⟨rfl, rfl, w1, w2⟩ := hk
  unfold zm_mnew at hp
  split at hp
  · rename_i b n st2
    cases hcc : (!(decide (n < 0)) && !(decide (b < 0)) && Nat.ble n.toNatClampNeg 60000 && Nat.ble b.toNatClampNeg 60000) with
    | false => rw [hcc] at hp; cases hp
    | true =>
      rw [hcc] at hp
      simp only [cond_true, Option.some.injEq] at hp
      subst hp
      simp only [Bool.and_eq_true, Bool.not_eq_true', decide_eq_false_iff_not] at hcc
      obtain ⟨⟨⟨h0, h1⟩, hle⟩, hle2⟩ := hcc
      have hle := Nat.le_of_ble_eq_true hle
      have hle2 := Nat.le_of_ble_eq_true hle2
      dsimp only at hc hs kk
      rw [List.length_append, List.length_cons, List.length_replicate, Nat.add_sub_cancel_left] at hc kk
      rw [zm_szs_app2, Nat.add_sub_cancel_left] at hs kk
      have hsz : zm_szs (.inl (7, n.toNatClampNeg, .inr (.inr (fun i => if i < n.toNatClampNeg then some (h.length + 1 + i) else none))) :: List.replicate n.toNatClampNeg (.inl (1, b.toNatClampNeg, .inr (.inl (fun _ => 0))))) = n.toNatClampNeg + n.toNatClampNeg * b.toNatClampNeg := by
        rw [show ∀ (c : zm_C) (g : zm_H), zm_szs (c :: g) = zm_sz c + zm_szs g from fun c g => by simp [zm_szs], zm_szs_rep]
        rfl
      rw [hsz] at hs kk
      intro T hT Xs
      obtain ⟨vm₁, cA, comp, -, fA, fC, hO, -, X', step⟩ := Xs.multianewarray2F hx hown (hts _ (zm_m_in w1)) (ty := .long) hG.2.2.1.2 (hts _ (zm_m_in w2)) (g := F0 m pc lsA (.int b :: .int n :: st2.map (zm_t E))) rfl (by rw [hb]; exact hd) rfl h0 h1 (by omega) (by rw [show componentBytes FieldType.long = 8 from rfl]; omega) (by omega) rfl rfl (by omega) hs
      have e7 : cA = E.2.1 7 := Option.some.inj (fA.symm.trans (hG.2.1 7 (by omega)).2)
      have e1 : comp = E.2.1 1 := Option.some.inj (fC.symm.trans (hG.2.1 1 (by omega)).2)
      subst e7
      subst e1
      generalize hF : Jvm.Free.Multi.fill (T.setVm vm₁) (E.2.1 7) (E.2.1 1) n.toNatClampNeg b.toNatClampNeg (defaultValue .long) n.toNatClampNeg = F at X' step
      have hTh : (T.setVm vm₁).heap = H := hT
      obtain ⟨f1, f2, -, -⟩ := Jvm.Free.Multi.fill_facts (T.setVm vm₁) (E.2.1 7) (E.2.1 1) n.toNatClampNeg b.toNatClampNeg (defaultValue .long) n.toNatClampNeg
      rw [hF, hTh] at f1 f2
      have hold : ∀ x : Nat, x < H.size → F.heap[x]? = H[x]? := fun x hx => by
        have := Jvm.Free.Multi.fill_old (T.setVm vm₁) (E.2.1 7) (E.2.1 1) n.toNatClampNeg b.toNatClampNeg (defaultValue .long) (a := x) (by rw [hTh]; exact hx) n.toNatClampNeg
        rw [hF, hTh] at this
        exact this
      have hrow : ∀ j : Nat, j < n.toNatClampNeg → F.heap[H.size + 1 + j]? = some (Jvm.Free.Multi.innerC (E.2.1 1) b.toNatClampNeg (defaultValue .long)) := fun j hj => by
        have := Jvm.Free.Multi.fill_inner (T.setVm vm₁) (E.2.1 7) (E.2.1 1) n.toNatClampNeg b.toNatClampNeg (defaultValue .long) n.toNatClampNeg j hj
        rw [hF, hTh] at this
        exact this
      have hRel : zm_Rel E (h ++ (.inl (7, n.toNatClampNeg, .inr (.inr (fun i => if i < n.toNatClampNeg then some (h.length + 1 + i) else none))) :: List.replicate n.toNatClampNeg (.inl (1, b.toNatClampNeg, .inr (.inl (fun _ => 0)))))) F.heap := by
        refine hR.pushes (fun j c0 hj => ?_) (by rw [f1, List.length_cons, List.length_replicate]; omega) hold
        cases j with
        | zero =>
          simp only [List.getElem?_cons_zero, Option.some.injEq] at hj
          subst hj
          refine ⟨by omega, ?_⟩
          rw [Nat.add_zero, f2, zm_outer]
          congr 2
          funext i
          show va_rf (if i < n.toNatClampNeg then some (H.size + 1 + i) else none) = zm_t E (va_rf (if i < n.toNatClampNeg then some (h.length + 1 + i) else none))
          rw [hR.1]
          split
          · exact congrArg Value.ref (show E.2.2.2.size + h.length + 1 + i = E.2.2.2.size + (h.length + 1 + i) by omega)
          · rfl
        | succ j =>
          rw [List.getElem?_cons_succ, List.getElem?_replicate] at hj
          split at hj
          · rename_i hjn
            cases hj
            refine ⟨by omega, ?_⟩
            rw [show H.size + (j + 1) = H.size + 1 + j by omega, hrow j hjn]
            show some ({ cls := E.2.1 1, slots := Array.replicate b.toNatClampNeg (defaultValue .long), vm := .none } : Cell) = _
            rw [arrV_new]
            rfl
          · cases hj
      have k1 := kk F.heap hRel
      simp only [List.map_cons, ← zm_top hR] at k1
      obtain ⟨t, a1, b1⟩ := k1 F rfl (by rw [show cells + (n.toNatClampNeg + 1) = cells + 1 + n.toNatClampNeg by omega, show slots + (n.toNatClampNeg + n.toNatClampNeg * b.toNatClampNeg) = slots + n.toNatClampNeg + n.toNatClampNeg * b.toNatClampNeg by omega]; exact X')
      refine ⟨t, step t ?_, b1⟩
      have e : T.heap.size = H.size := by rw [hT]
      rw [e]
      exact a1
  · cases hp
end ZMN
