/-! All of the heap's instructions -/
theorem zm_cat_tr (ba : Nat) (ao : Nat → Nat) (vs : List Value) : zm_cat (vs.map (zm_tr ba ao)) = zm_cat vs := by
  unfold zm_cat
  rw [List.map_map]
  congr 1
  apply List.map_congr_left
  intro v _
  exact zm_tr_cat ba ao v
theorem zm_bif {α : Type} {c : Bool} {a q : α} (h : (bif c then some a else none) = some q) : c = true ∧ a = q := by
  cases c with
  | false => cases h
  | true => exact ⟨rfl, Option.some.inj h⟩
section ZMO
variable {og : Nat → Option zm_C} {df : Nat → List Value} {x : zm_X} {st : List Value} {h : zm_H} {q : List Value × zm_H}
theorem zm_k_get {k : Nat} (hp : zm_hp df og (.getfield k) x st h = some q) : q.2 = h := by
  simp only [zm_hp] at hp
  split at hp
  · split at hp
    · unfold zm_geto at hp
      split at hp
      · rename_i ci fs _
        cases hb : Nat.beq ci x.1 with
        | false => rw [hb] at hp; cases hp
        | true =>
          rw [hb] at hp
          simp only [cond_true] at hp
          split at hp
          · cases hp; rfl
          · cases hp
      · cases hp
    · cases hp
  · split at hp
    · cases hp; rfl
    · cases hp
  · cases hp
theorem zm_k_alen (hp : zm_hp df og .arraylength x st h = some q) : q.2 = h := by
  simp only [zm_hp] at hp
  split at hp
  · split at hp
    · cases hp; rfl
    · cases hp
  · cases hp
theorem zm_k_ald {i : Jvm.ClassFile.Instr} (hp : zm_ald og i st h = some q) : q.2 = h := by
  unfold zm_ald at hp
  split at hp
  · split at hp
    · obtain ⟨-, rfl⟩ := zm_bif hp; rfl
    · cases hp
  · cases hp
theorem zm_k_aal (hp : zm_aal og st h = some q) : q.2 = h := by
  unfold zm_aal at hp
  split at hp
  · obtain ⟨-, rfl⟩ := zm_bif hp; rfl
  · exact zm_k_ald hp
theorem zm_k_cpy (hp : zm_cpy st h = some q) : q.2.length = h.length ∧ zm_szs q.2 = zm_szs h := by
  unfold zm_cpy at hp
  split at hp
  · rename_i n dp a1 sp a0 st2
    split at hp
    · rename_i t0 n0 k0 t1 n1 k1 _ hc1
      cases hcc : (!(decide (n < 0)) && (!(decide (sp < 0)) && !(decide (dp < 0)))) && (Nat.ble (sp.toNatClampNeg + n.toNatClampNeg) n0 && Nat.ble (dp.toNatClampNeg + n.toNatClampNeg) n1) with
      | false => rw [hcc] at hp; cases hp
      | true =>
        rw [hcc] at hp
        simp only [cond_true] at hp
        split at hp
        · cases hp
          exact zm_set_sz hc1 rfl
        · cases hp
    · cases hp
  · cases hp
theorem zm_k_put {k : Nat} (hp : zm_hp df og (.putfield k) x st h = some q) : q.2.length = h.length ∧ zm_szs q.2 = zm_szs h := by
  simp only [zm_hp] at hp
  split at hp
  · split at hp
    · rename_i hc1
      unfold zm_puto at hp
      split at hp
      · obtain ⟨-, rfl⟩ := zm_bif hp
        exact zm_set_sz hc1 (show (List.set _ _ _).length = _ from List.length_set)
      · cases hp
    · cases hp
  · cases hp
theorem zm_k_iast (hp : zm_iast st h = some q) : q.2.length = h.length ∧ zm_szs q.2 = zm_szs h := by
  unfold zm_iast at hp
  split at hp
  · split at hp
    · rename_i hc1
      obtain ⟨-, rfl⟩ := zm_bif hp
      exact zm_set_sz hc1 rfl
    · cases hp
  · cases hp
theorem zm_k_last (hp : zm_last st h = some q) : q.2.length = h.length ∧ zm_szs q.2 = zm_szs h := by
  unfold zm_last at hp
  split at hp
  · split at hp
    · rename_i hc1
      obtain ⟨-, rfl⟩ := zm_bif hp
      exact zm_set_sz hc1 rfl
    · cases hp
  · cases hp
theorem zm_k_bast (hp : zm_bast st h = some q) : q.2.length = h.length ∧ zm_szs q.2 = zm_szs h := by
  unfold zm_bast at hp
  split at hp
  · rename_i v j a st2
    split at hp
    · rename_i t n f hc1
      cases hcc : zm_in j n with
      | false => rw [hcc] at hp; cases hp
      | true =>
        rw [hcc] at hp
        simp only [cond_true] at hp
        cases h2 : Nat.beq t 2 with
        | true =>
          rw [h2] at hp
          simp only [cond_true, Option.some.injEq] at hp
          subst hp
          exact zm_set_sz hc1 rfl
        | false =>
          rw [h2] at hp
          simp only [cond_false] at hp
          obtain ⟨-, rfl⟩ := zm_bif hp
          exact zm_set_sz hc1 rfl
    · cases hp
  · cases hp
theorem zm_k_aast (hp : zm_aast st h = some q) : q.2.length = h.length ∧ zm_szs q.2 = zm_szs h := by
  unfold zm_aast at hp
  split at hp
  · split at hp
    · rename_i hc1 hc2
      obtain ⟨-, rfl⟩ := zm_bif hp
      exact zm_set_sz hc1 rfl
    · cases hp
  · cases hp
theorem zm_k_init {k : Nat} (hp : zm_hp df og (.invokespecial k) x st h = some q) : ∃ a : Nat, Nat.beq x.2.2.1 1 = true ∧ st = [.ref a] ∧ q = ([], h) := by
  simp only [zm_hp] at hp
  cases hb : Nat.beq x.2.2.1 1 with
  | false => rw [hb] at hp; cases hp
  | true =>
    rw [hb] at hp
    simp only [cond_true] at hp
    split at hp
    · cases hp; exact ⟨_, rfl, rfl, rfl⟩
    · cases hp
theorem zm_k_is {k : Nat} (hp : zm_hp df og (.invokestatic k) x st h = some q) : Nat.beq x.2.2.1 7 = true ∧ zm_cpy st h = some q ∧ zm_cat q.1 ≤ 8 ∨ Nat.beq x.2.2.1 7 = false ∧ zm_math x.2.2.1 st = some q.1 ∧ zm_cat q.1 ≤ 8 ∧ q.2 = h := by
  simp only [zm_hp] at hp
  cases h7 : Nat.beq x.2.2.1 7 with
  | true =>
    rw [h7] at hp
    simp only [cond_true] at hp
    split at hp
    · rename_i q0 hm
      obtain ⟨hb, rfl⟩ := zm_bif hp
      exact Or.inl ⟨rfl, hm, Nat.le_of_ble_eq_true hb⟩
    · cases hp
  | false =>
  rw [h7] at hp
  simp only [cond_false] at hp
  refine Or.inr ⟨rfl, ?_⟩
  split at hp
  · rename_i st2 hm
    obtain ⟨hb, rfl⟩ := zm_bif hp
    exact ⟨hm, Nat.le_of_ble_eq_true hb, rfl⟩
  · cases hp
theorem zm_k_newa (hp : zm_newa x st h = some q) : h.length ≤ q.2.length ∧ zm_szs h ≤ zm_szs q.2 := by
  unfold zm_newa at hp
  split at hp
  · obtain ⟨-, rfl⟩ := zm_bif hp
    exact ⟨by simp, by rw [zm_szs_app]; omega⟩
  · cases hp
theorem zm_k_anew (hp : zm_anew x st h = some q) : h.length ≤ q.2.length ∧ zm_szs h ≤ zm_szs q.2 := by
  unfold zm_anew at hp
  split at hp
  · obtain ⟨-, rfl⟩ := zm_bif hp
    exact ⟨by simp, by rw [zm_szs_app]; omega⟩
  · cases hp
theorem zm_k_mnew (hp : zm_mnew st h = some q) : h.length ≤ q.2.length ∧ zm_szs h ≤ zm_szs q.2 := by
  unfold zm_mnew at hp
  split at hp
  · obtain ⟨-, rfl⟩ := zm_bif hp
    exact ⟨by simp, by rw [zm_szs_app2]; omega⟩
  · cases hp
theorem zm_hp_mono {i : Jvm.ClassFile.Instr} (hp : zm_hp df og i x st h = some q) : h.length ≤ q.2.length ∧ zm_szs h ≤ zm_szs q.2 := by
  have re : q.2 = h → h.length ≤ q.2.length ∧ zm_szs h ≤ zm_szs q.2 := fun e => by rw [e]; exact ⟨Nat.le_refl _, Nat.le_refl _⟩
  have we : q.2.length = h.length ∧ zm_szs q.2 = zm_szs h → h.length ≤ q.2.length ∧ zm_szs h ≤ zm_szs q.2 := fun e => ⟨Nat.le_of_eq e.1.symm, Nat.le_of_eq e.2.symm⟩
  cases i with
  | getfield k => exact re (zm_k_get hp)
  | putfield k => exact we (zm_k_put hp)
  | getstatic k => simp only [zm_hp, Option.some.injEq] at hp; subst hp; exact re rfl
  | arraylength => exact re (zm_k_alen hp)
  | iaload => exact re (zm_k_ald hp)
  | laload => exact re (zm_k_ald hp)
  | baload => exact re (zm_k_ald hp)
  | aaload => exact re (zm_k_aal hp)
  | iastore => exact we (zm_k_iast hp)
  | bastore => exact we (zm_k_bast hp)
  | lastore => exact we (zm_k_last hp)
  | aastore => exact we (zm_k_aast hp)
  | newarray k => exact zm_k_newa hp
  | anewarray k => exact zm_k_anew hp
  | multianewarray k d => exact zm_k_mnew hp
  | new k =>
    simp only [zm_hp, Option.some.injEq] at hp
    subst hp
    exact ⟨by simp, by rw [zm_szs_app]; omega⟩
  | invokespecial k => obtain ⟨a, -, -, rfl⟩ := zm_k_init hp; exact re rfl
  | invokestatic k =>
    rcases zm_k_is hp with h1 | h1
    · exact we (zm_k_cpy h1.2.1)
    · exact re h1.2.2.2
  | _ => cases hp
end ZMO
section ZMQ
variable {p : Program} {l : Launch} {e : Env} {R : Room} {s : State} {m : MethodId} {args : Array Value} {below : List Frame} {meth : Method} {c : Code} {H : Heap} {locs : List Loc} {cells slots : Nat} {Q : State → Prop}
variable {cc : ByteArray} {pc : Nat} {lsA : Array Slot} {rest : List Value}
variable {E : zm_E} {SS : zm_SS} {ST : zm_ST} {NW : zm_NW} {og : Nat → Option zm_C} {df : Nat → List Value} {cls mname : String} {len : Nat} {x : zm_X} {st : List Value} {h : zm_H} {q : List Value × zm_H}
theorem zm_copyW {α : Type} (mk : α → Value) {ty : FieldType} {index : Nat} (hx : p.tables.exec = Jvm.exec) (hb : c.code = cc) (hml : c.maxLocals = lsA.size) (hown : s.vm.findClass cls = some m.cls) (hlink : (Cond.methodLink cls index arraycopyName).before args s = true) (hnat : (Cond.native arraycopyName).before args s = true) (hstat : (Cond.static arraycopyName).before args s = true) (hini : (Cond.initialized "java/lang/System").before args s = true)
    {a0 a : Nat} {c0 c1 : ClassId} {n0 n1 : Nat} {f g : Nat → α} (hA0 : ArrOfT s c0 ty) (hA1 : ArrOfT s c1 ty) (hc0 : H[a0]? = some (arrV c0 n0 (fun j => mk (f j)))) (hc1 : H[a]? = some (arrV c1 n1 (fun j => mk (g j)))) (hprim : refKind ty = false)
    {sp dp n : Int32} (h1 : ¬ sp < 0) (h2 : ¬ dp < 0) (h3 : ¬ n < 0) (h4 : sp.toNatClampNeg + n.toNatClampNeg ≤ n0) (h5 : dp.toNatClampNeg + n.toNatClampNeg ≤ n1) (hfit : ∀ z : α, fits ty (mk z) = true) (hnr : ∀ (z : α) (b : Nat), mk z ≠ .ref b)
    (hframes : 1 ≤ R.frames) (hlocals : (rest.map fun v => v.category).sum + (nativeFrameWords "java/lang/System" "arraycopy" 5 + 11) ≤ R.locals) (hdg : decode cc pc = .ok (.invokestatic index, 3)) (hl : ∀ z ∈ locs, E.2.2.2.size ≤ z.base) (ha : E.2.2.2.size ≤ a)
    (kk : ∀ (H1 : Heap) (locs1 : List Loc), H1[a]? = some (arrV c1 n1 (fun j => mk (va_cpy f g sp.toNatClampNeg dp.toNatClampNeg n.toNatClampNeg j))) → H1.size = H.size → (∀ q : Nat, q ≠ a → H1[q]? = H[q]?) → (∀ z ∈ locs1, E.2.2.2.size ≤ z.base) → W p l e R s m args below meth c H1 locs1 cells slots Q (F0 m (pc + 3) lsA rest)) : W p l e R s m args below meth c H locs cells slots Q (F0 m pc lsA (.int n :: .int dp :: .ref a :: .int sp :: .ref a0 :: rest)) := by
  have nn : ∀ z : Int32, ¬ z < 0 → z.toInt = (z.toNatClampNeg : Int) := by
    intro z hz
    have hz0 : (0 : Int) ≤ z.toInt := by
      have := Int32.not_lt.mp hz
      simpa using Int32.le_iff_toInt_le.mp this
    show z.toInt = ((z.toInt.toNat : Nat) : Int)
    omega
  intro T hT X
  obtain ⟨-, k0, hk0, cm0, hkk0⟩ := hA0 n0 (fun j => mk (f j))
  obtain ⟨-, k1, hk1, cm1, hkk1⟩ := hA1 n1 (fun j => mk (g j))
  obtain ⟨vm', X', step⟩ := X.arraycopy hx hown hlink hnat hstat hini (src := a0) (dst := a) (cs := arrV c0 n0 (fun j => mk (f j))) (cd := arrV c1 n1 (fun j => mk (g j))) (srcPos := sp) (destPos := dp) (n := n) (by rw [hT]; exact hc0) (by rw [hT]; exact hc1)
    (fun _ h => by cases h) (fun _ h => by cases h) (fun h => by cases h) (fun h => by cases h) hk0 hk1 hkk0 hkk1 (by simp [hprim]) h1 h2 h3
    (by rw [nn sp h1, nn n h3]; show ¬ _ > ((arrV c0 n0 (fun j => mk (f j))).slots.size : Int); rw [arrV_size]; omega)
    (by rw [nn dp h2, nn n h3]; show ¬ _ > ((arrV c1 n1 (fun j => mk (g j))).slots.size : Int); rw [arrV_size]; omega)
    (fun vm₁ _ i hi => by
      have e : (arrV c0 n0 (fun j => mk (f j))).slots.getD (sp.toNatClampNeg + i) .null = mk (f (sp.toNatClampNeg + i)) := by
        rw [Array.getD_eq_getD_getElem?, arrV_read _ _ (by omega)]
        rfl
      refine ⟨?_, ?_⟩
      · rw [e]
        exact hfit _
      · rw [e]
        have hz := hnr (f (sp.toNatClampNeg + i))
        generalize mk (f (sp.toNatClampNeg + i)) = w at hz ⊢
        cases w <;> first | trivial | exact absurd rfl (hz _))
    (g := F0 m pc lsA (.int n :: .int dp :: .ref a :: .int sp :: .ref a0 :: rest)) rfl (by rw [hml]) (rest := rest) rfl (by rw [hb]; exact hdg) hframes (by show 2 * 0 + _ + _ ≤ _; omega)
  have e1 : copied (arrV c0 n0 (fun j => mk (f j))) (arrV c1 n1 (fun j => mk (g j))) sp dp n = arrV c1 n1 (fun j => mk (va_cpy f g sp.toNatClampNeg dp.toNatClampNeg n.toNatClampNeg j)) := va_copied mk c0 c1 f g h4
  rw [e1] at X' step
  have hlt : a < H.size := (Array.getElem?_eq_some_iff.mp hc1).1
  generalize arrV c1 n1 (fun j => mk (va_cpy f g sp.toNatClampNeg dp.toNatClampNeg n.toNatClampNeg j)) = cl at *
  have hheap : ((T.setVm vm').setCell a cl).heap = H.setIfInBounds a cl := by rw [← hT]; rfl
  obtain ⟨t, a1, b1⟩ := kk _ _ (show (H.setIfInBounds a cl)[a]? = some _ by simp [Array.getElem?_setIfInBounds, hlt]) (by simp) (fun q hq => by simp [Array.getElem?_setIfInBounds, Ne.symm hq]) (fun q hq => by
      rcases List.mem_append.mp hq with h | h
      · exact hl q h
      · obtain ⟨z, -, hz⟩ := List.mem_map.mp h
        rw [← hz]
        exact ha) _ hheap X'
  exact ⟨t, step t a1, b1⟩
theorem zm_h_cpy {k : Nat} (C : zm_Ch p s m args meth c cc E zm_W SS ST NW og df cls mname) (hd : decode cc pc = .ok (.invokestatic k, 3)) (w1 : (Cond.methodLink cls k arraycopyName).before args s = true) (w2 : (Cond.native arraycopyName).before args s = true) (w3 : (Cond.static arraycopyName).before args s = true) (w4 : (Cond.initialized "java/lang/System").before args s = true) (hfr : 1 ≤ R.frames) (hlo : 64 ≤ R.locals) (hsz : lsA.size = c.maxLocals) (hR : zm_Rel E h H) (hl : ∀ z ∈ locs, E.2.2.2.size ≤ z.base) (hp : zm_cpy st h = some q) (h8 : zm_cat q.1 ≤ 8)
    (kk : ∀ (H : Heap) (locs : List Loc), zm_Rel E q.2 H → (∀ z ∈ locs, E.2.2.2.size ≤ z.base) → W p l e R s m args below meth c H locs cells slots Q (F0 m (pc + 3) lsA (q.1.map (zm_t E)))) : W p l e R s m args below meth c H locs cells slots Q (F0 m pc lsA (st.map (zm_t E))) := by
  obtain ⟨hx, hb, hown, hts, hG, hT0, hnm⟩ := C
  unfold zm_cpy at hp
  split at hp
  · rename_i n dp a1 sp a0 st2
    split at hp
    · rename_i t0 n0 k0 t1 n1 k1 hc0 hc1
      cases hcc : (!(decide (n < 0)) && (!(decide (sp < 0)) && !(decide (dp < 0)))) && (Nat.ble (sp.toNatClampNeg + n.toNatClampNeg) n0 && Nat.ble (dp.toNatClampNeg + n.toNatClampNeg) n1) with
      | false => rw [hcc] at hp; cases hp
      | true =>
        rw [hcc] at hp
        simp only [cond_true] at hp
        simp only [Bool.and_eq_true, Bool.not_eq_true', decide_eq_false_iff_not] at hcc
        obtain ⟨⟨d1, d2, d3⟩, d4, d5⟩ := hcc
        have d4 := Nat.le_of_ble_eq_true d4
        have d5 := Nat.le_of_ble_eq_true d5
        split at hp
        · rename_i k hk
          cases hp
          have hcat : ((st2.map (zm_t E)).map fun v => v.category).sum + (nativeFrameWords "java/lang/System" "arraycopy" 5 + 11) ≤ R.locals := by
            have e : ((st2.map (zm_t E)).map fun v => v.category).sum = zm_cat st2 := zm_cat_tr _ _ st2
            have e2 : nativeFrameWords "java/lang/System" "arraycopy" 5 + 11 ≤ 48 := by decide
            have h8 : zm_cat st2 ≤ 8 := h8
            omega
          obtain ⟨t01, t02⟩ := hR.2.2 a0 _ hc0
          obtain ⟨t11, t12⟩ := hR.2.2 a1 _ hc1
          unfold zm_cpk at hk
          split at hk
          · rename_i f g
            obtain ⟨ht, rfl⟩ := zm_bif hk
            simp only [Bool.and_eq_true] at ht
            have e0 := Nat.eq_of_beq_eq_true ht.1
            have e1 := Nat.eq_of_beq_eq_true ht.2
            subst e0
            subst e1
            exact zm_copyW (fun z => Value.int z) (f := f) (g := g) (E := E) hx hb hsz.symm hown w1 w2 w3 w4 (hG.2.1 0 (by omega)).1 (hG.2.1 0 (by omega)).1 t02 t12 rfl d2 d3 d1 d4 d5 (fun _ => rfl) (fun _ _ z => by cases z) hfr hcat hd hl (Nat.le_add_right _ _) (fun H1 locs1 g1 g2 g3 g4 => kk H1 locs1 (hR.set hc1 ⟨t11, g1⟩ g2 g3) g4)
          · rename_i f g
            obtain ⟨ht, rfl⟩ := zm_bif hk
            simp only [Bool.and_eq_true] at ht
            have e0 := Nat.eq_of_beq_eq_true ht.1
            have e1 := Nat.eq_of_beq_eq_true ht.2
            subst e0
            subst e1
            exact zm_copyW (fun z => Value.long z) (f := f) (g := g) (E := E) hx hb hsz.symm hown w1 w2 w3 w4 (hG.2.1 1 (by omega)).1 (hG.2.1 1 (by omega)).1 t02 t12 rfl d2 d3 d1 d4 d5 (fun _ => rfl) (fun _ _ z => by cases z) hfr hcat hd hl (Nat.le_add_right _ _) (fun H1 locs1 g1 g2 g3 g4 => kk H1 locs1 (hR.set hc1 ⟨t11, g1⟩ g2 g3) g4)
          · cases hk
        · cases hp
    · cases hp
  · cases hp
theorem zm_hp_ok {i : Jvm.ClassFile.Instr} (C : zm_Ch p s m args meth c cc E zm_W SS ST NW og df cls mname) (hd : decode cc pc = .ok (i, len)) (hk : zm_hok zm_W ST cls mname i len x = true) (hfr : 1 ≤ R.frames) (hlo : 64 ≤ R.locals) (hsz : lsA.size = c.maxLocals) (hR : zm_Rel E h H) (hl : ∀ z ∈ locs, E.2.2.2.size ≤ z.base) (hp : zm_hp df og i x st h = some q) (hc : cells + (q.2.length - h.length) ≤ R.cells) (hs : slots + (zm_szs q.2 - zm_szs h) ≤ R.slots)
    (kk : ∀ (H : Heap) (locs : List Loc), zm_Rel E q.2 H → (∀ z ∈ locs, E.2.2.2.size ≤ z.base) → W p l e R s m args below meth c H locs (cells + (q.2.length - h.length)) (slots + (zm_szs q.2 - zm_szs h)) Q (F0 m (pc + len) lsA (q.1.map (zm_t E)))) : W p l e R s m args below meth c H locs cells slots Q (F0 m pc lsA (st.map (zm_t E))) := by
  have re : q.2 = h → ∀ (H : Heap) (locs : List Loc), zm_Rel E q.2 H → (∀ z ∈ locs, E.2.2.2.size ≤ z.base) → W p l e R s m args below meth c H locs cells slots Q (F0 m (pc + len) lsA (q.1.map (zm_t E))) := fun e H locs a b => by
    have k1 := kk H locs a b
    rw [e, Nat.sub_self, Nat.sub_self] at k1
    exact k1
  have we : q.2.length = h.length ∧ zm_szs q.2 = zm_szs h → ∀ (H : Heap) (locs : List Loc), zm_Rel E q.2 H → (∀ z ∈ locs, E.2.2.2.size ≤ z.base) → W p l e R s m args below meth c H locs cells slots Q (F0 m (pc + len) lsA (q.1.map (zm_t E))) := fun e H locs a b => by
    have k1 := kk H locs a b
    rw [e.1, e.2, Nat.sub_self, Nat.sub_self] at k1
    exact k1
  have h1 : (decide (len = 1) = true) → len = 1 := fun z => by simpa using z
  cases i with
  | getfield k => exact (zm_h_get C hd hk hR hp (fun H1 a => re (zm_k_get hp) H1 locs a hl)).2
  | putfield k => exact (zm_h_put C hd hk hR hl hp (we (zm_k_put hp))).2
  | getstatic k => exact (zm_h_gets C hd hk hR hp (fun H1 a => re (by simp only [zm_hp, Option.some.injEq] at hp; rw [← hp]) H1 locs a hl)).2
  | arraylength => exact (zm_h_alen C hd hk hR hp (fun H1 a => re (zm_k_alen hp) H1 locs a hl)).2
  | iaload => have z := h1 hk; subst z; exact (zm_h_ald (Or.inl rfl) C hd hR hp (fun H1 a => re (zm_k_ald hp) H1 locs a hl)).2
  | laload => have z := h1 hk; subst z; exact (zm_h_ald (Or.inr (Or.inl rfl)) C hd hR hp (fun H1 a => re (zm_k_ald hp) H1 locs a hl)).2
  | baload => have z := h1 hk; subst z; exact (zm_h_ald (Or.inr (Or.inr (Or.inl rfl))) C hd hR hp (fun H1 a => re (zm_k_ald hp) H1 locs a hl)).2
  | aaload => have z := h1 hk; subst z; exact (zm_h_aal C hd hR hp (fun H1 a => re (zm_k_aal hp) H1 locs a hl)).2
  | iastore => have z := h1 hk; subst z; exact (zm_h_iast C hd hR hl hp (we (zm_k_iast hp))).2
  | bastore => have z := h1 hk; subst z; exact (zm_h_bast C hd hR hl hp (we (zm_k_bast hp))).2
  | lastore => have z := h1 hk; subst z; exact (zm_h_last C hd hR hl hp (we (zm_k_last hp))).2
  | aastore => have z := h1 hk; subst z; exact (zm_h_aast C hd hR hl hp (we (zm_k_aast hp))).2
  | newarray k => exact zm_h_newa C hd hk hR hp hc hs (fun H1 a => kk H1 locs a hl)
  | anewarray k => exact zm_h_anew C hd hk hR hp hc hs (fun H1 a => kk H1 locs a hl)
  | multianewarray k d => exact zm_h_mnew C hd hk hR hp hc hs (fun H1 a => kk H1 locs a hl)
  | new k => exact zm_h_new C hd hk hR hp hc hs (fun H1 a => kk H1 locs a hl)
  | invokespecial k =>
    obtain ⟨a, -, rfl, rfl⟩ := zm_k_init hp
    obtain ⟨hx, hb, hown, hts, hG, hT0, hnm⟩ := C
    simp only [zm_hok, Bool.and_eq_true, decide_eq_true_eq] at hk
    obtain ⟨rfl, w1, w2, w3⟩ := hk
    exact W.objInit hx hb hown (hts _ (zm_m_in w1)) (hts _ (zm_m_in w2)) (hts _ (zm_m_in w3)) (g := F0 m pc lsA [zm_t E (.ref a)]) rfl hsz rfl hd hfr (by show 2 * 0 + 0 + 12 ≤ R.locals; omega) (re rfl H locs hR hl)
  | invokestatic k =>
    rcases zm_k_is hp with ⟨h7, hm, h8⟩ | ⟨h7, hm, h8, hq2⟩
    · simp only [zm_hok, Bool.and_eq_true, decide_eq_true_eq, h7, cond_true] at hk
      obtain ⟨rfl, w1, w2, w3, w4⟩ := hk
      have hts := C.2.2.2.1
      exact zm_h_cpy C hd (hts _ (zm_m_in w1)) (hts _ (zm_m_in w2)) (hts _ (zm_m_in w3)) (hts _ (zm_m_in w4)) hfr hlo hsz hR hl hm h8 (we (zm_k_cpy hm))
    obtain ⟨hx, hb, hown, hts, hG, hT0, hnm⟩ := C
    simp only [zm_hok, Bool.and_eq_true, decide_eq_true_eq, h7, cond_false] at hk
    obtain ⟨rfl, w1, w2, w3, w4⟩ := hk
    have w1 := hts _ (zm_m_in w1)
    have w2 := hts _ (zm_m_in w2)
    have w3 := hts _ (zm_m_in w3)
    have w4 := hts _ (zm_m_in w4)
    have k1 := re hq2 H locs (by rw [hq2]; exact hR) hl
    rw [hq2, Nat.sub_self] at hc hs
    have hsum : ∀ (v : Value) (rest : List Value), zm_cat (v :: rest) ≤ 8 → ((rest.map (zm_t E)).map fun v => v.category).sum ≤ 8 := by
      intro v rest hv
      show zm_cat (rest.map (zm_t E)) ≤ 8
      rw [zm_cat_tr]
      unfold zm_cat at hv ⊢
      rw [List.map_cons, List.sum_cons] at hv
      omega
    unfold zm_math at hm
    split at hm
    · rename_i hcd
      split at hm
      · simp only [Option.some.injEq] at hm
        rw [← hm] at k1 h8
        rw [hcd] at w1 w2 w4
        exact va_mmax hx hb hsz.symm hown w1 w2 w3 w4 hfr (by have := hsum _ _ h8; omega) (by omega) (by omega) hd k1
      · cases hm
    · rename_i hcd
      split at hm
      · simp only [Option.some.injEq] at hm
        rw [← hm] at k1 h8
        rw [hcd] at w1 w2 w4
        exact va_mmin hx hb hsz.symm hown w1 w2 w3 w4 hfr (by have := hsum _ _ h8; omega) (by omega) (by omega) hd k1
      · cases hm
    · rename_i hcd
      split at hm
      · simp only [Option.some.injEq] at hm
        rw [← hm] at k1 h8
        rw [hcd] at w1 w2 w4
        exact va_mabs hx hb hsz.symm hown w1 w2 w3 w4 hfr (by have := hsum _ _ h8; omega) (by omega) (by omega) hd k1
      · cases hm
    · rename_i hcd
      split at hm
      · simp only [Option.some.injEq] at hm
        rw [← hm] at k1 h8
        rw [hcd] at w1 w2 w4
        exact va_mmax_long hx hb hsz.symm hown w1 w2 w3 w4 hfr (by have := hsum _ _ h8; omega) (by omega) (by omega) hd k1
      · cases hm
    · rename_i hcd
      split at hm
      · simp only [Option.some.injEq] at hm
        rw [← hm] at k1 h8
        rw [hcd] at w1 w2 w4
        exact va_mmin_long hx hb hsz.symm hown w1 w2 w3 w4 hfr (by have := hsum _ _ h8; omega) (by omega) (by omega) hd k1
      · cases hm
    · rename_i hcd
      split at hm
      · simp only [Option.some.injEq] at hm
        rw [← hm] at k1 h8
        rw [hcd] at w1 w2 w4
        exact va_mabs_long hx hb hsz.symm hown w1 w2 w3 w4 hfr (by have := hsum _ _ h8; omega) (by omega) (by omega) hd k1
      · cases hm
    · cases hm
  | _ => cases hp
end ZMQ
