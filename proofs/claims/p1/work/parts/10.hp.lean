/-! All of the heap's instructions -/
theorem zm_cat_tr (ba : Nat) (ao : Nat → Nat) (vs : List Value) : zm_cat (vs.map (zm_tr ba ao)) = zm_cat vs := by
  unfold zm_cat
  rw [List.map_map]
  congr 1
  apply List.map_congr_left
  intro v _
  exact zm_tr_cat ba ao v
theorem zm_bif {α : Type} {c : Bool} {a q : α} (h : (bif c then some a else none) = some q) : c = true ∧ a = q := by
  cases c with
  | false => cases h
  | true => exact ⟨rfl, Option.some.inj h⟩
section ZMO
variable {og : Nat → Option zm_C} {df : Nat → List Value} {x : zm_X} {st : List Value} {h : zm_H} {q : List Value × zm_H}
theorem zm_k_get {k : Nat} (hp : zm_hp df og (.getfield k) x st h = some q) : q.2 = h := by
  simp only [zm_hp] at hp
  split at hp
  · split at hp
    · unfold zm_geto at hp
      split at hp
      · rename_i ci fs _
        cases hb : Nat.beq ci x.1 with
        | false => rw [hb] at hp; cases hp
        | true =>
          rw [hb] at hp
          simp only [cond_true] at hp
          split at hp
          · cases hp; rfl
          · cases hp
      · cases hp
    · cases hp
  · cases hp
theorem zm_k_alen (hp : zm_hp df og .arraylength x st h = some q) : q.2 = h := by
  simp only [zm_hp] at hp
  split at hp
  · split at hp
    · cases hp; rfl
    · cases hp
  · cases hp
theorem zm_k_ald {i : Jvm.ClassFile.Instr} (hp : zm_ald og i st h = some q) : q.2 = h := by
  unfold zm_ald at hp
  split at hp
  · split at hp
    · obtain ⟨-, rfl⟩ := zm_bif hp; rfl
    · cases hp
  · cases hp
theorem zm_k_put {k : Nat} (hp : zm_hp df og (.putfield k) x st h = some q) : q.2.length = h.length ∧ zm_szs q.2 = zm_szs h := by
  simp only [zm_hp] at hp
  split at hp
  · split at hp
    · rename_i hc1
      unfold zm_puto at hp
      split at hp
      · obtain ⟨-, rfl⟩ := zm_bif hp
        exact zm_set_sz hc1 (show (List.set _ _ _).length = _ from List.length_set)
      · cases hp
    · cases hp
  · cases hp
theorem zm_k_iast (hp : zm_iast st h = some q) : q.2.length = h.length ∧ zm_szs q.2 = zm_szs h := by
  unfold zm_iast at hp
  split at hp
  · split at hp
    · rename_i hc1
      obtain ⟨-, rfl⟩ := zm_bif hp
      exact zm_set_sz hc1 rfl
    · cases hp
  · cases hp
theorem zm_k_last (hp : zm_last st h = some q) : q.2.length = h.length ∧ zm_szs q.2 = zm_szs h := by
  unfold zm_last at hp
  split at hp
  · split at hp
    · rename_i hc1
      obtain ⟨-, rfl⟩ := zm_bif hp
      exact zm_set_sz hc1 rfl
    · cases hp
  · cases hp
theorem zm_k_bast (hp : zm_bast st h = some q) : q.2.length = h.length ∧ zm_szs q.2 = zm_szs h := by
  unfold zm_bast at hp
  split at hp
  · rename_i v j a st2
    split at hp
    · rename_i t n f hc1
      cases hcc : zm_in j n with
      | false => rw [hcc] at hp; cases hp
      | true =>
        rw [hcc] at hp
        simp only [cond_true] at hp
        cases h2 : Nat.beq t 2 with
        | true =>
          rw [h2] at hp
          simp only [cond_true, Option.some.injEq] at hp
          subst hp
          exact zm_set_sz hc1 rfl
        | false =>
          rw [h2] at hp
          simp only [cond_false] at hp
          obtain ⟨-, rfl⟩ := zm_bif hp
          exact zm_set_sz hc1 rfl
    · cases hp
  · cases hp
theorem zm_k_aast (hp : zm_aast st h = some q) : q.2.length = h.length ∧ zm_szs q.2 = zm_szs h := by
  unfold zm_aast at hp
  split at hp
  · split at hp
    · rename_i hc1 hc2
      obtain ⟨-, rfl⟩ := zm_bif hp
      exact zm_set_sz hc1 rfl
    · cases hp
  · cases hp
theorem zm_k_init {k : Nat} (hp : zm_hp df og (.invokespecial k) x st h = some q) : ∃ a : Nat, Nat.beq x.2.2.1 1 = true ∧ st = [.ref a] ∧ q = ([], h) := by
  simp only [zm_hp] at hp
  cases hb : Nat.beq x.2.2.1 1 with
  | false => rw [hb] at hp; cases hp
  | true =>
    rw [hb] at hp
    simp only [cond_true] at hp
    split at hp
    · cases hp; exact ⟨_, rfl, rfl, rfl⟩
    · cases hp
theorem zm_k_math {k : Nat} (hp : zm_hp df og (.invokestatic k) x st h = some q) : zm_math x.2.2.1 st = some q.1 ∧ zm_cat q.1 ≤ 8 ∧ q.2 = h := by
  simp only [zm_hp] at hp
  split at hp
  · rename_i st2 hm
    obtain ⟨hb, rfl⟩ := zm_bif hp
    exact ⟨hm, Nat.le_of_ble_eq_true hb, rfl⟩
  · cases hp
theorem zm_k_newa (hp : zm_newa x st h = some q) : h.length ≤ q.2.length ∧ zm_szs h ≤ zm_szs q.2 := by
  unfold zm_newa at hp
  split at hp
  · obtain ⟨-, rfl⟩ := zm_bif hp
    exact ⟨by simp, by rw [zm_szs_app]; omega⟩
  · cases hp
theorem zm_k_anew (hp : zm_anew x st h = some q) : h.length ≤ q.2.length ∧ zm_szs h ≤ zm_szs q.2 := by
  unfold zm_anew at hp
  split at hp
  · obtain ⟨-, rfl⟩ := zm_bif hp
    exact ⟨by simp, by rw [zm_szs_app]; omega⟩
  · cases hp
theorem zm_k_mnew (hp : zm_mnew st h = some q) : h.length ≤ q.2.length ∧ zm_szs h ≤ zm_szs q.2 := by
  unfold zm_mnew at hp
  split at hp
  · obtain ⟨-, rfl⟩ := zm_bif hp
    exact ⟨by simp, by rw [zm_szs_app2]; omega⟩
  · cases hp
theorem zm_hp_mono {i : Jvm.ClassFile.Instr} (hp : zm_hp df og i x st h = some q) : h.length ≤ q.2.length ∧ zm_szs h ≤ zm_szs q.2 := by
  have re : q.2 = h → h.length ≤ q.2.length ∧ zm_szs h ≤ zm_szs q.2 := fun e => by rw [e]; exact ⟨Nat.le_refl _, Nat.le_refl _⟩
  have we : q.2.length = h.length ∧ zm_szs q.2 = zm_szs h → h.length ≤ q.2.length ∧ zm_szs h ≤ zm_szs q.2 := fun e => ⟨Nat.le_of_eq e.1.symm, Nat.le_of_eq e.2.symm⟩
  cases i with
  | getfield k => exact re (zm_k_get hp)
  | putfield k => exact we (zm_k_put hp)
  | getstatic k => simp only [zm_hp, Option.some.injEq] at hp; subst hp; exact re rfl
  | arraylength => exact re (zm_k_alen hp)
  | iaload => exact re (zm_k_ald hp)
  | laload => exact re (zm_k_ald hp)
  | baload => exact re (zm_k_ald hp)
  | aaload => exact re (zm_k_ald hp)
  | iastore => exact we (zm_k_iast hp)
  | bastore => exact we (zm_k_bast hp)
  | lastore => exact we (zm_k_last hp)
  | aastore => exact we (zm_k_aast hp)
  | newarray k => exact zm_k_newa hp
  | anewarray k => exact zm_k_anew hp
  | multianewarray k d => exact zm_k_mnew hp
  | new k =>
    simp only [zm_hp, Option.some.injEq] at hp
    subst hp
    exact ⟨by simp, by rw [zm_szs_app]; omega⟩
  | invokespecial k => obtain ⟨a, -, -, rfl⟩ := zm_k_init hp; exact re rfl
  | invokestatic k => exact re (zm_k_math hp).2.2
  | _ => cases hp
end ZMO
section ZMQ
variable {p : Program} {l : Launch} {e : Env} {R : Room} {s : State} {m : MethodId} {args : Array Value} {below : List Frame} {meth : Method} {c : Code} {H : Heap} {locs : List Loc} {cells slots : Nat} {Q : State → Prop}
variable {cc : ByteArray} {pc : Nat} {lsA : Array Slot} {rest : List Value}
variable {E : zm_E} {SS : zm_SS} {ST : zm_ST} {NW : zm_NW} {og : Nat → Option zm_C} {df : Nat → List Value} {cls mname : String} {len : Nat} {x : zm_X} {st : List Value} {h : zm_H} {q : List Value × zm_H}
theorem zm_hp_ok {i : Jvm.ClassFile.Instr} (C : zm_Ch p s m args meth c cc E zm_W SS ST NW og df cls mname) (hd : decode cc pc = .ok (i, len)) (hk : zm_hok zm_W ST cls mname i len x = true) (hfr : 1 ≤ R.frames) (hlo : 24 ≤ R.locals) (hsz : lsA.size = c.maxLocals) (hR : zm_Rel E h H) (hl : ∀ z ∈ locs, E.2.2.2.size ≤ z.base) (hp : zm_hp df og i x st h = some q) (hc : cells + (q.2.length - h.length) ≤ R.cells) (hs : slots + (zm_szs q.2 - zm_szs h) ≤ R.slots)
    (kk : ∀ (H : Heap) (locs : List Loc), zm_Rel E q.2 H → (∀ z ∈ locs, E.2.2.2.size ≤ z.base) → W p l e R s m args below meth c H locs (cells + (q.2.length - h.length)) (slots + (zm_szs q.2 - zm_szs h)) Q (F0 m (pc + len) lsA (q.1.map (zm_t E)))) : W p l e R s m args below meth c H locs cells slots Q (F0 m pc lsA (st.map (zm_t E))) := by
  have re : q.2 = h → ∀ (H : Heap) (locs : List Loc), zm_Rel E q.2 H → (∀ z ∈ locs, E.2.2.2.size ≤ z.base) → W p l e R s m args below meth c H locs cells slots Q (F0 m (pc + len) lsA (q.1.map (zm_t E))) := fun e H locs a b => by
    have k1 := kk H locs a b
    rw [e, Nat.sub_self, Nat.sub_self] at k1
    exact k1
  have we : q.2.length = h.length ∧ zm_szs q.2 = zm_szs h → ∀ (H : Heap) (locs : List Loc), zm_Rel E q.2 H → (∀ z ∈ locs, E.2.2.2.size ≤ z.base) → W p l e R s m args below meth c H locs cells slots Q (F0 m (pc + len) lsA (q.1.map (zm_t E))) := fun e H locs a b => by
    have k1 := kk H locs a b
    rw [e.1, e.2, Nat.sub_self, Nat.sub_self] at k1
    exact k1
  have h1 : (decide (len = 1) = true) → len = 1 := fun z => by simpa using z
  cases i with
  | getfield k => exact (zm_h_get C hd hk hR hp (fun H1 a => re (zm_k_get hp) H1 locs a hl)).2
  | putfield k => exact (zm_h_put C hd hk hR hl hp (we (zm_k_put hp))).2
  | getstatic k => exact (zm_h_gets C hd hk hR hp (fun H1 a => re (by simp only [zm_hp, Option.some.injEq] at hp; rw [← hp]) H1 locs a hl)).2
  | arraylength => exact (zm_h_alen C hd hk hR hp (fun H1 a => re (zm_k_alen hp) H1 locs a hl)).2
  | iaload => have z := h1 hk; subst z; exact (zm_h_ald (Or.inl rfl) C hd hR hp (fun H1 a => re (zm_k_ald hp) H1 locs a hl)).2
  | laload => have z := h1 hk; subst z; exact (zm_h_ald (Or.inr (Or.inl rfl)) C hd hR hp (fun H1 a => re (zm_k_ald hp) H1 locs a hl)).2
  | baload => have z := h1 hk; subst z; exact (zm_h_ald (Or.inr (Or.inr (Or.inl rfl))) C hd hR hp (fun H1 a => re (zm_k_ald hp) H1 locs a hl)).2
  | aaload => have z := h1 hk; subst z; exact (zm_h_ald (Or.inr (Or.inr (Or.inr rfl))) C hd hR hp (fun H1 a => re (zm_k_ald hp) H1 locs a hl)).2
  | iastore => have z := h1 hk; subst z; exact (zm_h_iast C hd hR hl hp (we (zm_k_iast hp))).2
  | bastore => have z := h1 hk; subst z; exact (zm_h_bast C hd hR hl hp (we (zm_k_bast hp))).2
  | lastore => have z := h1 hk; subst z; exact (zm_h_last C hd hR hl hp (we (zm_k_last hp))).2
  | aastore => have z := h1 hk; subst z; exact (zm_h_aast C hd hR hl hp (we (zm_k_aast hp))).2
  | newarray k => exact zm_h_newa C hd hk hR hp hc hs (fun H1 a => kk H1 locs a hl)
  | anewarray k => exact zm_h_anew C hd hk hR hp hc hs (fun H1 a => kk H1 locs a hl)
  | multianewarray k d => exact zm_h_mnew C hd hk hR hp hc hs (fun H1 a => kk H1 locs a hl)
  | new k => exact zm_h_new C hd hk hR hp hc hs (fun H1 a => kk H1 locs a hl)
  | invokespecial k =>
    obtain ⟨a, -, rfl, rfl⟩ := zm_k_init hp
    obtain ⟨hx, hb, hown, hts, hG, hT0, hnm⟩ := C
    simp only [zm_hok, Bool.and_eq_true, decide_eq_true_eq] at hk
    obtain ⟨rfl, w1, w2, w3⟩ := hk
    exact W.objInit hx hb hown (hts _ (zm_m_in w1)) (hts _ (zm_m_in w2)) (hts _ (zm_m_in w3)) (g := F0 m pc lsA [zm_t E (.ref a)]) rfl hsz rfl hd hfr (by show 2 * 0 + 0 + 12 ≤ R.locals; omega) (re rfl H locs hR hl)
  | invokestatic k =>
    obtain ⟨hm, h8, hq2⟩ := zm_k_math hp
    obtain ⟨hx, hb, hown, hts, hG, hT0, hnm⟩ := C
    simp only [zm_hok, Bool.and_eq_true, decide_eq_true_eq] at hk
    obtain ⟨rfl, w1, w2, w3, w4⟩ := hk
    have w1 := hts _ (zm_m_in w1)
    have w2 := hts _ (zm_m_in w2)
    have w3 := hts _ (zm_m_in w3)
    have w4 := hts _ (zm_m_in w4)
    have k1 := re hq2 H locs (by rw [hq2]; exact hR) hl
    rw [hq2, Nat.sub_self] at hc hs
    have hsum : ∀ (v : Value) (rest : List Value), zm_cat (v :: rest) ≤ 8 → ((rest.map (zm_t E)).map fun v => v.category).sum ≤ 8 := by
      intro v rest hv
      show zm_cat (rest.map (zm_t E)) ≤ 8
      rw [zm_cat_tr]
      unfold zm_cat at hv ⊢
      rw [List.map_cons, List.sum_cons] at hv
      omega
    unfold zm_math at hm
    split at hm
    · rename_i hcd
      split at hm
      · simp only [Option.some.injEq] at hm
        rw [← hm] at k1 h8
        rw [hcd] at w1 w2 w4
        exact va_mmax hx hb hsz.symm hown w1 w2 w3 w4 hfr (by have := hsum _ _ h8; omega) (by omega) (by omega) hd k1
      · cases hm
    · rename_i hcd
      split at hm
      · simp only [Option.some.injEq] at hm
        rw [← hm] at k1 h8
        rw [hcd] at w1 w2 w4
        exact va_mmin hx hb hsz.symm hown w1 w2 w3 w4 hfr (by have := hsum _ _ h8; omega) (by omega) (by omega) hd k1
      · cases hm
    · rename_i hcd
      split at hm
      · simp only [Option.some.injEq] at hm
        rw [← hm] at k1 h8
        rw [hcd] at w1 w2 w4
        exact va_mabs hx hb hsz.symm hown w1 w2 w3 w4 hfr (by have := hsum _ _ h8; omega) (by omega) (by omega) hd k1
      · cases hm
    · rename_i hcd
      split at hm
      · simp only [Option.some.injEq] at hm
        rw [← hm] at k1 h8
        rw [hcd] at w1 w2 w4
        exact va_mmax_long hx hb hsz.symm hown w1 w2 w3 w4 hfr (by have := hsum _ _ h8; omega) (by omega) (by omega) hd k1
      · cases hm
    · rename_i hcd
      split at hm
      · simp only [Option.some.injEq] at hm
        rw [← hm] at k1 h8
        rw [hcd] at w1 w2 w4
        exact va_mmin_long hx hb hsz.symm hown w1 w2 w3 w4 hfr (by have := hsum _ _ h8; omega) (by omega) (by omega) hd k1
      · cases hm
    · rename_i hcd
      split at hm
      · simp only [Option.some.injEq] at hm
        rw [← hm] at k1 h8
        rw [hcd] at w1 w2 w4
        exact va_mabs_long hx hb hsz.symm hown w1 w2 w3 w4 hfr (by have := hsum _ _ h8; omega) (by omega) (by omega) hd k1
      · cases hm
    · cases hm
  | _ => cases hp
end ZMQ
