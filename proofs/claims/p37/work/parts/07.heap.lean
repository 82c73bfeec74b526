/-! The heap's instructions -/
section ZMH
variable {p : Program} {l : Launch} {e : Env} {R : Room} {s : State} {m : MethodId} {args : Array Value} {below : List Frame} {meth : Method} {c : Code} {H : Heap} {locs : List Loc} {cells slots : Nat} {Q : State → Prop}
variable {cc : ByteArray} {pc : Nat} {lsA : Array Slot} {rest : List Value}
variable {E : zm_E} {SS : zm_SS} {ST : zm_ST} {NW : zm_NW} {og : Nat → Option zm_C} {df : Nat → List Value} {cls mname : String} {len : Nat} {x : zm_X} {st : List Value} {h : zm_H} {q : List Value × zm_H}
/-- what a step with the heap stands on -/
def zm_Ch (p : Program) (s : State) (m : MethodId) (args : Array Value) (meth : Method) (c : Code) (cc : ByteArray) (E : zm_E) (TW : List Cond) (SS : zm_SS) (ST : zm_ST) (NW : zm_NW) (og : Nat → Option zm_C) (df : Nat → List Value) (cls mname : String) : Prop :=
  p.tables.exec = Jvm.exec ∧ c.code = cc ∧ s.vm.findClass cls = some m.cls ∧ (∀ w ∈ TW, w.before args s = true) ∧ zm_G E SS ST NW og s ∧ zm_T0 TW df ∧ meth.name = mname
abbrev zm_t (E : zm_E) : Value → Value := zm_tr E.2.2.2.size E.2.2.1
/-- an array that is read -/
theorem zm_rd_ok {v : Value} {t n : Nat} {k : zm_K} (hG : zm_G E SS ST NW og s) (hR : zm_Rel E h H) (hv : zm_rd og h v = some (.inl (t, n, k))) : ∃ (a : Nat) (cell : Cell), zm_t E v = .ref a ∧ H[a]? = some cell ∧ s.isArrayOf cell (zm_ty t) ∧ cell.vm ≠ .unknown ∧ n ≤ cell.slots.size ∧ cell.slots.size.toInt32 = Int32.ofNat n ∧ (t < 8 → ∀ i : Nat, i < n → cell.slots[i]? = some (zm_t E (zm_kv k i))) := by
  unfold zm_rd at hv
  split at hv
  · rename_i a
    obtain ⟨h1, h2⟩ := hR.2.2 a _ hv
    have hsz := arrV_size (E.2.1 t) n (fun j => zm_tr E.2.2.2.size E.2.2.1 (zm_kv k j))
    exact ⟨E.2.2.2.size + a, _, rfl, h2, (hG.2.1 t h1).1 n _, (fun z => by cases z), Nat.le_of_eq hsz.symm, by rw [hsz], fun _ i hi => arrV_read _ _ hi⟩
  · rename_i j
    split at hv
    · rename_i c0 hc0
      cases hv
      have ob : ∀ {ty : FieldType} {b N : Nat} {f : Nat → Value}, va_T ty b N f (fun a => E.2.2.2.size ≤ a) s E.2.2.2 → ∃ cell : Cell, H[b]? = some cell ∧ s.isArrayOf cell ty ∧ cell.vm ≠ .unknown ∧ N ≤ cell.slots.size ∧ cell.slots.size.toInt32 = Int32.ofNat N ∧ ∀ i : Nat, i < N → cell.slots[i]? = some (f i) := by
        intro ty b N f hT
        obtain ⟨cell, g1, g2, g3, g4, g5, g6, -⟩ := hT
        exact ⟨cell, by rw [hR.2.1 _ (Array.getElem?_eq_some_iff.mp g1).1]; exact g1, g2, g3, g4, g5, g6⟩
      unfold zm_ba at hc0
      cases h1 : Nat.beq j 1 with
      | true =>
        rw [h1] at hc0
        cases hc0
        have hj := Nat.eq_of_beq_eq_true h1
        subst hj
        obtain ⟨cell, g1, g2, g3, g4, g5, g6⟩ := ob hG.2.2.2.2.2.2.2.2.2.2.1
        exact ⟨E.2.2.1 1, cell, rfl, g1, g2, g3, g4, g5, fun z => absurd z (by omega)⟩
      | false =>
        rw [h1] at hc0
        simp only [cond_false] at hc0
        cases h2 : Nat.ble 100 j with
        | false => rw [h2] at hc0; cases hc0
        | true =>
          rw [h2] at hc0
          simp only [cond_true] at hc0
          have h2 := Nat.le_of_ble_eq_true h2
          split at hc0
          · rename_i l hl
            cases hc0
            obtain ⟨cell, g1, g2, g3, g4, g5, g6⟩ := ob (hG.2.2.2.2.2.2.2.2.2.1 (j - 100) l hl)
            have e : j - 100 + 100 = j := by omega
            rw [e] at g1
            exact ⟨E.2.2.1 j, cell, rfl, g1, g2, g3, g4, g5, fun _ i hi => g6 i hi⟩
          · cases hc0
    · obtain ⟨-, cell, g1, g2, g3, g4, g5⟩ := hG.2.2.2.2.2.2.1 j t n k hv
      exact ⟨E.2.2.1 j, cell, rfl, by rw [hR.2.1 _ (Array.getElem?_eq_some_iff.mp g1).1]; exact g1, g2, g3, Nat.le_of_eq g4.symm, by rw [g4], fun _ => g5⟩
  · cases hv
theorem zm_h_alen (C : zm_Ch p s m args meth c cc E zm_W SS ST NW og df cls mname) (hd : decode cc pc = .ok (.arraylength, len)) (hk : zm_hok zm_W ST cls mname .arraylength len x = true) (hR : zm_Rel E h H) (hp : zm_hp df og .arraylength x st h = some q)
    (kk : ∀ H : Heap, zm_Rel E q.2 H → W p l e R s m args below meth c H locs cells slots Q (F0 m (pc + len) lsA (q.1.map (zm_t E)))) : q.2 = h ∧ W p l e R s m args below meth c H locs cells slots Q (F0 m pc lsA (st.map (zm_t E))) := by
  obtain ⟨hx, hb, hown, hts, hG, hT0, hnm⟩ := C
  simp only [zm_hok, decide_eq_true_eq] at hk
  subst hk
  simp only [zm_hp] at hp
  split at hp
  · rename_i v st2
    split at hp
    · rename_i t n k hr
      simp only [Option.some.injEq] at hp
      subst hp
      refine ⟨rfl, ?_⟩
      obtain ⟨a, cell, e1, e2, e3, e4, -, e5, -⟩ := zm_rd_ok hG hR hr
      simp only [List.map_cons, e1]
      exact W.alen hx hb e2 e3 e5 rfl rfl hd (kk H hR)
    · cases hp
  · cases hp
theorem zm_h_ald {i : Jvm.ClassFile.Instr} (hi : i = .iaload ∨ i = .laload ∨ i = .baload ∨ i = .aaload) (C : zm_Ch p s m args meth c cc E zm_W SS ST NW og df cls mname) (hd : decode cc pc = .ok (i, 1)) (hR : zm_Rel E h H) (hp : zm_ald og i st h = some q)
    (kk : ∀ H : Heap, zm_Rel E q.2 H → W p l e R s m args below meth c H locs cells slots Q (F0 m (pc + 1) lsA (q.1.map (zm_t E)))) : q.2 = h ∧ W p l e R s m args below meth c H locs cells slots Q (F0 m pc lsA (st.map (zm_t E))) := by
  obtain ⟨hx, hb, hown, hts, hG, hT0, hnm⟩ := C
  unfold zm_ald at hp
  split at hp
  · rename_i j v st2
    split at hp
    · rename_i t n k hr
      cases hc : (zm_lds i t && zm_in j n) with
      | false => rw [hc] at hp; cases hp
      | true =>
        rw [hc] at hp
        simp only [cond_true, Option.some.injEq] at hp
        subst hp
        refine ⟨rfl, ?_⟩
        obtain ⟨a, cell, e1, e2, e3, e4, e5, -, e6⟩ := zm_rd_ok hG hR hr
        simp only [Bool.and_eq_true] at hc
        obtain ⟨h0, hlt⟩ := zm_in_vp hc.2
        have hin : ¬ (j < 0 ∨ cell.slots.size ≤ j.toNatClampNeg) := fun z => z.elim h0 (fun w => by omega)
        have k1 := kk H hR
        simp only [List.map_cons, e1]
        have hl := hc.1
        have h8 : t < 8 := by
          rcases hi with rfl | rfl | rfl | rfl
          · have := Nat.eq_of_beq_eq_true hl; omega
          · have := Nat.eq_of_beq_eq_true hl; omega
          · simp only [zm_lds, Bool.or_eq_true] at hl
            rcases hl with hl | hl
            · have := Nat.eq_of_beq_eq_true hl; omega
            · have := Nat.eq_of_beq_eq_true hl; omega
          · simp only [zm_lds, Bool.and_eq_true] at hl
            have := Nat.le_of_ble_eq_true hl.2
            omega
        have e7 := e6 h8
        rcases hi with rfl | rfl | rfl | rfl
        · have ht := Nat.eq_of_beq_eq_true hl
          subst ht
          exact W.iald hx hb e2 e3 e4 hin (e7 _ hlt) rfl rfl hd k1
        · have ht := Nat.eq_of_beq_eq_true hl
          subst ht
          exact W.lald hx hb e2 e3 e4 hin (e7 _ hlt) rfl rfl hd k1
        · simp only [zm_lds, Bool.or_eq_true] at hl
          rcases hl with hl | hl
          · have ht := Nat.eq_of_beq_eq_true hl
            subst ht
            exact W.bald hx hb e2 e3 e4 hin (e7 _ hlt) rfl rfl hd k1
          · have ht := Nat.eq_of_beq_eq_true hl
            subst ht
            exact W.zald hx hb e2 e3 e4 hin (e7 _ hlt) rfl rfl hd k1
        · simp only [zm_lds, Bool.and_eq_true] at hl
          have l1 := Nat.le_of_ble_eq_true hl.1
          have l2 := Nat.le_of_ble_eq_true hl.2
          have href : (zm_ty t).isReference = true := by
            rcases (show t = 4 ∨ t = 5 ∨ t = 6 ∨ t = 7 by omega) with rfl | rfl | rfl | rfl <;> rfl
          exact W.aald hx hb e2 e3 href e4 hin (e7 _ hlt) rfl rfl hd k1
    · cases hp
  · cases hp
theorem zm_h_aal (C : zm_Ch p s m args meth c cc E zm_W SS ST NW og df cls mname) (hd : decode cc pc = .ok (.aaload, 1)) (hR : zm_Rel E h H) (hp : zm_aal og st h = some q)
    (kk : ∀ H : Heap, zm_Rel E q.2 H → W p l e R s m args below meth c H locs cells slots Q (F0 m (pc + 1) lsA (q.1.map (zm_t E)))) : q.2 = h ∧ W p l e R s m args below meth c H locs cells slots Q (F0 m pc lsA (st.map (zm_t E))) := by
  unfold zm_aal at hp
  split at hp
  · rename_i j st2
    obtain ⟨hx, hb, hown, hts, hG, hT0, hnm⟩ := C
    cases hc : zm_in j 36 with
    | false => rw [hc] at hp; cases hp
    | true =>
      rw [hc] at hp
      simp only [cond_true, Option.some.injEq] at hp
      subst hp
      refine ⟨rfl, ?_⟩
      obtain ⟨h0, hlt⟩ := zm_in_vp hc
      obtain ⟨cell, g1, g2, g3, g4, g5, g6, -⟩ := hG.2.2.2.2.2.2.2.2.2.2.1
      have e2 : H[E.2.2.1 1]? = some cell := by rw [hR.2.1 _ (Array.getElem?_eq_some_iff.mp g1).1]; exact g1
      have hin : ¬ (j < 0 ∨ cell.slots.size ≤ j.toNatClampNeg) := fun z => z.elim h0 (fun w => by omega)
      exact W.aald hx hb e2 g2 rfl g3 hin (g6 _ hlt) rfl rfl hd (kk H hR)
  · exact zm_h_ald (Or.inr (Or.inr (Or.inr rfl))) C hd hR hp kk
theorem zm_h_get {k : Nat} (C : zm_Ch p s m args meth c cc E zm_W SS ST NW og df cls mname) (hd : decode cc pc = .ok (.getfield k, len)) (hk : zm_hok zm_W ST cls mname (.getfield k) len x = true) (hR : zm_Rel E h H) (hp : zm_hp df og (.getfield k) x st h = some q)
    (kk : ∀ H : Heap, zm_Rel E q.2 H → W p l e R s m args below meth c H locs cells slots Q (F0 m (pc + len) lsA (q.1.map (zm_t E)))) : q.2 = h ∧ W p l e R s m args below meth c H locs cells slots Q (F0 m pc lsA (st.map (zm_t E))) := by
  obtain ⟨hx, hb, hown, hts, hG, hT0, hnm⟩ := C
  simp only [zm_hok, Bool.and_eq_true, decide_eq_true_eq] at hk
  obtain ⟨rfl, hk⟩ := hk
  split at hk
  · rename_i r hr
    simp only [Bool.and_eq_true, decide_eq_true_eq] at hk
    obtain ⟨hlt, h40, hlink⟩ := hk
    simp only [zm_hp] at hp
    split at hp
    · rename_i a st2
      split at hp
      · rename_i c1 hc1
        unfold zm_geto at hp
        split at hp
        · rename_i ci fs
          cases hcc : Nat.beq ci x.1 with
          | false => rw [hcc] at hp; cases hp
          | true =>
            rw [hcc] at hp
            simp only [cond_true] at hp
            have hce := Nat.eq_of_beq_eq_true hcc
            split at hp
            · rename_i v hv
              simp only [Option.some.injEq] at hp
              subst hp
              refine ⟨rfl, ?_⟩
              obtain ⟨C0, T, N⟩ := r
              have hrr : zm_cl[ci]? = some (C0, T, N) := by rw [hce]; exact hr
              obtain ⟨r2, q1, q2, q3⟩ := hR.2.2 a _ hc1
              have he : r2 = (C0, T, N) := Option.some.inj (q1.symm.trans hrr)
              subst he
              have hP : va_P E.1 zm_cl [(E.2.2.2.size + a, .inr (ci, fs.map (zm_t E)))] H := by
                intro j y hy
                have hj : j < 1 := (List.getElem?_eq_some_iff.mp hy).1
                rw [show j = 0 by omega] at hy
                cases hy
                exact ⟨_, hrr, q3⟩
              exact va_get hx hb hts (hT0 ci _ hrr).1 hown hG.1 hP 0 rfl hrr x.2.1 hlt (hts _ (zm_m_in hlink)) (fun _ z => z) (v := zm_t E v) (by rw [List.getElem?_map, hv]; rfl) hd (kk H hR)
            · cases hp
        · cases hp
      · cases hp
    · split at hp
      · rename_i v hv
        unfold zm_of at hv
        split at hv
        · omega
        · omega
        · cases hv
      · cases hp
    · cases hp
  · rename_i hr
    split at hk
    · rename_i r hon
      simp only [zm_hp] at hp
      split at hp
      · rename_i a st2
        split at hp
        · rename_i c1 hc1
          unfold zm_geto at hp
          split at hp
          · rename_i ci fs
            cases hcc : Nat.beq ci x.1 with
            | false => rw [hcc] at hp; cases hp
            | true =>
              obtain ⟨r2, q1, -⟩ := hR.2.2 a _ hc1
              have hce := Nat.eq_of_beq_eq_true hcc
              rw [hce, hr] at q1
              cases q1
          · cases hp
        · cases hp
      · rename_i j st2
        split at hp
        · rename_i v hv
          simp only [Option.some.injEq] at hp
          subst hp
          refine ⟨rfl, ?_⟩
          obtain ⟨o, n, d, g0, cf, kf, fi, f, cell, g1, g2, g3, g4, g5, g6⟩ := hG.2.2.2.2.2.2.2.1 _ _ _ _ hv
          rw [hon] at g0
          cases g0
          have e2 : H[E.2.2.1 j]? = some cell := by rw [hR.2.1 _ (Array.getElem?_eq_some_iff.mp g3).1]; exact g3
          exact W.getf hx hb hown (hts _ (zm_m_in hk)) g1 g2 e2 g4 (v := zm_t E v) g5 rfl rfl hd (kk H hR)
        · cases hp
      · cases hp
    · cases hk
theorem zm_h_gets {k : Nat} (C : zm_Ch p s m args meth c cc E zm_W SS ST NW og df cls mname) (hd : decode cc pc = .ok (.getstatic k, len)) (hk : zm_hok zm_W ST cls mname (.getstatic k) len x = true) (hR : zm_Rel E h H) (hp : zm_hp df og (.getstatic k) x st h = some q)
    (kk : ∀ H : Heap, zm_Rel E q.2 H → W p l e R s m args below meth c H locs cells slots Q (F0 m (pc + len) lsA (q.1.map (zm_t E)))) : q.2 = h ∧ W p l e R s m args below meth c H locs cells slots Q (F0 m pc lsA (st.map (zm_t E))) := by
  obtain ⟨hx, hb, hown, hts, hG, hT0, hnm⟩ := C
  simp only [zm_hok, Bool.and_eq_true, decide_eq_true_eq] at hk
  obtain ⟨rfl, hk⟩ := hk
  have go : ∀ (C n d : String) (v : Value), zm_gs og x.2.2.2.1 = v → zm_m zm_W x.2.2.2.2 0 (.fieldLink cls k C n d) = true → va_Z C n d (zm_t E v) (fun a => E.2.2.2.size ≤ a) s E.2.2.2 → q.2 = h ∧ W p l e R s m args below meth c H locs cells slots Q (F0 m pc lsA (st.map (zm_t E))) := by
    intro C n d v hv hlink hz
    simp only [zm_hp, Option.some.injEq] at hp
    subst hp
    refine ⟨rfl, ?_⟩
    obtain ⟨cf, kf, fi, f, a, cell, g1, g2, g3, g4, g5, g6, g7, g8⟩ := hz
    have k1 := kk H hR
    simp only [List.map_cons, hv] at k1
    have hcell : H[a]? = some cell := by rw [hR.2.1 a (Nat.not_le.mp g8)]; exact g5
    exact W.gets hx hb hown (hts _ (zm_m_in hlink)) g1 g2 g3 g4 hcell (fun z => by rw [z] at g6; cases g6) g7 rfl hd k1
  rcases Bool.or_eq_true_iff.mp hk with hk | hk
  · obtain ⟨y, hy, hk⟩ := List.any_eq_true.mp hk
    simp only [Bool.and_eq_true, decide_eq_true_eq] at hk
    refine go _ _ _ (.retAddr y.2.2.2) ?_ hk.2 (hG.2.2.2.2.2.1 y hy)
    rw [hk.1.1]
    unfold zm_gs
    split
    · rename_i z
      exact absurd (Value.retAddr.inj z) hk.1.2
    · rfl
  · rcases Bool.or_eq_true_iff.mp hk with hk | hk
    · simp only [Bool.and_eq_true, decide_eq_true_eq] at hk
      exact go _ _ _ (.int 1) (by rw [hk.1]; rfl) hk.2 hG.2.2.2.2.2.2.2.2.2.2.2.2.1
    · simp only [Bool.and_eq_true, decide_eq_true_eq] at hk
      exact go _ _ _ _ (by rw [hk.1]) hk.2 hG.2.2.2.2.2.2.2.2.2.2.2.2.2
end ZMH
