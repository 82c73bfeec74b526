/-! What writes the heap -/
section ZMS
variable {p : Program} {l : Launch} {e : Env} {R : Room} {s : State} {m : MethodId} {args : Array Value} {below : List Frame} {meth : Method} {c : Code} {H : Heap} {locs : List Loc} {cells slots : Nat} {Q : State → Prop}
variable {cc : ByteArray} {pc : Nat} {lsA : Array Slot} {rest : List Value}
variable {E : zm_E} {SS : zm_SS} {ST : zm_ST} {NW : zm_NW} {og : Nat → Option zm_C} {df : Nat → List Value} {cls mname : String} {len : Nat} {x : zm_X} {st : List Value} {h : zm_H} {q : List Value × zm_H}
theorem zm_okv_fits {ty : FieldType} {v : Value} {ba : Nat} {ao : Nat → Nat} (hv : zm_okv ty v = true) : narrow ty (zm_tr ba ao v) = zm_tr ba ao v ∧ fits ty (zm_tr ba ao v) = true := by
  unfold zm_okv at hv
  split at hv
  · exact ⟨rfl, rfl⟩
  · exact ⟨rfl, rfl⟩
  · rename_i v
    simp only [Bool.or_eq_true, beq_iff_eq] at hv
    rcases hv with rfl | rfl
    · exact ⟨rfl, rfl⟩
    · exact ⟨rfl, rfl⟩
  · rename_i v
    simp only [Bool.and_eq_true, beq_iff_eq, decide_eq_true_eq] at hv
    have e : narrow .byte (.int v) = .int v := by show Value.int _ = _; rw [hv.1]
    exact ⟨e, by show fits .byte (.int v) = true; simp [fits]; exact hv.2⟩
  · rename_i v
    simp only [Bool.and_eq_true, beq_iff_eq, decide_eq_true_eq] at hv
    have e : narrow .char (.int v) = .int v := by show Value.int _ = _; rw [hv.1]
    exact ⟨e, by show fits .char (.int v) = true; simp [fits]; exact hv.2⟩
  · exact ⟨rfl, rfl⟩
  · exact ⟨rfl, rfl⟩
  · exact ⟨rfl, rfl⟩
  · exact ⟨rfl, rfl⟩
  · exact ⟨rfl, rfl⟩
  · cases hv
theorem zm_locs_put {E : zm_E} {locs : List Loc} {a i : Nat} (hl : ∀ z ∈ locs, E.2.2.2.size ≤ z.base) : ∀ z ∈ locs ++ [⟨E.2.2.2.size + a, i⟩], E.2.2.2.size ≤ z.base := by
  intro z hz
  rcases List.mem_append.mp hz with h1 | h1
  · exact hl z h1
  · rw [List.mem_singleton] at h1
    subst h1
    exact Nat.le_add_right _ _
theorem zm_map_set (f : Value → Value) (fs : List Value) (k : Nat) (v : Value) : (fs.set k v).map f = (fs.map f).set k (f v) := List.map_set
theorem zm_h_put {k : Nat} (C : zm_Ch p s m args meth c cc E zm_W SS ST NW og df cls mname) (hd : decode cc pc = .ok (.putfield k, len)) (hk : zm_hok zm_W ST cls mname (.putfield k) len x = true) (hR : zm_Rel E h H) (hl : ∀ z ∈ locs, E.2.2.2.size ≤ z.base) (hp : zm_hp df og (.putfield k) x st h = some q)
    (kk : ∀ (H : Heap) (locs : List Loc), zm_Rel E q.2 H → (∀ z ∈ locs, E.2.2.2.size ≤ z.base) → W p l e R s m args below meth c H locs cells slots Q (F0 m (pc + len) lsA (q.1.map (zm_t E)))) : (q.2.length = h.length ∧ zm_szs q.2 = zm_szs h) ∧ W p l e R s m args below meth c H locs cells slots Q (F0 m pc lsA (st.map (zm_t E))) := by
  obtain ⟨hx, hb, hown, hts, hG, hT0, hnm⟩ := C
  simp only [zm_hok, Bool.and_eq_true, decide_eq_true_eq] at hk
  obtain ⟨rfl, hk⟩ := hk
  split at hk
  · rename_i r hr
    simp only [Bool.and_eq_true, decide_eq_true_eq, Bool.or_eq_true, Bool.not_eq_true'] at hk
    obtain ⟨hlt, hlink, hfin⟩ := hk
    simp only [zm_hp] at hp
    split at hp
    · rename_i v a st2
      split at hp
      · rename_i c1 hc1
        unfold zm_puto at hp
        split at hp
        · rename_i ci fs
          cases hcc : (Nat.beq ci x.1 && (Nat.blt x.2.1 fs.length && zm_okv (zm_ft ci x.2.1) v)) with
          | false => rw [hcc] at hp; cases hp
          | true =>
            rw [hcc] at hp
            simp only [cond_true, Option.some.injEq] at hp
            subst hp
            simp only [Bool.and_eq_true] at hcc
            obtain ⟨hce, hl0, hov⟩ := hcc
            have hce := Nat.eq_of_beq_eq_true hce
            have hlf : x.2.1 < fs.length := Nat.le_of_ble_eq_true hl0
            obtain ⟨C0, T, N⟩ := r
            have hrr : zm_cl[ci]? = some (C0, T, N) := by rw [hce]; exact hr
            obtain ⟨r2, q1, q2, cell, q3, q4, q5, q6⟩ := hR.2.2 a _ hc1
            have he : r2 = (C0, T, N) := Option.some.inj (q1.symm.trans hrr)
            subst he
            obtain ⟨t1, t2, t3, -, -⟩ := hT0 ci _ hrr
            obtain ⟨hn, hf⟩ := zm_okv_fits (ba := E.2.2.2.size) (ao := E.2.2.1) hov
            have hap := va_apart (own := cls) hts t1 (zm_ft ci) t2 t3 hG.1 hrr
            obtain ⟨hS, hfc, kC, hkC, hkind⟩ := hG.1.1 ci _ hrr
            obtain ⟨cf, kf, fi, f, hi, hsl⟩ := hS x.2.1 hlt
            have hst := (u_facts hfc hkC (u_lays hts t1 hlt) hi).1
            have hlay := hts _ (t1 _ (u_in_lay hlt))
            have hlk := hts _ (zm_m_in hlink)
            have fin : ∀ H1 : Heap, H1[E.2.2.2.size + a]? = some (cell.setSlot (E.1.2 ci x.2.1) (zm_t E v)) → H1.size = H.size → (∀ q : Nat, q ≠ E.2.2.2.size + a → H1[q]? = H[q]?) → zm_Rel E (h.set a (.inr (ci, fs.set x.2.1 v))) H1 := by
              intro H1 e1 e2 e3
              refine hR.set hc1 ⟨_, hrr, by rw [List.length_set]; exact q2, ?_⟩ e2 e3
              rw [zm_map_set]
              exact t_OB.to (V := updV (vp_V (fs.map (zm_t E))) x.2.1 (zm_t E v)) ⟨_, e1, q4, q5, t_set q6 hap hlt _⟩ (fun j _ => vp_updV_set (by rw [List.length_map]; exact hlf) _ j)
            refine ⟨⟨List.length_set, ?_⟩, ?_⟩
            · have hls : a < h.length := (List.getElem?_eq_some_iff.mp hc1).1
              have e0 : zm_sz (.inr (ci, fs.set x.2.1 v)) = zm_sz (.inr (ci, fs)) := List.length_set
              simp only [zm_szs, List.map_set, e0]
              have e9 : (h.map zm_sz)[a]? = some (zm_sz (.inr (ci, fs))) := by rw [List.getElem?_map, hc1]; rfl
              have e8 : (h.map zm_sz).set a (zm_sz (.inr (ci, fs))) = h.map zm_sz := by
                apply List.ext_getElem?
                intro j
                by_cases hj : j = a
                · subst hj
                  rw [List.getElem?_set_self (by rw [List.length_map]; exact hls), e9]
                · rw [List.getElem?_set_ne (Ne.symm hj)]
              rw [e8]
            · rcases hfin with hfin | ⟨hin, hdc⟩
              · unfold u_lay at hlay
                rw [if_neg (by rw [hfin]; decide)] at hlay
                have h6 := u_store hfc hkC hkind hlay hi (t2 _ hlt) hn hf
                refine W.putK hx hb (f := f) ⟨hown, hlk, ⟨_, _, _, hi⟩, hst⟩ (by rw [q4]; exact h6) q3 q5 (by rw [hsl]; exact k2_hasslot (q6 _ hlt)) rfl rfl hd fun H1 e1 e2 e3 => ?_
                rw [hsl] at e1 ⊢
                exact kk H1 _ (fin H1 e1 e2 e3) (zm_locs_put hl)
              · by_cases hff : (T x.2.1).2.2.2 = true
                · unfold u_lay at hlay
                  rw [if_pos hff] at hlay
                  have hcf : m.cls = cf := by
                    obtain ⟨_, _, c', _, _, _, -, -, hf', -, -, -, hown2, -⟩ := Cond.laysFinal_spec hlay
                    have e1 : c' = cf := by have := hi.symm.trans hf'; simp at this; exact this.1.symm
                    rw [hdc] at hown2
                    rw [← e1]; exact Option.some.inj (hown.symm.trans hown2)
                  have h6 := u_fits hfc hkC hkind (Or.inr hlay) hi (t2 _ hlt) hn hf
                  refine W.putFinK hx hb hown hlk hi hst hcf (hnm.trans hin) (by rw [q4]; exact h6) q3 q5 (by rw [hsl]; exact k2_hasslot (q6 _ hlt)) rfl rfl hd fun H1 e1 e2 e3 => ?_
                  rw [hsl] at e1 ⊢
                  exact kk H1 _ (fin H1 e1 e2 e3) (zm_locs_put hl)
                · unfold u_lay at hlay
                  rw [if_neg hff] at hlay
                  have h6 := u_store hfc hkC hkind hlay hi (t2 _ hlt) hn hf
                  refine W.putK hx hb (f := f) ⟨hown, hlk, ⟨_, _, _, hi⟩, hst⟩ (by rw [q4]; exact h6) q3 q5 (by rw [hsl]; exact k2_hasslot (q6 _ hlt)) rfl rfl hd fun H1 e1 e2 e3 => ?_
                  rw [hsl] at e1 ⊢
                  exact kk H1 _ (fin H1 e1 e2 e3) (zm_locs_put hl)
        · cases hp
      · cases hp
    · cases hp
  · cases hk
/-- the cell of an array after a store -/
theorem zm_arr_set {f : zm_K} {g : zm_K} {j : Nat} {w : Value} {cA : ClassId} {n : Nat} (hg : ∀ i : Nat, zm_t E (zm_kv g i) = if i = j then w else zm_t E (zm_kv f i)) : (arrV cA n (fun i => zm_t E (zm_kv f i))).setSlot j w = arrV cA n (fun i => zm_t E (zm_kv g i)) := by
  rw [arrV_store]
  congr 1
  funext i
  rw [hg i]
  rfl
theorem zm_set_sz {c1 c2 : zm_C} {a : Nat} (hc : h[a]? = some c1) (hs : zm_sz c2 = zm_sz c1) : (h.set a c2).length = h.length ∧ zm_szs (h.set a c2) = zm_szs h := by
  refine ⟨List.length_set, ?_⟩
  have hls : a < h.length := (List.getElem?_eq_some_iff.mp hc).1
  simp only [zm_szs, List.map_set, hs]
  have e8 : (h.map zm_sz).set a (zm_sz c1) = h.map zm_sz := by
    apply List.ext_getElem?
    intro j
    by_cases hj : j = a
    · subst hj
      rw [List.getElem?_set_self (by rw [List.length_map]; exact hls), List.getElem?_map, hc]; rfl
    · rw [List.getElem?_set_ne (Ne.symm hj)]
  rw [e8]
theorem zm_h_iast (C : zm_Ch p s m args meth c cc E zm_W SS ST NW og df cls mname) (hd : decode cc pc = .ok (.iastore, 1)) (hR : zm_Rel E h H) (hl : ∀ z ∈ locs, E.2.2.2.size ≤ z.base) (hp : zm_iast st h = some q)
    (kk : ∀ (H : Heap) (locs : List Loc), zm_Rel E q.2 H → (∀ z ∈ locs, E.2.2.2.size ≤ z.base) → W p l e R s m args below meth c H locs cells slots Q (F0 m (pc + 1) lsA (q.1.map (zm_t E)))) : (q.2.length = h.length ∧ zm_szs q.2 = zm_szs h) ∧ W p l e R s m args below meth c H locs cells slots Q (F0 m pc lsA (st.map (zm_t E))) := by
  obtain ⟨hx, hb, hown, hts, hG, hT0, hnm⟩ := C
  unfold zm_iast at hp
  split at hp
  · rename_i v j a st2
    split at hp
    · rename_i t n f hc1
      cases hcc : (Nat.beq t 0 && zm_in j n) with
      | false => rw [hcc] at hp; cases hp
      | true =>
        rw [hcc] at hp
        simp only [cond_true, Option.some.injEq] at hp
        subst hp
        simp only [Bool.and_eq_true] at hcc
        have ht := Nat.eq_of_beq_eq_true hcc.1
        subst ht
        obtain ⟨h0, hlt⟩ := zm_in_vp hcc.2
        obtain ⟨t1, t2⟩ := hR.2.2 a _ hc1
        refine ⟨zm_set_sz hc1 rfl, ?_⟩
        refine W.iast hx hb t2 ((hG.2.1 0 t1).1 n _) (fun z => by cases z) (fun z => z.elim h0 (fun w => by rw [arrV_size] at w; omega)) rfl rfl hd fun H1 e1 e2 e3 => ?_
        refine kk H1 _ (hR.set hc1 ⟨t1, e1.trans (congrArg some (zm_arr_set (fun i => ?_)))⟩ e2 e3) (zm_locs_put hl)
        show Value.int (upd f j.toNatClampNeg v i) = _
        unfold upd
        split <;> rfl
    · cases hp
  · cases hp
theorem zm_h_last (C : zm_Ch p s m args meth c cc E zm_W SS ST NW og df cls mname) (hd : decode cc pc = .ok (.lastore, 1)) (hR : zm_Rel E h H) (hl : ∀ z ∈ locs, E.2.2.2.size ≤ z.base) (hp : zm_last st h = some q)
    (kk : ∀ (H : Heap) (locs : List Loc), zm_Rel E q.2 H → (∀ z ∈ locs, E.2.2.2.size ≤ z.base) → W p l e R s m args below meth c H locs cells slots Q (F0 m (pc + 1) lsA (q.1.map (zm_t E)))) : (q.2.length = h.length ∧ zm_szs q.2 = zm_szs h) ∧ W p l e R s m args below meth c H locs cells slots Q (F0 m pc lsA (st.map (zm_t E))) := by
  obtain ⟨hx, hb, hown, hts, hG, hT0, hnm⟩ := C
  unfold zm_last at hp
  split at hp
  · rename_i v j a st2
    split at hp
    · rename_i t n f hc1
      cases hcc : (Nat.beq t 1 && zm_in j n) with
      | false => rw [hcc] at hp; cases hp
      | true =>
        rw [hcc] at hp
        simp only [cond_true, Option.some.injEq] at hp
        subst hp
        simp only [Bool.and_eq_true] at hcc
        have ht := Nat.eq_of_beq_eq_true hcc.1
        subst ht
        obtain ⟨h0, hlt⟩ := zm_in_vp hcc.2
        obtain ⟨t1, t2⟩ := hR.2.2 a _ hc1
        refine ⟨zm_set_sz hc1 rfl, ?_⟩
        refine W.last hx hb t2 ((hG.2.1 1 t1).1 n _) (fun z => by cases z) (fun z => z.elim h0 (fun w => by rw [arrV_size] at w; omega)) rfl rfl hd fun H1 e1 e2 e3 => ?_
        refine kk H1 _ (hR.set hc1 ⟨t1, e1.trans (congrArg some (zm_arr_set (fun i => ?_)))⟩ e2 e3) (zm_locs_put hl)
        show Value.long (vp_updL f j.toNatClampNeg v i) = _
        unfold vp_updL
        split <;> rfl
    · cases hp
  · cases hp
theorem zm_h_bast (C : zm_Ch p s m args meth c cc E zm_W SS ST NW og df cls mname) (hd : decode cc pc = .ok (.bastore, 1)) (hR : zm_Rel E h H) (hl : ∀ z ∈ locs, E.2.2.2.size ≤ z.base) (hp : zm_bast st h = some q)
    (kk : ∀ (H : Heap) (locs : List Loc), zm_Rel E q.2 H → (∀ z ∈ locs, E.2.2.2.size ≤ z.base) → W p l e R s m args below meth c H locs cells slots Q (F0 m (pc + 1) lsA (q.1.map (zm_t E)))) : (q.2.length = h.length ∧ zm_szs q.2 = zm_szs h) ∧ W p l e R s m args below meth c H locs cells slots Q (F0 m pc lsA (st.map (zm_t E))) := by
  obtain ⟨hx, hb, hown, hts, hG, hT0, hnm⟩ := C
  unfold zm_bast at hp
  split at hp
  · rename_i v j a st2
    split at hp
    · rename_i t n f hc1
      cases hcc : zm_in j n with
      | false => rw [hcc] at hp; cases hp
      | true =>
        rw [hcc] at hp
        simp only [cond_true] at hp
        obtain ⟨h0, hlt⟩ := zm_in_vp hcc
        obtain ⟨t1, t2⟩ := hR.2.2 a _ hc1
        cases h2 : Nat.beq t 2 with
        | true =>
          rw [h2] at hp
          simp only [cond_true, Option.some.injEq] at hp
          subst hp
          have ht := Nat.eq_of_beq_eq_true h2
          subst ht
          refine ⟨zm_set_sz hc1 rfl, ?_⟩
          refine W.bast hx hb t2 ((hG.2.1 2 t1).1 n _) (fun z => by cases z) (fun z => z.elim h0 (fun w => by rw [arrV_size] at w; omega)) rfl rfl hd fun H1 e1 e2 e3 => ?_
          refine kk H1 _ (hR.set hc1 ⟨t1, e1.trans (congrArg some (zm_arr_set (fun i => ?_)))⟩ e2 e3) (zm_locs_put hl)
          show Value.int (upd f j.toNatClampNeg v.toInt8.toInt32 i) = _
          unfold upd
          split <;> rfl
        | false =>
          rw [h2] at hp
          simp only [cond_false] at hp
          cases h3 : Nat.beq t 3 with
          | false => rw [h3] at hp; cases hp
          | true =>
            rw [h3] at hp
            simp only [cond_true, Option.some.injEq] at hp
            subst hp
            have ht := Nat.eq_of_beq_eq_true h3
            subst ht
            refine ⟨zm_set_sz hc1 rfl, ?_⟩
            refine W.zast hx hb t2 ((hG.2.1 3 t1).1 n _) (fun z => by cases z) (fun z => z.elim h0 (fun w => by rw [arrV_size] at w; omega)) rfl rfl hd fun H1 e1 e2 e3 => ?_
            refine kk H1 _ (hR.set hc1 ⟨t1, e1.trans (congrArg some (zm_arr_set (fun i => ?_)))⟩ e2 e3) (zm_locs_put hl)
            show Value.int (upd f j.toNatClampNeg (v &&& 1) i) = _
            unfold upd
            split <;> rfl
    · cases hp
  · cases hp
theorem zm_h_aast (C : zm_Ch p s m args meth c cc E zm_W SS ST NW og df cls mname) (hd : decode cc pc = .ok (.aastore, 1)) (hR : zm_Rel E h H) (hl : ∀ z ∈ locs, E.2.2.2.size ≤ z.base) (hp : zm_aast st h = some q)
    (kk : ∀ (H : Heap) (locs : List Loc), zm_Rel E q.2 H → (∀ z ∈ locs, E.2.2.2.size ≤ z.base) → W p l e R s m args below meth c H locs cells slots Q (F0 m (pc + 1) lsA (q.1.map (zm_t E)))) : (q.2.length = h.length ∧ zm_szs q.2 = zm_szs h) ∧ W p l e R s m args below meth c H locs cells slots Q (F0 m pc lsA (st.map (zm_t E))) := by
  obtain ⟨hx, hb, hown, hts, hG, hT0, hnm⟩ := C
  unfold zm_aast at hp
  split at hp
  · rename_i r j a st2
    split at hp
    · rename_i t n f ci vs hc1 hc2
      cases hcc : (Nat.ble 4 t && Nat.ble t 6 && Nat.beq ci (zm_tc t) && zm_in j n) with
      | false => rw [hcc] at hp; cases hp
      | true =>
        rw [hcc] at hp
        simp only [cond_true, Option.some.injEq] at hp
        subst hp
        simp only [Bool.and_eq_true] at hcc
        obtain ⟨⟨⟨u1, u2⟩, u3⟩, u4⟩ := hcc
        have u1 := Nat.le_of_ble_eq_true u1
        have u2 := Nat.le_of_ble_eq_true u2
        have u3 := Nat.eq_of_beq_eq_true u3
        obtain ⟨h0, hlt⟩ := zm_in_vp u4
        obtain ⟨t1, t2⟩ := hR.2.2 a _ hc1
        obtain ⟨r0, w1, w2, cellV, w3, w4, w5, -⟩ := hR.2.2 r _ hc2
        obtain ⟨g1, g2⟩ := hG.2.1 t t1
        have key : ∃ C0 : String, zm_ty t = .object C0 ∧ r0.1 = C0 := by
          rcases (show t = 4 ∨ t = 5 ∨ t = 6 by omega) with rfl | rfl | rfl
          · subst u3; cases w1; exact ⟨_, rfl, rfl⟩
          · subst u3; cases w1; exact ⟨_, rfl, rfl⟩
          · subst u3; cases w1; exact ⟨_, rfl, rfl⟩
        obtain ⟨C0, k0, k00⟩ := key
        rw [k0] at g2
        obtain ⟨kA, comp, k1, k2, k3, -⟩ := g2
        have hcls := (hG.1.1 ci r0 w1).2
        rw [k00] at hcls
        have hcomp : comp = E.1.1 ci := Option.some.inj (k3.symm.trans hcls.1)
        subst hcomp
        obtain ⟨kC, hkC, hkind⟩ := hcls.2
        refine ⟨zm_set_sz hc1 rfl, ?_⟩
        refine W.aast hx hb t2 (fun q h => by cases h) (fun h => by cases h) k1 k2 rfl hkC ⟨h0, by show _ < (arrV _ _ _).slots.size; rw [arrV_size]; exact hlt⟩ w3 (fun q h => by rw [w5] at h; cases h) (by rw [w4]; exact hkC) (by rw [w4]; exact va_assign hcls) rfl rfl hd fun H1 e1 e2 e3 => ?_
        refine kk H1 _ (hR.set hc1 ⟨t1, e1.trans (congrArg some (zm_arr_set (fun i => ?_)))⟩ e2 e3) (zm_locs_put hl)
        show zm_t E (va_rf (va_up f j.toNatClampNeg (some r) i)) = _
        unfold va_up
        split <;> rfl
    · cases hp
  · cases hp
end ZMS
