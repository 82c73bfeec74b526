/-! Fourteenth part: the run -/
abbrev xFr : Type := Nat × Nat × xLS × List xv
abbrev xS : Type := Nat × Nat × xLS × List xv × xD × List xFr
abbrev xEn : Type := Nat × xT × xl
abbrev xCx : Type := xEnv × List (Nat × zm_M) × List xCo × xCo × List xEn × Option xl
def xmt : List (Nat × zm_M) → Nat → Option zm_M
  | [], _ => none
  | q :: t, k => bif Nat.beq q.1 k then some q.2 else xmt t k
def xretv (ret : Option FieldType) (i : Jvm.ClassFile.Instr) (n : xN) (st : List xv) : Option (Option xv) := match i with
  | .return_ => (match ret, st with
    | none, [] => some none
    | _, _ => none)
  | .ireturn => (match ret, st with
    | some ty, [a] => bif Nat.beq a.1 0 then (match ty with
      | .int => some (some a)
      | .boolean => bif xbt n.1 0 1 a.2.1 then some (some a) else none
      | .byte => bif xbt n.1 (.negSucc 127) (.ofNat 127) a.2.1 then some (some a) else none
      | .char => bif xbt n.1 0 (.ofNat 65535) a.2.1 then some (some a) else none
      | _ => none) else none
    | _, _ => none)
  | .lreturn => (match ret, st with
    | some .long, [a] => bif Nat.beq a.1 1 then some (some a) else none
    | _, _ => none)
  | .areturn => (match ret, st with
    | some (.object _), [a] => bif xir a then some (some a) else none
    | _, _ => none)
  | _ => none
theorem xretv_ok {ρ : List Int} {σ : List Nat} {ret : Option FieldType} {i : Jvm.ClassFile.Instr} {n : xN} {st : List xv} {sc : List Value} {o : Option xv} (hn : xnok ρ n) (hs : xsk ρ σ st sc) (h : xretv ret i n st = some o) : ∃ r, zm_ret ret i sc = some r ∧ xrs ρ σ o r := by
  unfold xretv at h
  split at h
  · split at h
    · cases h
      rw [xsk_nil hs]
      exact ⟨none, rfl, trivial⟩
    · cases h
  · split at h
    · rename_i ty a
      obtain ⟨v, s, rfl, hv, hs'⟩ := xsk_cons hs
      rw [xsk_nil hs']
      cases h1 : Nat.beq a.1 0 with
      | false => rw [h1] at h; cases h
      | true =>
        rw [h1] at h
        simp only [cond_true] at h
        obtain ⟨j, rfl, he⟩ := xc_i hv h1
        split at h
        · cases h
          exact ⟨some (.int j), rfl, hv⟩
        · cases h2 : xbt n.1 0 1 a.2.1 with
          | false => rw [h2] at h; cases h
          | true =>
            rw [h2] at h
            cases h
            obtain ⟨b1, b2⟩ := xbt_ok hn.1 h2 he
            have e : (j == 0 || j == 1) = true := by
              rcases (show j.toInt = 0 ∨ j.toInt = 1 by omega) with e | e
              · have : j = 0 := Int32.toInt_inj.mp e
                subst this; rfl
              · have : j = 1 := Int32.toInt_inj.mp e
                subst this; rfl
            refine ⟨some (.int j), ?_, hv⟩
            show (bif (j == 0 || j == 1) then _ else _) = _
            rw [e]
            rfl
        · cases h2 : xbt n.1 (.negSucc 127) (.ofNat 127) a.2.1 with
          | false => rw [h2] at h; cases h
          | true =>
            rw [h2] at h
            cases h
            obtain ⟨b1, b2⟩ := xbt_ok hn.1 h2 he
            have b1 : -128 ≤ j.toInt := b1
            have b2 : j.toInt ≤ 127 := b2
            have ea : j.toInt8.toInt32 = j := Int32.toInt_inj.mp ((xi2b_ok j).2.2 b1 b2)
            have e : ((j.toInt8.toInt32 == j) && (decide (-128 ≤ j) && decide (j ≤ 127))) = true := by
              simp only [Bool.and_eq_true, beq_iff_eq, decide_eq_true_eq]
              exact ⟨ea, Int32.le_iff_toInt_le.mpr b1, Int32.le_iff_toInt_le.mpr b2⟩
            refine ⟨some (.int j), ?_, hv⟩
            show (bif ((j.toInt8.toInt32 == j) && (decide (-128 ≤ j) && decide (j ≤ 127))) then _ else _) = _
            rw [e]
            rfl
        · cases h2 : xbt n.1 0 (.ofNat 65535) a.2.1 with
          | false => rw [h2] at h; cases h
          | true =>
            rw [h2] at h
            cases h
            obtain ⟨b1, b2⟩ := xbt_ok hn.1 h2 he
            have b1 : 0 ≤ j.toInt := b1
            have b2 : j.toInt ≤ 65535 := b2
            have e : ((j.toUInt32.toUInt16.toUInt32.toInt32 == j) && (decide (0 ≤ j) && decide (j ≤ 65535))) = true := by
              simp only [Bool.and_eq_true, beq_iff_eq, decide_eq_true_eq]
              exact ⟨xch b1 b2, Int32.le_iff_toInt_le.mpr b1, Int32.le_iff_toInt_le.mpr b2⟩
            refine ⟨some (.int j), ?_, hv⟩
            show (bif ((j.toUInt32.toUInt16.toUInt32.toInt32 == j) && (decide (0 ≤ j) && decide (j ≤ 65535))) then _ else _) = _
            rw [e]
            rfl
        · cases h
    · cases h
  · split at h
    · rename_i a
      obtain ⟨v, s, rfl, hv, hs'⟩ := xsk_cons hs
      rw [xsk_nil hs']
      cases h1 : Nat.beq a.1 1 with
      | false => rw [h1] at h; cases h
      | true =>
        rw [h1] at h
        cases h
        obtain ⟨j, rfl, he⟩ := xc_L hv h1
        exact ⟨some (.long j), rfl, hv⟩
    · cases h
  · split at h
    · rename_i cn a
      obtain ⟨v, s, rfl, hv, hs'⟩ := xsk_cons hs
      rw [xsk_nil hs']
      cases h1 : xir a with
      | false => rw [h1] at h; cases h
      | true =>
        rw [h1] at h
        cases h
        rcases xc_r hv h1 with rfl | ⟨b, rfl⟩ | ⟨j, rfl⟩
        · exact ⟨some .null, rfl, hv⟩
        · exact ⟨some (.ref b), rfl, hv⟩
        · exact ⟨some (.retAddr j), rfl, hv⟩
    · cases h
  · cases h
/-! calls -/
def xis (b : xv) : Bool := match b.1 with
  | 5 => (zm_sb b.2.2).isSome
  | 8 => true
  | _ => false
theorem xis_ok {ρ : List Int} {σ : List Nat} {b : xv} {v : Value} (hb : xc ρ σ b v) (h : xis b = true) : ∃ j, v = .retAddr j ∧ (zm_sb j).isSome = true := by
  obtain ⟨t, e, n⟩ := b
  unfold xis at h
  split at h
  · rename_i h2; have h2 : t = 5 := h2; subst h2; exact ⟨n, hb, h⟩
  · rename_i h2; have h2 : t = 8 := h2; subst h2
    obtain ⟨y, j, -, h3, rfl⟩ := hb
    obtain ⟨l, h4, -⟩ := xsl_ok h3
    exact ⟨j, rfl, by rw [h4]; rfl⟩
  · cases h
def xcall (V : xEnv) (i : Jvm.ClassFile.Instr) (x : zm_X) (D : xD) (st : List xv) : Option (Nat × List xv × List xv) := match i with
  | .invokestatic _ => bif Nat.beq x.2.2.1 0 && (Nat.ble x.2.1 st.length && Nat.ble (xcat (st.drop x.2.1)) 8) then some (x.1, (st.take x.2.1).reverse, st.drop x.2.1) else none
  | .invokevirtual _ => (match st.drop x.2.1 with
    | b :: rest => (match xkd V.2.1 D.2.1 b with
      | some kd => (match V.1 kd with
        | some (.inl d) => bif Nat.beq d.1 x.2.2.1 && Nat.ble (xcat rest) 16 then some (x.1, b :: (st.take x.2.1).reverse, rest) else none
        | _ => none)
      | none => bif (Nat.beq x.2.2.1 41 && xis b) && Nat.ble (xcat rest) 8 then some (x.1, b :: (st.take x.2.1).reverse, rest) else none)
    | _ => none)
  | .invokespecial _ => bif Nat.beq x.2.2.1 1 then none else (match st.drop x.2.1 with
    | b :: rest => (match xkd V.2.1 D.2.1 b with
      | some _ => bif Nat.ble (xcat rest) 8 then some (x.1, b :: (st.take x.2.1).reverse, rest) else none
      | none => none)
    | _ => none)
  | _ => none
section XCA
variable {ρ : List Int} {σ τ : List Nat} {h : zm_H} {V : xEnv} {D : xD}
theorem xsk_len : ∀ {st : List xv} {sc : List Value}, xsk ρ σ st sc → st.length = sc.length
  | [], [], _ => rfl
  | [], _ :: _, h => by cases h
  | _ :: _, [], h => by cases h
  | a :: t, v :: s, h => by simp only [List.length_cons, xsk_len h.2]
theorem xsk_drop : ∀ {n : Nat} {st : List xv} {sc : List Value}, xsk ρ σ st sc → xsk ρ σ (st.drop n) (sc.drop n)
  | 0, _, _, h => h
  | n + 1, [], [], _ => trivial
  | n + 1, [], _ :: _, h => by cases h
  | n + 1, _ :: _, [], h => by cases h
  | n + 1, a :: t, v :: s, h => xsk_drop (n := n) h.2
theorem xsk_take : ∀ {n : Nat} {st : List xv} {sc : List Value}, xsk ρ σ st sc → xsk ρ σ (st.take n) (sc.take n)
  | 0, _, _, _ => by simp only [List.take_zero]; trivial
  | n + 1, [], [], _ => trivial
  | n + 1, [], _ :: _, h => by cases h
  | n + 1, _ :: _, [], h => by cases h
  | n + 1, a :: t, v :: s, h => ⟨h.1, xsk_take (n := n) h.2⟩
theorem xsk_app : ∀ {st st2 : List xv} {sc sc2 : List Value}, xsk ρ σ st sc → xsk ρ σ st2 sc2 → xsk ρ σ (st ++ st2) (sc ++ sc2)
  | [], _, [], _, _, h2 => h2
  | [], _, _ :: _, _, h, _ => by cases h
  | _ :: _, _, [], _, h, _ => by cases h
  | a :: t, _, v :: s, _, h, h2 => ⟨h.1, xsk_app h.2 h2⟩
theorem xsk_rev : ∀ {st : List xv} {sc : List Value}, xsk ρ σ st sc → xsk ρ σ st.reverse sc.reverse
  | [], [], _ => trivial
  | [], _ :: _, h => by cases h
  | _ :: _, [], h => by cases h
  | a :: t, v :: s, h => by
    rw [List.reverse_cons, List.reverse_cons]
    exact xsk_app (xsk_rev h.2) ⟨h.1, trivial⟩
theorem xcall_ok {i : Jvm.ClassFile.Instr} {x : zm_X} {st : List xv} {sc : List Value} {q : Nat × List xv × List xv} (hH : xHI V.1 V.2.1 τ h) (hD : xdok ρ σ τ h D) (hs : xsk ρ σ st sc) (hx : xcall V i x D st = some q) : ∃ ac rc, zm_call i x sc h = some (q.1, ac, rc) ∧ xsk ρ σ q.2.1 ac ∧ xsk ρ σ q.2.2 rc := by
  cases i with
  | invokestatic k =>
    simp only [xcall] at hx
    cases hc : Nat.beq x.2.2.1 0 && (Nat.ble x.2.1 st.length && Nat.ble (xcat (st.drop x.2.1)) 8) with
    | false => rw [hc] at hx; cases hx
    | true =>
      rw [hc] at hx
      cases hx
      have hd := xsk_drop (n := x.2.1) hs
      rw [← xcat_ok hd, xsk_len hs] at hc
      refine ⟨_, _, ?_, xsk_rev (xsk_take hs), hd⟩
      simp only [zm_call, hc, cond_true]
  | invokevirtual k =>
    simp only [xcall] at hx
    have hd := xsk_drop (n := x.2.1) hs
    split at hx
    · rename_i b rest hdr
      rw [hdr] at hd
      obtain ⟨v, rc, hrc, hb, hr⟩ := xsk_cons hd
      split at hx
      · rename_i kd hkd
        obtain ⟨ad, rfl, had, ht⟩ := xkd_ok hH hD.2.1 hb hkd
        split at hx
        · rename_i d hK
          obtain ⟨fs, hh, -, -⟩ := xcf_o hH ht hK
          cases hc : Nat.beq d.1 x.2.2.1 && Nat.ble (xcat rest) 16 with
          | false => rw [hc] at hx; cases hx
          | true =>
            rw [hc] at hx
            cases hx
            rw [← xcat_ok hr] at hc
            refine ⟨.ref ad :: (sc.take x.2.1).reverse, rc, ?_, ⟨hb, xsk_rev (xsk_take hs)⟩, hr⟩
            simp only [zm_call, hrc, hh, hc, cond_true]
        · cases hx
      · cases hc : (Nat.beq x.2.2.1 41 && xis b) && Nat.ble (xcat rest) 8 with
        | false => rw [hc] at hx; cases hx
        | true =>
          rw [hc] at hx
          cases hx
          simp only [Bool.and_eq_true] at hc
          obtain ⟨j, rfl, hj⟩ := xis_ok hb hc.1.2
          have h8 := hc.2
          rw [← xcat_ok hr] at h8
          refine ⟨.retAddr j :: (sc.take x.2.1).reverse, rc, ?_, ⟨hb, xsk_rev (xsk_take hs)⟩, hr⟩
          simp only [zm_call, hrc, hc.1.1, hj, h8, Bool.and_self, cond_true]
    · cases hx
  | invokespecial k =>
    simp only [xcall] at hx
    have hd := xsk_drop (n := x.2.1) hs
    cases h1 : Nat.beq x.2.2.1 1 with
    | true => rw [h1] at hx; cases hx
    | false =>
      rw [h1] at hx
      simp only [cond_false] at hx
      split at hx
      · rename_i b rest hdr
        rw [hdr] at hd
        obtain ⟨v, rc, hrc, hb, hr⟩ := xsk_cons hd
        split at hx
        · rename_i kd hkd
          obtain ⟨ad, rfl, had, ht⟩ := xkd_ok hH hD.2.1 hb hkd
          cases hc : Nat.ble (xcat rest) 8 with
          | false => rw [hc] at hx; cases hx
          | true =>
            rw [hc] at hx
            cases hx
            rw [← xcat_ok hr] at hc
            refine ⟨.ref ad :: (sc.take x.2.1).reverse, rc, ?_, ⟨hb, xsk_rev (xsk_take hs)⟩, hr⟩
            simp only [zm_call, h1, hrc, hc, cond_true, cond_false]
        · cases hx
      · cases hx
  | _ => cases hx
def xargs : Nat → List xv → xLS
  | _, [] => []
  | k, a :: t => (k, a) :: xargs (bif xw2 a then k + 2 else k + 1) t
theorem xargs_ok : ∀ {A : List xv} {C : List Value} {k : Nat}, xsk ρ σ A C → ∀ q ∈ xargs k A, k ≤ q.1 ∧ ∃ v, zm_get (lv_args k C) q.1 = some v ∧ xc ρ σ q.2 v
  | [], [], k, _, q, hq => by cases hq
  | [], _ :: _, _, h, _, _ => by cases h
  | _ :: _, [], _, h, _, _ => by cases h
  | a :: t, v :: s, k, h, q, hq => by
    have hcat := xc_cat h.1
    have e : (if v.category = 2 then k + 2 else k + 1) = bif xw2 a then k + 2 else k + 1 := by
      rw [hcat]
      cases xw2 a <;> rfl
    rcases List.mem_cons.mp hq with rfl | hq
    · refine ⟨Nat.le_refl _, v, ?_, h.1⟩
      show zm_get ((k, v) :: _) k = some v
      rw [zm_get_cons, if_pos rfl]
    · obtain ⟨h1, w, h2, h3⟩ := xargs_ok h.2 q hq
      have hk : k + 1 ≤ q.1 := by
        cases hw : xw2 a with
        | true => rw [hw] at h1; simp only [cond_true] at h1; omega
        | false => rw [hw] at h1; simp only [cond_false] at h1; exact h1
      refine ⟨by omega, w, ?_, h3⟩
      show zm_get ((k, v) :: lv_args (if v.category = 2 then k + 2 else k + 1) s) q.1 = some w
      rw [zm_get_cons, if_neg (by show ¬ k = q.1; omega), e]
      exact h2
theorem xargs_lk {A : List xv} {C : List Value} (h : xsk ρ σ A C) : xlk ρ σ (xargs 0 A) (lv_args 0 C) := fun q hq => (xargs_ok h q hq).2
end XCA
/-! one step -/
def xidn : Nat → xTh
  | 0 => []
  | k + 1 => (k, xsym k) :: xidn k
def xidr : Nat → xPh
  | 0 => []
  | k + 1 => (k, k) :: xidr k
def xido (θ : xTh) : Nat → Bool
  | 0 => true
  | k + 1 => (match xlu θ k with
    | some e => xeq e (xsym k)
    | none => false) && xido θ k
def xidp (φ : xPh) : Nat → Bool
  | 0 => true
  | k + 1 => (match xlr φ k with
    | some m => Nat.beq m k
    | none => false) && xidp φ k
def xsubm (a : List (Nat × Nat)) (b : List (Nat × Nat)) : Bool := a.all (fun q => xms b q.1 q.2)
/-- the end of the method: one of the contract's ends -/
def xfin1 (K : xCx) (o : Option xv) (D : xD) (p : xPo) : Bool :=
  let np := K.2.2.2.1.2.1.2.2.1.2
  let nrp := K.2.2.2.1.2.1.2.2.2.1.length
  let D1 := xprel K.1 p.2.2.2.1 D
  let T : xT := ([], p.1.toList, p.2)
  let q := xbind (xidn np, xidr nrp) [] o.toList D1 T
  xinst q.1 q.2 [] o.toList D1 T && (xido q.1 np && xidp q.2 nrp)
def xfin (K : xCx) (o : Option xv) (D : xD) : Bool := Nat.ble D.2.2.2.2 K.2.2.2.1.2.2.2.2.1 && K.2.2.2.1.2.2.1.any (xfin1 K o D)
/-- a state at a loop's head that is an instance of a template, and goes down -/
def xent1 (K : xCx) (s : xS) (E : xEn) : Bool :=
  let np := K.2.2.2.1.2.1.2.2.1.2
  let nrp := K.2.2.2.1.2.1.2.2.2.1.length
  bif Nat.beq E.1 s.2.1 then (let D1 := xprel K.1 E.2.1.2.2.2.2.1 s.2.2.2.2.1
    let q := xbind (xidn np, xidr nrp) s.2.2.1 s.2.2.2.1 D1 E.2.1
    xinst q.1 q.2 s.2.2.1 s.2.2.2.1 D1 E.2.1 && ((xido q.1 np && xidp q.2 nrp) && (Nat.ble s.2.2.2.2.1.2.2.2.2 E.2.1.2.2.2.2.2.2 && (match xsub q.1 E.2.2 with
      | some e => xpv D1.1.1.1 D1.1.1.2 8 e && (match K.2.2.2.2.2 with
        | some R => xpv D1.1.1.1 D1.1.1.2 8 (xm1 (xadd (.negSucc 0) R e))
        | none => true)
      | none => false)))) else false
def xent (K : xCx) (s : xS) : Bool := match s.2.2.2.2.2 with
  | [] => Nat.beq s.1 K.2.2.2.1.1 && K.2.2.2.2.1.any (xent1 K s)
  | _ => false
/-- the call by a contract -/
def xby (K : xCx) (s : xS) (q : Nat) (args rest : List xv) : List xCo → Option (Option (List xS))
  | [] => none
  | c :: t => bif Nat.beq c.1 q then (let D1 := xprel K.1 c.2.1.2.2.2.2.1 s.2.2.2.2.1
      let b := xbind ([], []) (xargs 0 args) [] D1 c.2.1
      bif xinst b.1 b.2 (xargs 0 args) [] D1 (c.2.1.1, [], c.2.1.2.2) && (Nat.ble (c.2.2.2.2.2 + 1 + s.2.2.2.2.2.length) K.2.2.2.1.2.2.2.2.2 && xsubm c.2.2.2.1 K.2.2.2.1.2.2.2.1) then some (match xposts K.1 c b.1 b.2 D1 c.2.2.1 with
        | some l => some (l.map (fun z => (s.1, s.2.1 + 3, s.2.2.1, z.2.toList ++ rest, z.1, s.2.2.2.2.2)))
        | none => none) else xby K s q args rest t) else xby K s q args rest t
def xgo (K : xCx) (s : xS) (q : Nat) (args rest : List xv) : Option (List xS) := match xmt K.2.1 q with
  | none => none
  | some mc => bif Nat.ble (xcat args) mc.1.2.2.1 then (match xby K s q args rest K.2.2.1 with
    | some o => o
    | none => bif Nat.blt s.2.2.2.2.2.length K.2.2.2.1.2.2.2.2.2 then some [(q, 0, xargs 0 args, [], s.2.2.2.2.1, (s.1, s.2.1 + 3, s.2.2.1, rest) :: s.2.2.2.2.2)] else none) else none
def xstep (K : xCx) (s : xS) : Option (List xS) := match xmt K.2.1 s.1 with
  | none => none
  | some mr => match zm_at mr.2 s.2.1 with
    | none => none
    | some i => match xp i.1 i.2.2 s.2.2.2.2.1.1 s.2.2.1 s.2.2.2.1 with
      | some q => some [(s.1, s.2.1 + i.2.1, q.2.1, q.2.2, (q.1, s.2.2.2.2.1.2), s.2.2.2.2.2)]
      | none => match xb i.1 i.2.2 s.2.1 s.2.2.2.2.1.1 s.2.2.2.1 with
        | some l => some (l.map (fun b => (s.1, b.2.1, s.2.2.1, b.2.2, (b.1, s.2.2.2.2.1.2), s.2.2.2.2.2)))
        | none => match xh K.1 (xms K.2.2.2.1.2.2.2.1) s.1 s.2.1 i.1 i.2.2 s.2.2.2.2.1 s.2.2.2.1 with
          | some l => some (l.map (fun z => (s.1, s.2.1 + i.2.1, s.2.2.1, z.2, z.1, s.2.2.2.2.2)))
          | none => match xretv mr.1.2.2.2 i.1 s.2.2.2.2.1.1.1 s.2.2.2.1 with
            | some o => (match s.2.2.2.2.2 with
              | [] => bif xfin K o s.2.2.2.2.1 then some [] else none
              | f :: fr => some [(f.1, f.2.1, f.2.2.1, o.toList ++ f.2.2.2, s.2.2.2.2.1, fr)])
            | none => match xcall K.1 i.1 i.2.2 s.2.2.2.2.1 s.2.2.2.1 with
              | none => none
              | some q => xgo K s q.1 q.2.1 q.2.2
def xpsh (K : xCx) : List xS → List xS → List xS
  | [], r => r
  | t :: l, r => bif xent K t then xpsh K l r else t :: xpsh K l r
def xwl (K : xCx) : Nat → List xS → Bool
  | 0, _ => false
  | _ + 1, [] => true
  | n + 1, s :: r => match xstep K s with
    | none => false
    | some l => xwl K n (xpsh K l r)
def xst0 (c : xCo) : xS := (c.1, 0, c.2.1.1, [], (c.2.1.2.2.1, c.2.1.2.2.2.1, c.2.1.2.2.2.2.1, c.2.1.2.2.2.2.2.1, 0), [])
def xst1 (c : xCo) (E : xEn) : xS := (c.1, E.1, E.2.1.1, E.2.1.2.1, E.2.1.2.2, [])
def xchk0 (V : xEnv) (MT : List (Nat × zm_M)) (CT : List xCo) (c : xCo) (E : List xEn) (n : Nat) : Bool := xwl (V, MT, CT, c, E, none) n [xst0 c]
def xchk1 (V : xEnv) (MT : List (Nat × zm_M)) (CT : List xCo) (c : xCo) (E : List xEn) (n : Nat) (e : xEn) : Bool := xwl (V, MT, CT, c, E, some e.2.2) n [xst1 c e]
