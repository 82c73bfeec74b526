/-! Eighth part: what is read of the heap -/
abbrev xFl : Type := xD → xv → Nat → xl → xA → Option xA
abbrev xEnv : Type := (Nat → Option xKD) × (Nat → Bool) × (Nat → Nat → Bool) × xFl × (Nat → Nat → Option Nat) × (Nat → Nat → Bool)
abbrev xHS : Type := xD × List xv
def xlkf : xM → xv → Nat → Option xv
  | [], _, _ => none
  | q :: t, b, f => bif Nat.beq q.2.1 f && (Nat.beq q.1.1 b.1 && Nat.beq q.1.2.2 b.2.2) then some q.2.2 else xlkf t b f
def xlka : xMA → xv → xl → Option xv
  | [], _, _ => none
  | q :: t, b, e => bif (Nat.beq q.1.1 b.1 && Nat.beq q.1.2.2 b.2.2) && xeq q.2.1 e then some q.2.2 else xlka t b e
def xlkb : xMA → xv → Option (xl × xv)
  | [], _ => none
  | q :: t, b => bif Nat.beq q.1.1 b.1 && Nat.beq q.1.2.2 b.2.2 then some (q.2.1, q.2.2) else xlkb t b
theorem xad_same {σ : List Nat} {b c : xv} {ad : Nat} (h1 : Nat.beq b.1 c.1 = true) (h2 : Nat.beq b.2.2 c.2.2 = true) (h : xad σ b = some ad) : xad σ c = some ad := by
  obtain ⟨t, e, n⟩ := b
  obtain ⟨t', e', n'⟩ := c
  have e1 : t = t' := Nat.eq_of_beq_eq_true h1
  have e2 : n = n' := Nat.eq_of_beq_eq_true h2
  subst e1
  subst e2
  exact h
section XLO
variable {ρ : List Int} {σ τ : List Nat} {h : zm_H}
theorem xlkf_ok {b : xv} {f ad : Nat} {v : xv} (hb : xad σ b = some ad) : ∀ {m : xM}, xmo ρ σ h m → xlkf m b f = some v → ∃ w, xfd h ad f = some w ∧ xc ρ σ v w
  | [], _, hl => by cases hl
  | q :: t, hm, hl => by
    simp only [xlkf] at hl
    cases hc : Nat.beq q.2.1 f && (Nat.beq q.1.1 b.1 && Nat.beq q.1.2.2 b.2.2) with
    | false => rw [hc] at hl; exact xlkf_ok hb (fun q hq => hm q (List.mem_cons_of_mem _ hq)) hl
    | true =>
      rw [hc] at hl
      cases hl
      simp only [Bool.and_eq_true] at hc
      obtain ⟨ad', w, h1, h2, h3⟩ := hm q List.mem_cons_self
      have h4 := xad_same hc.2.1 hc.2.2 h1
      rw [hb] at h4
      cases h4
      rw [Nat.eq_of_beq_eq_true hc.1] at h2
      exact ⟨w, h2, h3⟩
theorem xlka_ok {b : xv} {e : xl} {ad : Nat} {v : xv} (hb : xad σ b = some ad) : ∀ {m : xMA}, xmao ρ σ h m → xlka m b e = some v → ∃ (j : Nat) (w : Value), xe ρ e = some (j : Int) ∧ xar h ad j = some w ∧ xc ρ σ v w
  | [], _, hl => by cases hl
  | q :: t, hm, hl => by
    simp only [xlka] at hl
    cases hc : (Nat.beq q.1.1 b.1 && Nat.beq q.1.2.2 b.2.2) && xeq q.2.1 e with
    | false => rw [hc] at hl; exact xlka_ok hb (fun q hq => hm q (List.mem_cons_of_mem _ hq)) hl
    | true =>
      rw [hc] at hl
      cases hl
      simp only [Bool.and_eq_true] at hc
      obtain ⟨ad', j, w, h1, h2, h3, h4⟩ := hm q List.mem_cons_self
      have h5 := xad_same hc.1.1 hc.1.2 h1
      rw [hb] at h5
      cases h5
      rw [of_decide_eq_true hc.2] at h2
      exact ⟨j, w, h2, h3, h4⟩
theorem xlkb_ok {b : xv} {ad : Nat} {q : xl × xv} (hb : xad σ b = some ad) : ∀ {m : xMA}, xmao ρ σ h m → xlkb m b = some q → ∃ (j : Nat) (w : Value), xe ρ q.1 = some (j : Int) ∧ xar h ad j = some w ∧ xc ρ σ q.2 w
  | [], _, hl => by cases hl
  | p :: t, hm, hl => by
    simp only [xlkb] at hl
    cases hc : Nat.beq p.1.1 b.1 && Nat.beq p.1.2.2 b.2.2 with
    | false => rw [hc] at hl; exact xlkb_ok hb (fun q hq => hm q (List.mem_cons_of_mem _ hq)) hl
    | true =>
      rw [hc] at hl
      cases hl
      simp only [Bool.and_eq_true] at hc
      obtain ⟨ad', j, w, h1, h2, h3, h4⟩ := hm p List.mem_cons_self
      have h5 := xad_same hc.1 hc.2 h1
      rw [hb] at h5
      cases h5
      exact ⟨j, w, h2, h3, h4⟩
/-- all alternatives of a field -/
def xforks (C : xC) (rk : List Nat) (k : xC × List Nat × xv → xHS) : List xA → Option (List xHS)
  | [] => some []
  | a :: t => match xforks C rk k t, xfa C rk a with
    | some l, some q => some (k q :: l)
    | _, _ => none
theorem xforks_ok {C : xC} {rk : List Nat} {k : xC × List Nat × xv → xHS} {a : xA} : ∀ {sp : List xA} {l : List xHS}, xforks C rk k sp = some l → a ∈ sp → ∃ q, xfa C rk a = some q ∧ k q ∈ l
  | [], l, _, ha => by cases ha
  | b :: t, l, hf, ha => by
    simp only [xforks] at hf
    split at hf
    · rename_i l' q hl hq
      cases hf
      rcases List.mem_cons.mp ha with rfl | ha
      · exact ⟨q, hq, List.mem_cons_self⟩
      · obtain ⟨q', h1, h2⟩ := xforks_ok hl ha
        exact ⟨q', h1, List.mem_cons_of_mem _ h2⟩
    · cases hf
def xres (md : Nat) (e : xl) : Option Nat := bif e.2.all (fun q => decide (q.2 % (md : Int) = 0)) then some (e.1 % (md : Int)).toNat else none
theorem xres_t {md : Nat} : ∀ {l : List (Nat × Int)} {y : Int}, xt ρ l = some y → l.all (fun q => decide (q.2 % (md : Int) = 0)) = true → y % (md : Int) = 0
  | [], y, ht, _ => by simp only [xt] at ht; cases ht; exact Int.zero_emod _
  | q :: t, y, ht, ha => by
    obtain ⟨x', y', hx, hy, rfl⟩ := xt_cons.mp ht
    simp only [List.all_cons, Bool.and_eq_true, decide_eq_true_eq] at ha
    have h1 := xres_t hy ha.2
    rw [Int.add_emod, h1, Int.mul_emod, ha.1]
    simp
theorem xres_ok {md r j : Nat} {e : xl} (he : xe ρ e = some (j : Int)) (h0 : 0 < md) (hr : xres md e = some r) : j % md = r := by
  unfold xres at hr
  cases ha : e.2.all (fun q => decide (q.2 % (md : Int) = 0)) with
  | false => rw [ha] at hr; cases hr
  | true =>
    rw [ha] at hr
    simp only [cond_true, Option.some.injEq] at hr
    rw [xe_iff] at he
    have h1 := xres_t he ha
    have h2 : (j : Int) % (md : Int) = e.1 % (md : Int) := by
      have e1 : (j : Int) = e.1 + ((j : Int) - e.1) := by omega
      rw [e1, Int.add_emod, h1]
      simp
    have h3 := Int.emod_nonneg e.1 (b := (md : Int)) (by omega)
    omega
/-- the residue rules the alternative out -/
def xrno (q : xJ) (e : xl) : Bool := match q.2.2.2.1 with
  | 0 => false
  | m + 1 => match xres (m + 1) e with
    | some r => !(Nat.beq r q.2.2.2.2)
    | none => false
theorem xrno_ok {q : xJ} {e : xl} {j : Nat} (he : xe ρ e = some (j : Int)) (hq : xjok q j) : xrno q e = false := by
  unfold xrno
  split
  · rfl
  · rename_i m hm
    split
    · rename_i r hr
      have h1 := xres_ok he (by omega) hr
      have h2 := hq.2.2
      rw [hm] at h2
      rcases h2 with h2 | h2
      · omega
      · rw [← h1, ← h2, Nat.beq_refl]
        rfl
    · rfl
/-- all alternatives of an array's place -/
def xjf (F : xA → Option xA) (C : xC) (rk : List Nat) (e : xl) (k : xC × List Nat × xv → xHS) : List xJ → Option (List xHS)
  | [] => some []
  | q :: t => match xjf F C rk e k t with
    | none => none
    | some l => bif xrno q e then some l else match xas C.1 (xpl (-q.2.1) e) with
      | none => some l
      | some n1 => match xas n1 (xpl q.2.2.1 (xng e)) with
        | none => some l
        | some n2 => match F q.1 with
          | none => some l
          | some a => match xfa (n2, C.2) rk a with
            | none => none
            | some w => some (k w :: l)
theorem xjf_ok {F : xA → Option xA} {C : xC} {rk : List Nat} {e : xl} {k : xC × List Nat × xv → xHS} {j : Nat} {q : xJ} {a : xA} (hC : xCok ρ C) (he : xe ρ e = some (j : Int)) (hj : xjok q j) (hF : F q.1 = some a) : ∀ {js : List xJ} {l : List xHS}, xjf F C rk e k js = some l → q ∈ js → ∃ C' w, xCok ρ C' ∧ xfa C' rk a = some w ∧ k w ∈ l
  | [], l, _, ha => by cases ha
  | p :: t, l, hf, ha => by
    simp only [xjf] at hf
    split at hf
    · cases hf
    · rename_i l' hl
      have hmem : ∀ {l2 : List xHS}, (∀ z, z ∈ l' → z ∈ l2) → q ∈ t → ∃ C' w, xCok ρ C' ∧ xfa C' rk a = some w ∧ k w ∈ l2 := by
        intro l2 hs hq
        obtain ⟨C', w, h1, h2, h3⟩ := xjf_ok hC he hj hF hl hq
        exact ⟨C', w, h1, h2, hs _ h3⟩
      rcases List.mem_cons.mp ha with rfl | ha
      · rw [xrno_ok he hj] at hf
        simp only [cond_false] at hf
        obtain ⟨n1, h1, h2⟩ := xas_ok hC.1 (xe_pl (-q.2.1) he) (by have := hj.1; omega)
        rw [h1] at hf
        obtain ⟨n2, h3, h4⟩ := xas_ok h2 (xe_pl q.2.2.1 (xe_ng he)) (by have := hj.2.1; omega)
        simp only [h3, hF] at hf
        split at hf
        · cases hf
        · rename_i w hw
          cases hf
          exact ⟨(n2, C.2), w, ⟨h4, hC.2⟩, hw, List.mem_cons_self⟩
      · cases hr : xrno p e with
        | true => rw [hr] at hf; cases hf; exact hmem (fun z hz => hz) ha
        | false =>
          rw [hr] at hf
          simp only [cond_false] at hf
          split at hf
          · cases hf; exact hmem (fun z hz => hz) ha
          · split at hf
            · cases hf; exact hmem (fun z hz => hz) ha
            · split at hf
              · cases hf; exact hmem (fun z hz => hz) ha
              · split at hf
                · cases hf
                · cases hf; exact hmem (fun z hz => List.mem_cons_of_mem _ hz) ha
end XLO
/-! the instructions that read -/
def xwC (D : xD) (C : xC) : xD := (C, D.2)
/-- below 17, or not -/
def xw17 (C : xC) (e : xl) (f g : xC → xHS) : List xHS := (match xas C.1 (xpl 16 (xng e)) with
  | some n => [f (n, C.2)]
  | none => []) ++ (match xas C.1 (xpl (.negSucc 16) e) with
  | some n => [g (n, C.2)]
  | none => [])
/-- a field of an old thing -/
def xgw (x : zm_X) (D : xD) (b : xv) (t : List xv) : Option (List xHS) := match b.1 with
  | 5 => (match zm_of x.1 b.2.2 x.2.1 with
    | some (.int i) => some [(D, xi (xk i.toInt) :: t)]
    | some (.retAddr k) => some [(D, (5, xk 0, k) :: t)]
    | _ => none)
  | 7 => bif Nat.beq x.1 40 then (match x.2.1 with
    | 0 => (let q := xfr D.1 2 10; some [(xwC D q.1, (8, q.2, 0) :: t)])
    | 1 => some (xw17 D.1 b.2.1 (fun C => (xwC D C, xi b.2.1 :: t)) (fun C => (xwC D C, xi (xk (.negSucc 0)) :: t)))
    | 2 => some (xw17 D.1 b.2.1 (fun C => let q := xfr C 0 1; (xwC D q.1, xi q.2 :: t)) (fun C => (xwC D C, xi (xk 0) :: t)))
    | 3 => some (xw17 D.1 b.2.1 (fun C => let q := xfr C 0 1; (xwC D q.1, xi q.2 :: t)) (fun C => (xwC D C, xi (xk 0) :: t)))
    | _ => none) else none
  | _ => none
def xaw (D : xD) (b : xv) (t : List xv) : Option (List xHS) := match b.1 with
  | 5 => (match zm_ba b.2.2 with
    | some (.inl q) => bif Nat.ble q.2.1 60000 then some [(D, xi (xk (.ofNat q.2.1)) :: t)] else none
    | _ => none)
  | _ => none
def xao (i : Jvm.ClassFile.Instr) (D : xD) (a b : xv) (t : List xv) : Option (List xHS) := match b.1 with
  | 5 => (match i with
    | .aaload => bif Nat.beq b.2.2 1 && (xpv D.1.1.1 D.1.1.2 8 a.2.1 && xpv D.1.1.1 D.1.1.2 8 (xpl 35 (xng a.2.1))) then some [(D, (7, a.2.1, 0) :: t)] else none
    | .baload => bif Nat.ble 100 b.2.2 then (match zm_sb (b.2.2 - 100) with
      | some l => bif xpv D.1.1.1 D.1.1.2 8 a.2.1 && xpv D.1.1.1 D.1.1.2 8 (xpl (.ofNat l.length) (xm1 (xng a.2.1))) then (match a.2.1.2 with
        | [] => some [(D, xi (xk (l.getD a.2.1.1.toNat 0).toInt) :: t)]
        | _ => (let q := xfr D.1 0 127; some [(xwC D q.1, xi q.2 :: t)])) else none
      | none => none) else none
    | _ => none)
  | _ => none
def xgf (V : xEnv) (x : zm_X) (D : xD) (st : List xv) : Option (List xHS) := match st with
  | b :: t => (match xkd V.2.1 D.2.1 b with
    | some kd => (match V.1 kd with
      | some (.inl d) => bif Nat.beq d.1 x.1 then (match xlkf D.2.2.1 b x.2.1 with
        | some v => some [(D, v :: t)]
        | none => (match d.2[x.2.1]? with
          | some sp => xforks D.1 D.2.1 (fun q => ((q.1, q.2.1, (b, x.2.1, q.2.2) :: D.2.2.1, D.2.2.2), q.2.2 :: t)) sp
          | none => none)) else none
      | _ => none)
    | none => xgw x D b t)
  | _ => none
def xalen (V : xEnv) (D : xD) (st : List xv) : Option (List xHS) := match st with
  | b :: t => (match xkd V.2.1 D.2.1 b with
    | some kd => (match V.1 kd with
      | some (.inr d) => bif Nat.ble d.2.1 60000 then some [(D, xi (xk (.ofNat d.2.1)) :: t)] else none
      | _ => none)
    | none => xaw D b t)
  | _ => none
def xald (V : xEnv) (kd : Nat) (js : List xJ) (b : xv) (e : xl) (t : List xv) (D : xD) (C : xC) : Option (List xHS) := xjf (V.2.2.2.1 D b kd e) C D.2.1 e (fun q => ((q.1, q.2.1, D.2.2.1, (b, e, q.2.2) :: D.2.2.2.1, D.2.2.2.2), q.2.2 :: t)) js
def xapp3 (a b c : Option (List xHS)) : Option (List xHS) := match a, b, c with
  | some x, some y, some z => some (x ++ (y ++ z))
  | _, _, _ => none
def xopt (o : Option xN) (f : xN → Option (List xHS)) : Option (List xHS) := match o with
  | some n => f n
  | none => some []
def xal (V : xEnv) (mi pc : Nat) (i : Jvm.ClassFile.Instr) (D : xD) (st : List xv) : Option (List xHS) := match st with
  | a :: b :: t => bif Nat.beq a.1 0 then (match xkd V.2.1 D.2.1 b with
    | some kd => (match V.1 kd with
      | some (.inr d) => bif zm_lds i d.1 && (xpv D.1.1.1 D.1.1.2 8 a.2.1 && xpv D.1.1.1 D.1.1.2 8 (xpl (.ofNat d.2.1) (xm1 (xng a.2.1)))) then (match xlka D.2.2.2.1 b a.2.1 with
        | some v => some [(D, v :: t)]
        | none => bif V.2.2.2.2.2 mi pc then (match xlkb D.2.2.2.1 b with
          | some p => xapp3 (match xas D.1.1 (xadd (.negSucc 0) a.2.1 p.1) with
              | some n1 => xopt (xas n1 (xng (xadd (.negSucc 0) a.2.1 p.1))) (fun n2 => some [(xwC D (n2, D.1.2), p.2 :: t)])
              | none => some [])
            (xopt (xas D.1.1 (xm1 (xadd (.negSucc 0) a.2.1 p.1))) (fun n => xald V kd d.2.2 b a.2.1 t D (n, D.1.2)))
            (xopt (xas D.1.1 (xm1 (xng (xadd (.negSucc 0) a.2.1 p.1)))) (fun n => xald V kd d.2.2 b a.2.1 t D (n, D.1.2)))
          | none => xald V kd d.2.2 b a.2.1 t D D.1) else xald V kd d.2.2 b a.2.1 t D D.1) else none
      | _ => none)
    | none => xao i D a b t) else none
  | _ => none
