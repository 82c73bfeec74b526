/-! Tenth part: stores into arrays, new arrays, Math -/
def xjin (n : xN) (e : xl) (q : xJ) : Bool := xpv n.1 n.2 8 (xpl (-q.2.1) e) && (xpv n.1 n.2 8 (xpl q.2.2.1 (xng e)) && (match q.2.2.2.1 with
  | 0 => true
  | m + 1 => (match xres (m + 1) e with
    | some r => Nat.beq r q.2.2.2.2
    | none => false)))
theorem xjin_ok {ρ : List Int} {n : xN} {e : xl} {q : xJ} {j : Nat} (hn : xnok ρ n) (he : xe ρ e = some (j : Int)) (h : xjin n e q = true) : xjok q j := by
  unfold xjin at h
  simp only [Bool.and_eq_true] at h
  have h1 := xpv_ok hn.1 hn.2 8 (xe_pl (-q.2.1) he) h.1
  have h2 := xpv_ok hn.1 hn.2 8 (xe_pl q.2.2.1 (xe_ng he)) h.2.1
  refine ⟨by omega, by omega, ?_⟩
  have h3 := h.2.2
  split at h3
  · rename_i hm; exact Or.inl hm
  · rename_i m hm
    split at h3
    · rename_i r hr
      right
      rw [hm]
      have := xres_ok he (by omega) hr
      rw [this]
      exact Nat.eq_of_beq_eq_true h3
    · cases h3
/-- which arrays an instruction writes to, and that the value isn't cut -/
def xfit (i : Jvm.ClassFile.Instr) (t : Nat) (n : xN) (v : xv) : Bool := match i with
  | .iastore => Nat.beq t 0 && Nat.beq v.1 0
  | .lastore => Nat.beq t 1 && Nat.beq v.1 1
  | .bastore => Nat.beq v.1 0 && (bif Nat.beq t 2 then xbt n.1 (.negSucc 127) (.ofNat 127) v.2.1 else Nat.beq t 3 && xbt n.1 0 1 v.2.1)
  | _ => false
def xast (V : xEnv) (MS : Nat → Nat → Bool) (i : Jvm.ClassFile.Instr) (D : xD) (st : List xv) : Option (List xHS) := match st with
  | v :: a :: b :: t => bif Nat.beq a.1 0 then (match xkd V.2.1 D.2.1 b with
    | some kd => (match V.1 kd with
      | some (.inr d) => bif (!(V.2.2.1 kd 0) && MS kd 0) && (xfit i d.1 D.1.1 v && ((xpv D.1.1.1 D.1.1.2 8 a.2.1 && xpv D.1.1.1 D.1.1.2 8 (xpl (.ofNat d.2.1) (xm1 (xng a.2.1)))) && d.2.2.any (fun q => xcon D.1.1 D.2.1 v q.1 && xjin D.1.1 a.2.1 q))) then some [((D.1, D.2.1, D.2.2.1, (b, a.2.1, v) :: xkila V D.2.1 kd D.2.2.2.1, D.2.2.2.2), t)] else none
      | _ => none)
    | none => none) else none
  | _ => none
/-- an array with another value at a place -/
def xkup (k : zm_K) (j : Nat) (v : Value) (k' : zm_K) : Prop := ∀ i : Nat, zm_kv k' i = if i = j then v else zm_kv k i
section XST
variable {ρ : List Int} {σ τ : List Nat} {h : zm_H} {V : xEnv} {X : List Nat → zm_H → Prop} {W : zm_H → Nat} {MS : Nat → Nat → Bool} {D : xD} {st : List xv} {sc : List Value} {l : List xHS} {df : Nat → List Value} {og : Nat → Option zm_C}
theorem xast_1 {i : Jvm.ClassFile.Instr} {x : zm_X} {n : xN} {v : xv} {w : Value} {j : Int32} {ad t m : Nat} {k : zm_K} {s : List Value} (hn : xnok ρ n) (hv : xc ρ σ v w) (hf : xfit i t n v = true) (hh : h[ad]? = some (.inl (t, m, k))) (hk : xka t k) (hin : zm_in j m = true) : ∃ k', zm_hp df og i x (w :: .int j :: .ref ad :: s) h = some (s, h.set ad (.inl (t, m, k'))) ∧ xka t k' ∧ xkup k j.toNatClampNeg w k' := by
  unfold xfit at hf
  split at hf
  · simp only [Bool.and_eq_true] at hf
    have ht : t = 0 := Nat.eq_of_beq_eq_true hf.1
    subst ht
    obtain ⟨a, rfl, -⟩ := xc_i hv hf.2
    obtain ⟨f, rfl⟩ := hk
    refine ⟨.inl (upd f j.toNatClampNeg a), ?_, ⟨_, rfl⟩, fun i => ?_⟩
    · simp only [zm_hp, zm_iast, hh, hin, Nat.beq_refl, Bool.and_self, cond_true]
    · show Value.int (if i = _ then a else f i) = if i = _ then _ else Value.int (f i)
      by_cases e : i = j.toNatClampNeg
      · rw [if_pos e, if_pos e]
      · rw [if_neg e, if_neg e]
  · simp only [Bool.and_eq_true] at hf
    have ht : t = 1 := Nat.eq_of_beq_eq_true hf.1
    subst ht
    obtain ⟨a, rfl, -⟩ := xc_L hv hf.2
    obtain ⟨f, rfl⟩ := hk
    refine ⟨.inr (.inl (vp_updL f j.toNatClampNeg a)), ?_, ⟨_, rfl⟩, fun i => ?_⟩
    · simp only [zm_hp, zm_last, hh, hin, Nat.beq_refl, Bool.and_self, cond_true]
    · show Value.long (if i = _ then a else f i) = if i = _ then _ else Value.long (f i)
      by_cases e : i = j.toNatClampNeg
      · rw [if_pos e, if_pos e]
      · rw [if_neg e, if_neg e]
  · simp only [Bool.and_eq_true] at hf
    obtain ⟨a, rfl, he⟩ := xc_i hv hf.1
    cases h2 : Nat.beq t 2 with
    | true =>
      have ht : t = 2 := Nat.eq_of_beq_eq_true h2
      subst ht
      obtain ⟨f, rfl⟩ := hk
      have hr : xbt n.1 (.negSucc 127) (.ofNat 127) v.2.1 = true := hf.2
      obtain ⟨b1, b2⟩ := xbt_ok hn.1 hr he
      have ea : a.toInt8.toInt32 = a := Int32.toInt_inj.mp ((xi2b_ok a).2.2 b1 b2)
      refine ⟨.inl (upd f j.toNatClampNeg a), ?_, ⟨_, rfl⟩, fun i => ?_⟩
      · simp only [zm_hp, zm_bast, hh, hin, Nat.beq_refl, cond_true, ea]
      · show Value.int (if i = _ then a else f i) = if i = _ then _ else Value.int (f i)
        by_cases e : i = j.toNatClampNeg
        · rw [if_pos e, if_pos e]
        · rw [if_neg e, if_neg e]
    | false =>
      have hr : (Nat.beq t 3 && xbt n.1 0 1 v.2.1) = true := by
        have := hf.2
        rw [h2] at this
        exact this
      simp only [Bool.and_eq_true] at hr
      have ht : t = 3 := Nat.eq_of_beq_eq_true hr.1
      subst ht
      obtain ⟨f, rfl⟩ := hk
      obtain ⟨b1, b2⟩ := xbt_ok hn.1 hr.2 he
      have ea : a &&& 1 = a := by
        rcases (show a.toInt = 0 ∨ a.toInt = 1 by omega) with e | e
        · have : a = 0 := Int32.toInt_inj.mp e
          subst this; rfl
        · have : a = 1 := Int32.toInt_inj.mp e
          subst this; rfl
      refine ⟨.inl (upd f j.toNatClampNeg a), ?_, ⟨_, rfl⟩, fun i => ?_⟩
      · simp only [zm_hp, zm_bast, hh, hin, h2, Nat.beq_refl, cond_true, cond_false, ea]
      · show Value.int (if i = _ then a else f i) = if i = _ then _ else Value.int (f i)
        by_cases e : i = j.toNatClampNeg
        · rw [if_pos e, if_pos e]
        · rw [if_neg e, if_neg e]
  · cases hf
theorem xast_ok {x : zm_X} {i : Jvm.ClassFile.Instr} (hX2 : xXW V X W) (hH : xHI V.1 V.2.1 τ h) (hX : X τ h) (hD : xdok ρ σ τ h D) (hs : xsk ρ σ st sc) (hx : xast V MS i D st = some l) : xWR V X W MS ρ σ τ h D.2.2.2.2 l (zm_hp df og i x sc h) := by
  unfold xast at hx
  split at hx
  · rename_i v a b t
    obtain ⟨wv, s1, rfl, hv, hs1⟩ := xsk_cons hs
    obtain ⟨wa, s2, rfl, ha, hs2⟩ := xsk_cons hs1
    obtain ⟨wb, s, rfl, hb, hs'⟩ := xsk_cons hs2
    cases ht0 : Nat.beq a.1 0 with
    | false => rw [ht0] at hx; cases hx
    | true =>
      rw [ht0] at hx
      simp only [cond_true] at hx
      obtain ⟨j, rfl, he⟩ := xc_i ha ht0
      split at hx
      · rename_i kd hkd
        obtain ⟨ad, rfl, had, ht⟩ := xkd_ok hH hD.2.1 hb hkd
        split at hx
        · rename_i d hK
          obtain ⟨k, hh, hka, hel⟩ := xcf_a hH ht hK
          cases hc : (!(V.2.2.1 kd 0) && MS kd 0) && (xfit i d.1 D.1.1 v && ((xpv D.1.1.1 D.1.1.2 8 a.2.1 && xpv D.1.1.1 D.1.1.2 8 (xpl (.ofNat d.2.1) (xm1 (xng a.2.1)))) && d.2.2.any (fun q => xcon D.1.1 D.2.1 v q.1 && xjin D.1.1 a.2.1 q))) with
          | false => rw [hc] at hx; cases hx
          | true =>
            rw [hc] at hx
            cases hx
            rw [Bool.and_eq_true, Bool.and_eq_true, Bool.and_eq_true, Bool.and_eq_true, Bool.and_eq_true, Bool.not_eq_true'] at hc
            obtain ⟨⟨hpr, hms⟩, hfit, ⟨hi1, hi2⟩, hany⟩ := hc
            have hn := hD.1.1
            have h0 := xpv_ok hn.1 hn.2 8 he hi1
            have h1 := xpv_ok hn.1 hn.2 8 (xe_pl (.ofNat d.2.1) (xe_m1 (xe_ng he))) hi2
            have h1 : 0 ≤ -j.toInt - 1 + (d.2.1 : Int) := h1
            obtain ⟨hin, hjn, hjlt⟩ := xin_ok (n := d.2.1) h0 (by omega)
            have hje : xe ρ a.2.1 = some ((j.toNatClampNeg : Nat) : Int) := by rw [hjn]; exact he
            obtain ⟨q, hq, hqc⟩ := List.any_eq_true.mp hany
            simp only [Bool.and_eq_true] at hqc
            have hsat := xcon_ok hn hD.2.1 hv hqc.1
            have hjok := xjin_ok hn hje hqc.2
            obtain ⟨k', hz, hka', hup⟩ := xast_1 (df := df) (og := og) (x := x) (s := s) hn hv hfit hh hka hin
            obtain ⟨hX', hW⟩ := hX2.2.1 τ h ad kd d.1 d.2.1 k k' hX ht hpr hh
            refine ⟨s, _, τ, hz, xHI_set hH hh ht hK ⟨k', rfl, hka', fun i hi => ?_⟩, hX', ⟨⟨[], (List.append_nil τ).symm⟩, fun b kb f w hb2 hm hw => ?_, fun b kb c hb2 hm hw => ?_⟩, _, List.mem_singleton.mpr rfl, [], [], ?_, ?_, ?_⟩
            · rw [hup]
              by_cases e : i = j.toNatClampNeg
              · rw [if_pos e]
                subst e
                exact ⟨q, hq, hsat, hjok⟩
              · rw [if_neg e]
                exact hel i hi
            · unfold xfd at hw ⊢
              rw [xgs hh]
              by_cases e : ad = b
              · subst e
                rw [hh] at hw
                cases hw
              · rw [if_neg e]
                exact hw
            · rw [xgs hh]
              by_cases e : ad = b
              · subst e
                rw [ht] at hb2
                cases hb2
                rw [hms] at hm
                cases hm
              · rw [if_neg e]
                exact hw
            · rw [List.append_nil, List.append_nil]
              refine ⟨hD.1, hD.2.1, ?_, ?_⟩
              · intro p hp
                obtain ⟨a2, w2, p1, p2, p3⟩ := hD.2.2.1 p hp
                refine ⟨a2, w2, p1, ?_, p3⟩
                unfold xfd at p2 ⊢
                rw [xgs hh]
                by_cases e : ad = a2
                · subst e
                  rw [hh] at p2
                  cases p2
                · rw [if_neg e]
                  exact p2
              · intro p hp
                rcases List.mem_cons.mp hp with rfl | hp
                · refine ⟨ad, j.toNatClampNeg, wv, had, hje, ?_, hv⟩
                  have hu := hup j.toNatClampNeg
                  rw [if_pos rfl] at hu
                  simp only [xar, xgs hh, if_pos, if_pos hjlt, hu]
                · obtain ⟨hpm, hpk⟩ := List.mem_filter.mp hp
                  obtain ⟨a2, j2, w2, p1, p2, p3, p4⟩ := hD.2.2.2 p hpm
                  refine ⟨a2, j2, w2, p1, p2, ?_, p4⟩
                  unfold xar at p3 ⊢
                  rw [xgs hh]
                  by_cases e : ad = a2
                  · subst e
                    simp only [Bool.not_eq_true'] at hpk
                    split at hpk
                    · rename_i k2 hk2
                      have := xkd_ad hH hD.2.1 p1 hk2
                      rw [ht] at this
                      cases this
                      rw [Nat.beq_refl] at hpk
                      cases hpk
                    · cases hpk
                  · rw [if_neg e]
                    exact p3
            · rw [List.append_nil, List.append_nil]
              exact hs'
            · rw [hW]
              exact Nat.le_refl _
        · cases hx
      · cases hx
  · cases hx
/-! a new array -/
def xz0 (t n : Nat) (q : xJ) : Bool := Nat.beq q.2.2.2.1 0 && (xle q.2.1 0 && (xle (.ofNat n) (q.2.2.1 + 1) && (bif Nat.beq q.1.1 0 then !(Nat.beq t 1) && (xle q.1.2.2.1 0 && xle 0 q.1.2.2.2) else Nat.beq q.1.1 1 && Nat.beq t 1)))
def xnew (V : xEnv) (mi pc : Nat) (x : zm_X) (D : xD) (st : List xv) : Option (List xHS) := match st with
  | a :: t => (match V.2.2.2.2.1 mi pc with
    | some kd => (match V.1 kd with
      | some (.inr d) => bif Nat.beq a.1 0 && (xeq a.2.1 (xk (.ofNat d.2.1)) && (Nat.ble d.2.1 60000 && (Nat.beq d.1 x.1 && (Nat.ble d.1 3 && d.2.2.any (xz0 d.1 d.2.1))))) then some [((D.1, D.2.1 ++ [kd], D.2.2.1, D.2.2.2.1, D.2.2.2.2 + d.2.1 + 13), (4, xk 0, D.2.1.length) :: t)] else none
      | _ => none)
    | none => none)
  | _ => none
theorem xnew_ok {x : zm_X} {mi pc : Nat} {ty : ArrayType} (hX2 : xXW V X W) (hH : xHI V.1 V.2.1 τ h) (hX : X τ h) (hD : xdok ρ σ τ h D) (hs : xsk ρ σ st sc) (hx : xnew V mi pc x D st = some l) : xWR V X W MS ρ σ τ h D.2.2.2.2 l (zm_hp df og (.newarray ty) x sc h) := by
  unfold xnew at hx
  split at hx
  · rename_i a t
    obtain ⟨wa, s, rfl, ha, hs'⟩ := xsk_cons hs
    split at hx
    · rename_i kd hkd
      split at hx
      · rename_i d hK
        cases hc : Nat.beq a.1 0 && (xeq a.2.1 (xk (.ofNat d.2.1)) && (Nat.ble d.2.1 60000 && (Nat.beq d.1 x.1 && (Nat.ble d.1 3 && d.2.2.any (xz0 d.1 d.2.1))))) with
        | false => rw [hc] at hx; cases hx
        | true =>
          rw [hc] at hx
          cases hx
          simp only [Bool.and_eq_true] at hc
          obtain ⟨h1, h2, h3, h4, h5, h6⟩ := hc
          obtain ⟨i, rfl, he⟩ := xc_i ha h1
          have h3 := Nat.le_of_ble_eq_true h3
          have h4 : d.1 = x.1 := Nat.eq_of_beq_eq_true h4
          have h5 := Nat.le_of_ble_eq_true h5
          rw [of_decide_eq_true h2, xe_k] at he
          have hi : i.toInt = (d.2.1 : Int) := (Option.some.inj he).symm
          have hcl : i.toNatClampNeg = d.2.1 := by
            show i.toInt.toNat = d.2.1
            omega
          have hneg : ¬ i < 0 := fun hlt => by
            have := Int32.lt_iff_toInt_lt.mp hlt
            have e0 : (0 : Int32).toInt = 0 := rfl
            omega
          have hz : zm_hp df og (.newarray ty) x (.int i :: s) h = some (.ref h.length :: s, h ++ [.inl (d.1, d.2.1, zm_zero d.1)]) := by
            have hb : Nat.ble d.2.1 60000 = true := Nat.ble_eq_true_of_le h3
            simp only [zm_hp, zm_newa, decide_eq_false hneg, hcl, hb, Bool.not_false, Bool.and_self, cond_true, ← h4]
          obtain ⟨hX', hW⟩ := hX2.2.2 τ h kd d.1 d.2.1 (zm_zero d.1) hX hH
          have hlen := hH.1
          have hgl : ∀ {a : Nat} {c : zm_C}, h[a]? = some c → (h ++ [Sum.inl (d.1, d.2.1, zm_zero d.1)])[a]? = some c := fun hc => by
            rw [List.getElem?_append_left (List.getElem?_eq_some_iff.mp hc).1]
            exact hc
          have hcell : xcf (τ ++ [kd]) (.inr d) (.inl (d.1, d.2.1, zm_zero d.1)) := by
            obtain ⟨q, hq, hq0⟩ := List.any_eq_true.mp h6
            simp only [xz0, Bool.and_eq_true, xle_iff] at hq0
            obtain ⟨q1, q2, q3, q4⟩ := hq0
            have q1 : q.2.2.2.1 = 0 := Nat.eq_of_beq_eq_true q1
            have q3 : (d.2.1 : Int) ≤ q.2.2.1 + 1 := q3
            obtain ⟨t0, n0, js⟩ := d
            refine ⟨_, rfl, ?_, fun j hj => ⟨q, hq, ?_, by omega, by have hj : j < n0 := hj; have q3 : (n0 : Int) ≤ q.2.2.1 + 1 := q3; omega, Or.inl q1⟩⟩
            · rcases (show t0 = 0 ∨ t0 = 1 ∨ t0 = 2 ∨ t0 = 3 by have h5 : t0 ≤ 3 := h5; omega) with rfl | rfl | rfl | rfl
              · exact ⟨_, rfl⟩
              · exact ⟨_, rfl⟩
              · exact ⟨_, rfl⟩
              · exact ⟨_, rfl⟩
            · obtain ⟨⟨tq, nq, lo, hi⟩, qq⟩ := q
              cases hq5 : Nat.beq tq 0 with
              | true =>
                have q5 : (!(Nat.beq t0 1) && (xle lo 0 && xle 0 hi)) = true := by
                  have q4 : (bif Nat.beq tq 0 then (!(Nat.beq t0 1) && (xle lo 0 && xle 0 hi)) else _) = true := q4
                  rw [hq5] at q4
                  exact q4
                rw [Bool.and_eq_true, Bool.and_eq_true, Bool.not_eq_true', xle_iff, xle_iff] at q5
                have hq5 : tq = 0 := Nat.eq_of_beq_eq_true hq5
                subst hq5
                have hv : zm_kv (zm_zero t0) j = .int 0 := by
                  rcases (show t0 = 0 ∨ t0 = 1 ∨ t0 = 2 ∨ t0 = 3 by have h5 : t0 ≤ 3 := h5; omega) with rfl | rfl | rfl | rfl
                  · rfl
                  · cases q5.1
                  · rfl
                  · rfl
                show xsat _ _ (zm_kv (zm_zero t0) j)
                rw [hv]
                exact ⟨0, rfl, q5.2.1, q5.2.2⟩
              | false =>
                have q5 : (Nat.beq tq 1 && Nat.beq t0 1) = true := by
                  have q4 : (bif Nat.beq tq 0 then _ else (Nat.beq tq 1 && Nat.beq t0 1)) = true := q4
                  rw [hq5] at q4
                  exact q4
                rw [Bool.and_eq_true] at q5
                have e1 : tq = 1 := Nat.eq_of_beq_eq_true q5.1
                have e2 : t0 = 1 := Nat.eq_of_beq_eq_true q5.2
                subst e1
                subst e2
                exact ⟨0, rfl⟩
          refine ⟨_, _, τ ++ [kd], hz, ⟨?_, fun b kb hb => ?_, fun b hb => xgl (hH.2.2 b hb)⟩, hX', ⟨⟨[kd], rfl⟩, fun b kb f w hb2 hm hw => ?_, fun b kb c hb2 hm hw => hgl hw⟩, _, List.mem_singleton.mpr rfl, [], [h.length], ?_, ?_, ?_⟩
          · simp [hlen]
          · by_cases hlt : b < τ.length
            · rw [List.getElem?_append_left hlt] at hb
              obtain ⟨D', c', k1, k2, k3⟩ := hH.2.1 b kb hb
              exact ⟨D', c', k1, hgl k2, xcf_mono k3⟩
            · have hl2 := (List.getElem?_eq_some_iff.mp hb).1
              rw [List.length_append, List.length_singleton] at hl2
              have e : b = τ.length := by omega
              subst e
              have hb : kd = kb := by simpa using hb
              subst hb
              refine ⟨_, _, hK, ?_, hcell⟩
              rw [← hlen]
              simp
          · unfold xfd at hw ⊢
            split at hw
            · rename_i o ho
              rw [hgl ho]
              exact hw
            · cases hw
          · rw [List.append_nil]
            refine ⟨hD.1, ⟨?_, fun k kb hk => ?_⟩, ?_, ?_⟩
            · show (σ ++ [h.length]).length = (D.2.1 ++ [kd]).length
              simp [hD.2.1.1]
            · have hk : (D.2.1 ++ [kd])[k]? = some kb := hk
              by_cases hlt : k < D.2.1.length
              · rw [List.getElem?_append_left hlt] at hk
                obtain ⟨b, p1, p2⟩ := hD.2.1.2 k kb hk
                exact ⟨b, xgl p1, xgl p2⟩
              · have hl2 := (List.getElem?_eq_some_iff.mp hk).1
                rw [List.length_append, List.length_singleton] at hl2
                have e : k = D.2.1.length := by omega
                subst e
                have hk : kd = kb := by simpa using hk
                subst hk
                refine ⟨h.length, ?_, ?_⟩
                · rw [← hD.2.1.1]; simp
                · rw [hlen]; simp
            · intro p hp
              obtain ⟨a2, w2, p1, p2, p3⟩ := hD.2.2.1 p hp
              refine ⟨a2, w2, xad_mono p1, ?_, ?_⟩
              · unfold xfd at p2 ⊢
                split at p2
                · rename_i o ho
                  rw [hgl ho]
                  exact p2
                · cases p2
              · have := xc_mono (r := []) (s := [h.length]) p3
                rwa [List.append_nil] at this
            · intro p hp
              obtain ⟨a2, j2, w2, p1, p2, p3, p4⟩ := hD.2.2.2 p hp
              refine ⟨a2, j2, w2, xad_mono p1, p2, ?_, ?_⟩
              · unfold xar at p3 ⊢
                split at p3
                · rename_i o ho
                  rw [hgl ho]
                  exact p3
                · cases p3
              · have := xc_mono (r := []) (s := [h.length]) p4
                rwa [List.append_nil] at this
          · refine ⟨⟨h.length, ?_, rfl⟩, ?_⟩
            · show (σ ++ [h.length])[D.2.1.length]? = _
              rw [← hD.2.1.1]; simp
            · exact xsk_mono hs'
          · rw [hW]
            show W h + d.2.1 + 13 + D.2.2.2.2 ≤ W h + (D.2.2.2.2 + d.2.1 + 13)
            omega
      · cases hx
    · cases hx
  · cases hx
end XST
