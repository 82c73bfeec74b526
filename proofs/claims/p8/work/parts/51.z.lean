/-! System.arraycopy -/
def xcat (st : List xv) : Nat := (st.map (fun a => bif xw2 a then 2 else 1)).sum
theorem xcat_ok {ρ : List Int} {σ : List Nat} : ∀ {st : List xv} {sc : List Value}, xsk ρ σ st sc → zm_cat sc = xcat st
  | [], [], _ => rfl
  | [], _ :: _, h => by cases h
  | _ :: _, [], h => by cases h
  | a :: t, v :: s, h => by
    have h1 := xc_cat h.1
    have h2 := xcat_ok h.2
    unfold zm_cat xcat at h2 ⊢
    simp only [List.map_cons, List.sum_cons, h1, h2]
/-- every alternative of the source is one of the other's, at all its places -/
def xcpa (ds : List xJ) (n : Nat) (dd : List xJ) : Bool := ds.all (fun q => dd.any (fun p => decide (p.1 = q.1) && (Nat.beq p.2.2.2.1 0 && (xle p.2.1 0 && xle (.ofNat n) (p.2.2.1 + 1)))))
theorem xcpa_ok {ds dd : List xJ} {n j : Nat} {q : xJ} (h : xcpa ds n dd = true) (hq : q ∈ ds) (hj : j < n) : ∃ p ∈ dd, p.1 = q.1 ∧ xjok p j := by
  obtain ⟨p, hp, h1⟩ := List.any_eq_true.mp (List.all_eq_true.mp h q hq)
  simp only [Bool.and_eq_true, decide_eq_true_eq, xle_iff] at h1
  obtain ⟨h2, h3, h4, h5⟩ := h1
  have h5 : (n : Int) ≤ p.2.2.1 + 1 := h5
  exact ⟨p, hp, h2, by omega, by omega, Or.inl (Nat.eq_of_beq_eq_true h3)⟩
def xcpy (V : xEnv) (MS : Nat → Nat → Bool) (D : xD) (st : List xv) : Option (List xHS) := match st with
  | n :: dp :: b1 :: sp :: b0 :: t => bif Nat.beq n.1 0 && (Nat.beq dp.1 0 && (Nat.beq sp.1 0 && Nat.ble (xcat t) 8)) then (match xkd V.2.1 D.2.1 b1, xkd V.2.1 D.2.1 b0 with
    | some k1, some k0 => (match V.1 k1, V.1 k0 with
      | some (.inr d1), some (.inr d0) => bif (!(V.2.2.1 k1 0) && MS k1 0) && ((Nat.beq d0.1 d1.1 && Nat.ble d1.1 1) && ((xpv D.1.1.1 D.1.1.2 8 n.2.1 && (xpv D.1.1.1 D.1.1.2 8 dp.2.1 && xpv D.1.1.1 D.1.1.2 8 sp.2.1)) && ((xpv D.1.1.1 D.1.1.2 8 (xpl (.ofNat d0.2.1) (xng (xadd (.ofNat 1) sp.2.1 n.2.1))) && xpv D.1.1.1 D.1.1.2 8 (xpl (.ofNat d1.2.1) (xng (xadd (.ofNat 1) dp.2.1 n.2.1)))) && xcpa d0.2.2 d1.2.1 d1.2.2))) then some [((D.1, D.2.1, D.2.2.1, xkila V D.2.1 k1 D.2.2.2.1, D.2.2.2.2), t)] else none
      | _, _ => none)
    | _, _ => none) else none
  | _ => none
section XCPY
variable {ρ : List Int} {σ τ : List Nat} {h : zm_H} {V : xEnv} {X : List Nat → zm_H → Prop} {W : zm_H → Nat} {MS : Nat → Nat → Bool} {D : xD} {st : List xv} {sc : List Value} {l : List xHS} {df : Nat → List Value} {og : Nat → Option zm_C}
theorem xcpk_ok {t n0 sp dp n : Nat} {k0 k1 : zm_K} (ht : t ≤ 1) (h0 : xka t k0) (h1 : xka t k1) (hs : sp + n ≤ n0) : ∃ k, zm_cpk k0 k1 t t sp dp n = some k ∧ xka t k ∧ ∀ i : Nat, zm_kv k i = zm_kv k1 i ∨ ∃ i', i' < n0 ∧ zm_kv k i = zm_kv k0 i' := by
  rcases (show t = 0 ∨ t = 1 by omega) with rfl | rfl
  · obtain ⟨f, rfl⟩ := h0
    obtain ⟨g, rfl⟩ := h1
    refine ⟨.inl (va_cpy f g sp dp n), rfl, ⟨_, rfl⟩, fun i => ?_⟩
    simp only [zm_kv, va_cpy]
    by_cases e : dp ≤ i ∧ i < dp + n
    · right
      exact ⟨sp + (i - dp), by omega, by rw [if_pos e]⟩
    · left
      rw [if_neg e]
  · obtain ⟨f, rfl⟩ := h0
    obtain ⟨g, rfl⟩ := h1
    refine ⟨.inr (.inl (va_cpy f g sp dp n)), rfl, ⟨_, rfl⟩, fun i => ?_⟩
    simp only [zm_kv, va_cpy]
    by_cases e : dp ≤ i ∧ i < dp + n
    · right
      exact ⟨sp + (i - dp), by omega, by rw [if_pos e]⟩
    · left
      rw [if_neg e]
theorem xnng {j : Int32} (h : 0 ≤ j.toInt) : ¬ j < 0 ∧ ((j.toNatClampNeg : Nat) : Int) = j.toInt := by
  refine ⟨fun hl => ?_, ?_⟩
  · have := Int32.lt_iff_toInt_lt.mp hl
    have e0 : (0 : Int32).toInt = 0 := rfl
    omega
  · have e : j.toNatClampNeg = j.toInt.toNat := rfl
    rw [e]
    omega
theorem xcpy_ok {x : zm_X} {i : Nat} (h7 : Nat.beq x.2.2.1 7 = true) (hX2 : xXW V X W) (hH : xHI V.1 V.2.1 τ h) (hX : X τ h) (hD : xdok ρ σ τ h D) (hs : xsk ρ σ st sc) (hx : xcpy V MS D st = some l) : xWR V X W MS ρ σ τ h D.2.2.2.2 l (zm_hp df og (.invokestatic i) x sc h) := by
  unfold xcpy at hx
  split at hx
  · rename_i n dp b1 sp b0 t
    obtain ⟨wn, s1, rfl, hn1, hs1⟩ := xsk_cons hs
    obtain ⟨wd, s2, rfl, hd1, hs2⟩ := xsk_cons hs1
    obtain ⟨w1, s3, rfl, hb1, hs3⟩ := xsk_cons hs2
    obtain ⟨ws, s4, rfl, hp1, hs4⟩ := xsk_cons hs3
    obtain ⟨w0, s, rfl, hb0, hs'⟩ := xsk_cons hs4
    cases ht0 : Nat.beq n.1 0 && (Nat.beq dp.1 0 && (Nat.beq sp.1 0 && Nat.ble (xcat t) 8)) with
    | false => rw [ht0] at hx; cases hx
    | true =>
      rw [ht0] at hx
      simp only [cond_true] at hx
      simp only [Bool.and_eq_true] at ht0
      obtain ⟨jn, rfl, en⟩ := xc_i hn1 ht0.1
      obtain ⟨jd, rfl, ed⟩ := xc_i hd1 ht0.2.1
      obtain ⟨jp, rfl, ep⟩ := xc_i hp1 ht0.2.2.1
      have hcat := Nat.le_of_ble_eq_true ht0.2.2.2
      rw [← xcat_ok hs'] at hcat
      split at hx
      · rename_i k1 k0 hk1 hk0
        obtain ⟨a1, rfl, had1, ht1⟩ := xkd_ok hH hD.2.1 hb1 hk1
        obtain ⟨a0, rfl, had0, ht2⟩ := xkd_ok hH hD.2.1 hb0 hk0
        split at hx
        · rename_i d1 d0 hK1 hK0
          obtain ⟨c1, hh1, hka1, hel1⟩ := xcf_a hH ht1 hK1
          obtain ⟨c0, hh0, hka0, hel0⟩ := xcf_a hH ht2 hK0
          cases hc : (!(V.2.2.1 k1 0) && MS k1 0) && ((Nat.beq d0.1 d1.1 && Nat.ble d1.1 1) && ((xpv D.1.1.1 D.1.1.2 8 n.2.1 && (xpv D.1.1.1 D.1.1.2 8 dp.2.1 && xpv D.1.1.1 D.1.1.2 8 sp.2.1)) && ((xpv D.1.1.1 D.1.1.2 8 (xpl (.ofNat d0.2.1) (xng (xadd (.ofNat 1) sp.2.1 n.2.1))) && xpv D.1.1.1 D.1.1.2 8 (xpl (.ofNat d1.2.1) (xng (xadd (.ofNat 1) dp.2.1 n.2.1)))) && xcpa d0.2.2 d1.2.1 d1.2.2))) with
          | false => rw [hc] at hx; cases hx
          | true =>
            rw [hc] at hx
            cases hx
            simp only [Bool.and_eq_true, Bool.not_eq_true'] at hc
            obtain ⟨⟨hpr, hms⟩, ⟨htt, ht1'⟩, ⟨hi1, hi2, hi3⟩, ⟨hi4, hi5⟩, hcpa⟩ := hc
            have hn := hD.1.1
            have htt := Nat.eq_of_beq_eq_true htt
            have ht1' := Nat.le_of_ble_eq_true ht1'
            have v1 := xpv_ok hn.1 hn.2 8 en hi1
            have v2 := xpv_ok hn.1 hn.2 8 ed hi2
            have v3 := xpv_ok hn.1 hn.2 8 ep hi3
            have v4 := xpv_ok hn.1 hn.2 8 (xe_pl (.ofNat d0.2.1) (xe_ng (xe_add (k := .ofNat 1) ep en))) hi4
            have v5 := xpv_ok hn.1 hn.2 8 (xe_pl (.ofNat d1.2.1) (xe_ng (xe_add (k := .ofNat 1) ed en))) hi5
            have v4 : 0 ≤ -(jp.toInt + 1 * jn.toInt) + (d0.2.1 : Int) := v4
            have v5 : 0 ≤ -(jd.toInt + 1 * jn.toInt) + (d1.2.1 : Int) := v5
            obtain ⟨u1, u2⟩ := xnng v1
            obtain ⟨u3, u4⟩ := xnng v2
            obtain ⟨u5, u6⟩ := xnng v3
            rw [htt] at hka0
            obtain ⟨k', hk, hka', hup⟩ := xcpk_ok (sp := jp.toNatClampNeg) (dp := jd.toNatClampNeg) (n := jn.toNatClampNeg) (n0 := d0.2.1) ht1' hka0 hka1 (by omega)
            have hz : zm_hp df og (.invokestatic i) x (.int jn :: .int jd :: .ref a1 :: .int jp :: .ref a0 :: s) h = some (s, h.set a1 (.inl (d1.1, d1.2.1, k'))) := by
              have e1 : Nat.ble (jp.toNatClampNeg + jn.toNatClampNeg) d0.2.1 = true := Nat.ble_eq_true_of_le (by omega)
              have e2 : Nat.ble (jd.toNatClampNeg + jn.toNatClampNeg) d1.2.1 = true := Nat.ble_eq_true_of_le (by omega)
              have e3 : Nat.ble (zm_cat s) 8 = true := Nat.ble_eq_true_of_le hcat
              have e4 : zm_cpk c0 c1 d0.1 d1.1 jp.toNatClampNeg jd.toNatClampNeg jn.toNatClampNeg = some k' := by rw [htt]; exact hk
              simp only [zm_hp, h7, cond_true, zm_cpy, hh0, hh1, decide_eq_false u1, decide_eq_false u3, decide_eq_false u5, e1, e2, e3, e4, Bool.not_false, Bool.and_self]
            obtain ⟨hX', hW⟩ := hX2.2.1 τ h a1 k1 d1.1 d1.2.1 c1 k' hX ht1 hpr hh1
            refine ⟨s, _, τ, hz, xHI_set hH hh1 ht1 hK1 ⟨k', rfl, hka', fun i hi => ?_⟩, hX', ⟨⟨[], (List.append_nil τ).symm⟩, fun b kb f w hb2 hm hw => ?_, fun b kb c hb2 hm hw => ?_⟩, _, List.mem_singleton.mpr rfl, [], [], ?_, ?_, ?_⟩
            · rcases hup i with e | ⟨i', hi', e⟩
              · rw [e]
                exact hel1 i hi
              · rw [e]
                obtain ⟨q, hq, hsat, -⟩ := hel0 i' hi'
                obtain ⟨p, hp, e2, hjk⟩ := xcpa_ok hcpa hq hi
                exact ⟨p, hp, by rw [e2]; exact hsat, hjk⟩
            · unfold xfd at hw ⊢
              rw [xgs hh1]
              by_cases e : a1 = b
              · subst e
                rw [hh1] at hw
                cases hw
              · rw [if_neg e]
                exact hw
            · rw [xgs hh1]
              by_cases e : a1 = b
              · subst e
                rw [ht1] at hb2
                cases hb2
                rw [hms] at hm
                cases hm
              · rw [if_neg e]
                exact hw
            · rw [List.append_nil, List.append_nil]
              refine ⟨hD.1, hD.2.1, ?_, ?_⟩
              · intro p hp
                obtain ⟨a2, w2, p1, p2, p3⟩ := hD.2.2.1 p hp
                refine ⟨a2, w2, p1, ?_, p3⟩
                unfold xfd at p2 ⊢
                rw [xgs hh1]
                by_cases e : a1 = a2
                · subst e
                  rw [hh1] at p2
                  cases p2
                · rw [if_neg e]
                  exact p2
              · intro p hp
                obtain ⟨hpm, hpk⟩ := List.mem_filter.mp hp
                obtain ⟨a2, j2, w2, p1, p2, p3, p4⟩ := hD.2.2.2 p hpm
                refine ⟨a2, j2, w2, p1, p2, ?_, p4⟩
                unfold xar at p3 ⊢
                rw [xgs hh1]
                by_cases e : a1 = a2
                · subst e
                  simp only [Bool.not_eq_true'] at hpk
                  split at hpk
                  · rename_i k2 hk2
                    have := xkd_ad hH hD.2.1 p1 hk2
                    rw [ht1] at this
                    cases this
                    rw [Nat.beq_refl] at hpk
                    cases hpk
                  · cases hpk
                · rw [if_neg e]
                  exact p3
            · rw [List.append_nil, List.append_nil]
              exact hs'
            · rw [hW]
              exact Nat.le_refl _
        · cases hx
      · cases hx
  · cases hx
end XCPY
