/-! Jumps -/
def zm_bok (pc : Nat) (i : Jvm.ClassFile.Instr) (len : Nat) (x : zm_X) : Bool := match i with
  | .goto off => decide (len = 3) && decide ((pc : Int) + off = (x.1 : Int))
  | .ifCond _ off => decide (len = 3) && decide ((pc : Int) + off = (x.1 : Int))
  | .if_icmp _ off => decide (len = 3) && decide ((pc : Int) + off = (x.1 : Int))
  | .if_acmp _ off => decide (len = 3) && decide ((pc : Int) + off = (x.1 : Int))
  | .ifnull off => decide (len = 3) && decide ((pc : Int) + off = (x.1 : Int))
  | .ifnonnull off => decide (len = 3) && decide ((pc : Int) + off = (x.1 : Int))
  | .tableswitch d lo hi offs => decide (0 ≤ (pc : Int) + d) && (decide (hi - lo < (offs.size : Int)) && offs.toList.all (fun o => decide (0 ≤ (pc : Int) + o)))
  | _ => true
section ZMB
variable {p : Program} {l : Launch} {e : Env} {R : Room} {s : State} {m : MethodId} {args : Array Value} {below : List Frame} {meth : Method} {c : Code} {H : Heap} {locs : List Loc} {cells slots : Nat} {Q : State → Prop}
variable {cc : ByteArray} {pc : Nat} {lsA : Array Slot} {rest : List Value}
variable {ba : Nat} {ao : Nat → Nat} {len : Nat} {x : zm_X} {st : List Value}
theorem zm_rf_tr {ba : Nat} {ao : Nat → Nat} {v : Value} {a : Option Nat} (h : zm_rf v = some a) : zm_tr ba ao v = va_rf (a.map (fun k => ba + k)) := by
  unfold zm_rf at h
  split at h
  · cases h; rfl
  · cases h; rfl
  · cases h
theorem zm_map_eq {ba : Nat} {a b : Option Nat} : a.map (fun k => ba + k) = b.map (fun k => ba + k) ↔ a = b := by
  cases a <;> cases b <;> simp
theorem zm_br_ok {i : Jvm.ClassFile.Instr} {q : Nat × List Value} (hinj : ∀ j k : Nat, zm_isw j = true → zm_isw k = true → ao j = ao k → j = k) (hx : p.tables.exec = Jvm.exec) (hb : c.code = cc) (hd : decode cc pc = .ok (i, len)) (hk : zm_bok pc i len x = true) (hp : zm_br i x pc st = some q)
    (kk : W p l e R s m args below meth c H locs cells slots Q (F0 m q.1 lsA (q.2.map (zm_tr ba ao)))) : W p l e R s m args below meth c H locs cells slots Q (F0 m pc lsA (st.map (zm_tr ba ao))) := by
  cases i with
  | goto off =>
    simp only [zm_bok, Bool.and_eq_true, decide_eq_true_eq] at hk
    obtain ⟨rfl, ht⟩ := hk
    simp only [zm_br, Option.some.injEq] at hp
    subst hp
    exact lv_goto hx hb hd ht kk
  | ifCond cd off =>
    simp only [zm_bok, Bool.and_eq_true, decide_eq_true_eq] at hk
    obtain ⟨rfl, ht⟩ := hk
    simp only [zm_br] at hp
    split at hp
    · rename_i a st2
      simp only [Option.some.injEq] at hp
      subst hp
      cases cd with
      | eq => exact lv_if_eq hx hb hd ht (fun h => by simp only [zm_if, if_pos h] at kk; exact kk) (fun h => by simp only [zm_if, if_neg h] at kk; exact kk)
      | ne => exact lv_if_ne hx hb hd ht (fun h => by simp only [zm_if, if_neg h] at kk; exact kk) (fun h => by simp only [zm_if, if_pos h] at kk; exact kk)
      | lt => exact lv_if_lt hx hb hd ht (fun h => by simp only [zm_if, if_pos h] at kk; exact kk) (fun h => by simp only [zm_if, if_neg h] at kk; exact kk)
      | ge => exact lv_if_ge hx hb hd ht (fun h => by simp only [zm_if, if_pos h] at kk; exact kk) (fun h => by simp only [zm_if, if_neg h] at kk; exact kk)
      | gt => exact lv_if_gt hx hb hd ht (fun h => by simp only [zm_if, if_pos h] at kk; exact kk) (fun h => by simp only [zm_if, if_neg h] at kk; exact kk)
      | le => exact lv_if_le hx hb hd ht (fun h => by simp only [zm_if, if_pos h] at kk; exact kk) (fun h => by simp only [zm_if, if_neg h] at kk; exact kk)
    · cases hp
  | if_icmp cd off =>
    simp only [zm_bok, Bool.and_eq_true, decide_eq_true_eq] at hk
    obtain ⟨rfl, ht⟩ := hk
    simp only [zm_br] at hp
    split at hp
    · rename_i b a st2
      simp only [Option.some.injEq] at hp
      subst hp
      cases cd with
      | eq => exact lv_icmp_eq hx hb hd ht (fun h => by simp only [zm_ic, if_pos h] at kk; exact kk) (fun h => by simp only [zm_ic, if_neg h] at kk; exact kk)
      | ne => exact lv_icmp_ne hx hb hd ht (fun h => by simp only [zm_ic, if_neg h] at kk; exact kk) (fun h => by simp only [zm_ic, if_pos h] at kk; exact kk)
      | lt => exact lv_icmp_lt hx hb hd ht (fun h => by simp only [zm_ic, if_pos h] at kk; exact kk) (fun h => by simp only [zm_ic, if_neg h] at kk; exact kk)
      | ge => exact lv_icmp_ge hx hb hd ht (fun h => by simp only [zm_ic, if_pos h] at kk; exact kk) (fun h => by simp only [zm_ic, if_neg h] at kk; exact kk)
      | gt => exact lv_icmp_gt hx hb hd ht (fun h => by simp only [zm_ic, if_pos h] at kk; exact kk) (fun h => by simp only [zm_ic, if_neg h] at kk; exact kk)
      | le => exact lv_icmp_le hx hb hd ht (fun h => by simp only [zm_ic, if_pos h] at kk; exact kk) (fun h => by simp only [zm_ic, if_neg h] at kk; exact kk)
    · cases hp
  | if_acmp cd off =>
    simp only [zm_bok, Bool.and_eq_true, decide_eq_true_eq] at hk
    obtain ⟨rfl, ht⟩ := hk
    simp only [zm_br] at hp
    split at hp
    · rename_i b a st2
      cases hw : zm_isw a && zm_isw b with
      | false => rw [hw] at hp; cases hp
      | true =>
        rw [hw] at hp
        simp only [cond_true, Option.some.injEq] at hp
        simp only [Bool.and_eq_true] at hw
        subst hp
        have he : (some (ao a) = some (ao b)) ↔ ((some a : Option Nat) = some b) := ⟨fun z => by rw [hinj a b hw.1 hw.2 (Option.some.inj z)], fun z => by rw [Option.some.inj z]⟩
        cases cd with
        | eq => exact lv_acmp_eq (rx := some (ao a)) (ry := some (ao b)) hx hb hd ht (fun h => by simp only [zm_ac, if_pos (he.mp h)] at kk; exact kk) (fun h => by simp only [zm_ac, if_neg (fun z => h (he.mpr z))] at kk; exact kk)
        | ne => exact lv_acmp_ne (rx := some (ao a)) (ry := some (ao b)) hx hb hd ht (fun h => by simp only [zm_ac, if_neg (fun z => h (he.mpr z))] at kk; exact kk) (fun h => by simp only [zm_ac, if_pos (he.mp h)] at kk; exact kk)
    · rename_i w v st2 _
      split at hp
      · rename_i a b ha hb2
        simp only [Option.some.injEq] at hp
        subst hp
        simp only [List.map_cons, zm_rf_tr (ba := ba) (ao := ao) ha, zm_rf_tr (ba := ba) (ao := ao) hb2]
        cases cd with
        | eq => exact lv_acmp_eq hx hb hd ht (fun h => by simp only [zm_ac, if_pos (zm_map_eq.mp h)] at kk; exact kk) (fun h => by simp only [zm_ac, if_neg (fun z => h (zm_map_eq.mpr z))] at kk; exact kk)
        | ne => exact lv_acmp_ne hx hb hd ht (fun h => by simp only [zm_ac, if_neg (fun z => h (zm_map_eq.mpr z))] at kk; exact kk) (fun h => by simp only [zm_ac, if_pos (zm_map_eq.mp h)] at kk; exact kk)
      · cases hp
    · cases hp
  | ifnull off =>
    simp only [zm_bok, Bool.and_eq_true, decide_eq_true_eq] at hk
    obtain ⟨rfl, ht⟩ := hk
    simp only [zm_br] at hp
    split at hp
    · simp only [Option.some.injEq] at hp
      subst hp
      exact lv_ifnull hx hb hd kk
    · simp only [Option.some.injEq] at hp
      subst hp
      exact lv_ifnull hx hb hd kk
    · simp only [Option.some.injEq] at hp
      subst hp
      exact lv_ifnullN hx hb hd ht kk
    · cases hp
  | ifnonnull off =>
    simp only [zm_bok, Bool.and_eq_true, decide_eq_true_eq] at hk
    obtain ⟨rfl, ht⟩ := hk
    simp only [zm_br] at hp
    split at hp
    · simp only [Option.some.injEq] at hp
      subst hp
      exact lv_ifnonnull hx hb hd ht kk
    · simp only [Option.some.injEq] at hp
      subst hp
      exact lv_ifnonnull hx hb hd ht kk
    · simp only [Option.some.injEq] at hp
      subst hp
      exact lv_ifnonnullN hx hb hd kk
    · cases hp
  | tableswitch d lo hi offs =>
    simp only [zm_bok, Bool.and_eq_true, decide_eq_true_eq, List.all_eq_true] at hk
    obtain ⟨h1, h2, h3⟩ := hk
    simp only [zm_br] at hp
    split at hp
    · rename_i a st2
      simp only [Option.some.injEq] at hp
      subst hp
      by_cases ho : a.toInt < lo ∨ hi < a.toInt
      · simp only [zm_tab, if_pos ho] at kk
        exact lv_tableOut hx hb hd ho (Int.toNat_of_nonneg h1).symm kk
      · simp only [zm_tab, if_neg ho] at kk
        have hlt : (a.toInt - lo).toNat < offs.size := by omega
        have hs : offs[(a.toInt - lo).toNat]? = some offs[(a.toInt - lo).toNat] := Array.getElem?_eq_getElem hlt
        rw [hs] at kk
        dsimp only at kk
        exact lv_tableIn hx hb hd (fun z => ho (Or.inl z)) (fun z => ho (Or.inr z)) hs (Int.toNat_of_nonneg (h3 _ (by simp))).symm kk
    · cases hp
  | _ => cases hp
end ZMB
