/-! Ninth part: what is written -/
def xF (MS : Nat → Nat → Bool) (τ : List Nat) (h : zm_H) (τ' : List Nat) (h' : zm_H) : Prop := (∃ s, τ' = τ ++ s) ∧ (∀ (a kd f : Nat) (v : Value), τ[a]? = some kd → MS kd f = false → xfd h a f = some v → xfd h' a f = some v) ∧ ∀ (a kd : Nat) (c : Nat × Nat × zm_K), τ[a]? = some kd → MS kd 0 = false → h[a]? = some (.inl c) → h'[a]? = some (.inl c)
theorem xF_refl (MS : Nat → Nat → Bool) (τ : List Nat) (h : zm_H) : xF MS τ h τ h := ⟨⟨[], (List.append_nil τ).symm⟩, fun _ _ _ _ _ _ h => h, fun _ _ _ _ _ h => h⟩
theorem xgl {τ s : List Nat} {a kd : Nat} (h : τ[a]? = some kd) : (τ ++ s)[a]? = some kd := by
  rw [List.getElem?_append_left (List.getElem?_eq_some_iff.mp h).1]
  exact h
theorem xF_trans {MS : Nat → Nat → Bool} {τ τ1 τ2 : List Nat} {h h1 h2 : zm_H} (a : xF MS τ h τ1 h1) (b : xF MS τ1 h1 τ2 h2) : xF MS τ h τ2 h2 := by
  obtain ⟨⟨s1, rfl⟩, a2, a3⟩ := a
  obtain ⟨⟨s2, rfl⟩, b2, b3⟩ := b
  refine ⟨⟨s1 ++ s2, List.append_assoc _ _ _⟩, fun x kd f v h1 h2 h3 => b2 x kd f v (xgl h1) h2 (a2 x kd f v h1 h2 h3), fun x kd c h1 h2 h3 => b3 x kd c (xgl h1) h2 (a3 x kd c h1 h2 h3)⟩
theorem xF_weak {MS MS' : Nat → Nat → Bool} {τ τ1 : List Nat} {h h1 : zm_H} (a : xF MS τ h τ1 h1) (hm : ∀ k f, MS k f = true → MS' k f = true) : xF MS' τ h τ1 h1 := by
  have hf : ∀ k f, MS' k f = false → MS k f = false := fun k f e => by
    cases e2 : MS k f with
    | false => rfl
    | true => rw [hm k f e2] at e; cases e
  exact ⟨a.1, fun x kd f v h1 h2 h3 => a.2.1 x kd f v h1 (hf _ _ h2) h3, fun x kd c h1 h2 h3 => a.2.2 x kd c h1 (hf _ _ h2) h3⟩
/-- what else is known of the heap, and its size: what writes must leave -/
def xXW (V : xEnv) (X : List Nat → zm_H → Prop) (W : zm_H → Nat) : Prop :=
  (∀ (τ : List Nat) (h : zm_H) (a kd ci f : Nat) (fs : List Value) (v : Value), X τ h → τ[a]? = some kd → V.2.2.1 kd f = false → h[a]? = some (.inr (ci, fs)) → f < fs.length → X τ (h.set a (.inr (ci, fs.set f v))) ∧ W (h.set a (.inr (ci, fs.set f v))) = W h) ∧
  (∀ (τ : List Nat) (h : zm_H) (a kd t n : Nat) (k k' : zm_K), X τ h → τ[a]? = some kd → V.2.2.1 kd 0 = false → h[a]? = some (.inl (t, n, k)) → X τ (h.set a (.inl (t, n, k'))) ∧ W (h.set a (.inl (t, n, k'))) = W h) ∧
  (∀ (τ : List Nat) (h : zm_H) (kd t n : Nat) (k : zm_K), X τ h → xHI V.1 V.2.1 τ h → X (τ ++ [kd]) (h ++ [.inl (t, n, k)]) ∧ W (h ++ [.inl (t, n, k)]) = W h + n + 13)
def xWR (V : xEnv) (X : List Nat → zm_H → Prop) (W : zm_H → Nat) (MS : Nat → Nat → Bool) (ρ : List Int) (σ τ : List Nat) (h : zm_H) (g : Nat) (l : List xHS) (z : Option (List Value × zm_H)) : Prop := ∃ (sc : List Value) (h' : zm_H) (τ' : List Nat), z = some (sc, h') ∧ xHI V.1 V.2.1 τ' h' ∧ X τ' h' ∧ xF MS τ h τ' h' ∧ ∃ s ∈ l, ∃ r s', xdok (ρ ++ r) (σ ++ s') τ' h' s.1 ∧ xsk (ρ ++ r) (σ ++ s') s.2 sc ∧ W h' + g ≤ W h + s.1.2.2.2.2
theorem xgs {h : zm_H} {a b : Nat} {c d : zm_C} (ha : h[a]? = some d) : (h.set a c)[b]? = if a = b then some c else h[b]? := by
  rw [List.getElem?_set]
  by_cases e : a = b
  · subst e
    rw [if_pos rfl, if_pos rfl, if_pos (List.getElem?_eq_some_iff.mp ha).1]
  · rw [if_neg e, if_neg e]
section XWK
variable {ρ : List Int} {σ τ : List Nat} {h : zm_H} {V : xEnv} {X : List Nat → zm_H → Prop} {W : zm_H → Nat} {MS : Nat → Nat → Bool} {D : xD} {st : List xv} {sc : List Value} {l : List xHS} {df : Nat → List Value} {og : Nat → Option zm_C}
theorem xHI_set {KT : Nat → Option xKD} {SG : Nat → Bool} {a kd : Nat} {K : xKD} {c d : zm_C} (hH : xHI KT SG τ h) (hd : h[a]? = some d) (ht : τ[a]? = some kd) (hk : KT kd = some K) (hc : xcf τ K c) : xHI KT SG τ (h.set a c) := by
  refine ⟨by rw [List.length_set]; exact hH.1, fun b kb hb => ?_, hH.2.2⟩
  by_cases e : a = b
  · subst e
    rw [ht] at hb
    cases hb
    exact ⟨K, c, hk, by rw [xgs hd, if_pos rfl], hc⟩
  · obtain ⟨D', c', h1, h2, h3⟩ := hH.2.1 b kb hb
    exact ⟨D', c', h1, by rw [xgs hd, if_neg e]; exact h2, h3⟩
def xkill (V : xEnv) (rk : List Nat) (kd f : Nat) (m : xM) : xM := m.filter (fun q => !(Nat.beq q.2.1 f && (match xkd V.2.1 rk q.1 with
  | some k => Nat.beq k kd
  | none => true)))
def xkila (V : xEnv) (rk : List Nat) (kd : Nat) (m : xMA) : xMA := m.filter (fun q => !(match xkd V.2.1 rk q.1 with
  | some k => Nat.beq k kd
  | none => true))
def xpf (V : xEnv) (MS : Nat → Nat → Bool) (x : zm_X) (D : xD) (st : List xv) : Option (List xHS) := match st with
  | v :: b :: t => (match xkd V.2.1 D.2.1 b with
    | some kd => (match V.1 kd with
      | some (.inl d) => bif Nat.beq d.1 x.1 && (!(V.2.2.1 kd x.2.1) && MS kd x.2.1) then (match d.2[x.2.1]? with
        | some sp => bif sp.any (fun a => xcon D.1.1 D.2.1 v a && xokt (zm_ft d.1 x.2.1) a) then some [((D.1, D.2.1, (b, x.2.1, v) :: xkill V D.2.1 kd x.2.1 D.2.2.1, D.2.2.2), t)] else none
        | none => none) else none
      | _ => none)
    | none => none)
  | _ => none
theorem xpf_ok {x : zm_X} {i : Nat} (hX2 : xXW V X W) (hH : xHI V.1 V.2.1 τ h) (hX : X τ h) (hD : xdok ρ σ τ h D) (hs : xsk ρ σ st sc) (hx : xpf V MS x D st = some l) : xWR V X W MS ρ σ τ h D.2.2.2.2 l (zm_hp df og (.putfield i) x sc h) := by
  unfold xpf at hx
  split at hx
  · rename_i v b t
    obtain ⟨wv, s1, rfl, hv, hs1⟩ := xsk_cons hs
    obtain ⟨wb, s, rfl, hb, hs'⟩ := xsk_cons hs1
    split at hx
    · rename_i kd hkd
      obtain ⟨ad, rfl, had, ht⟩ := xkd_ok hH hD.2.1 hb hkd
      split at hx
      · rename_i d hK
        obtain ⟨fs, hh, hl, hsp⟩ := xcf_o hH ht hK
        cases hc : Nat.beq d.1 x.1 && (!(V.2.2.1 kd x.2.1) && MS kd x.2.1) with
        | false => rw [hc] at hx; cases hx
        | true =>
          rw [hc] at hx
          simp only [cond_true] at hx
          simp only [Bool.and_eq_true, Bool.not_eq_true'] at hc
          obtain ⟨hci, hpr, hms⟩ := hc
          split at hx
          · rename_i sp hsp2
            cases ha : sp.any (fun a => xcon D.1.1 D.2.1 v a && xokt (zm_ft d.1 x.2.1) a) with
            | false => rw [ha] at hx; cases hx
            | true =>
              rw [ha] at hx
              cases hx
              obtain ⟨a, ham, hac⟩ := List.any_eq_true.mp ha
              simp only [Bool.and_eq_true] at hac
              have hsat := xcon_ok hD.1.1 hD.2.1 hv hac.1
              have hlt := (List.getElem?_eq_some_iff.mp hsp2).1
              have hokv := xokt_ok hsat hac.2
              have hz : zm_hp df og (.putfield i) x (wv :: .ref ad :: s) h = some (s, h.set ad (.inr (d.1, fs.set x.2.1 wv))) := by
                have hbl : Nat.blt x.2.1 fs.length = true := by rw [Nat.blt_eq]; omega
                simp only [zm_hp, hh, zm_puto, hci, hbl, hokv, Bool.and_self, cond_true]
              obtain ⟨hX', hW⟩ := hX2.1 τ h ad kd d.1 x.2.1 fs wv hX ht hpr hh (by omega)
              have hfd : ∀ b f, (b ≠ ad ∨ f ≠ x.2.1) → xfd (h.set ad (.inr (d.1, fs.set x.2.1 wv))) b f = xfd h b f := by
                intro b f hne
                unfold xfd
                rw [xgs hh]
                by_cases e : ad = b
                · subst e
                  rw [if_pos rfl, hh]
                  have : f ≠ x.2.1 := hne.resolve_left (fun h => h rfl)
                  exact List.getElem?_set_ne (fun e => this e.symm)
                · rw [if_neg e]
              refine ⟨s, _, τ, hz, xHI_set hH hh ht hK ⟨_, rfl, by rw [List.length_set]; exact hl, fun f sp' v' h1 h2 => ?_⟩, hX', ⟨⟨[], (List.append_nil τ).symm⟩, fun b kb f w hb2 hm hw => ?_, fun b kb c hb2 hm hw => ?_⟩, _, List.mem_singleton.mpr rfl, [], [], ?_, ?_, ?_⟩
              · by_cases e : x.2.1 = f
                · subst e
                  rw [hsp2] at h1
                  cases h1
                  rw [List.getElem?_set_self (by omega)] at h2
                  cases h2
                  exact ⟨a, ham, hsat⟩
                · rw [List.getElem?_set_ne e] at h2
                  exact hsp f sp' v' h1 h2
              · rw [hfd]
                · exact hw
                · by_cases e : b = ad
                  · right
                    subst e
                    rw [ht] at hb2
                    cases hb2
                    rintro rfl
                    rw [hms] at hm
                    cases hm
                  · exact Or.inl e
              · rw [xgs hh]
                by_cases e : ad = b
                · subst e
                  rw [hh] at hw
                  cases hw
                · rw [if_neg e]
                  exact hw
              · rw [List.append_nil, List.append_nil]
                refine ⟨hD.1, hD.2.1, ?_, ?_⟩
                · intro q hq
                  rcases List.mem_cons.mp hq with rfl | hq
                  · refine ⟨ad, wv, had, ?_, hv⟩
                    unfold xfd
                    rw [xgs hh, if_pos rfl]
                    exact List.getElem?_set_self (by omega)
                  · obtain ⟨hqm, hqk⟩ := List.mem_filter.mp hq
                    obtain ⟨a2, w2, p1, p2, p3⟩ := hD.2.2.1 q hqm
                    refine ⟨a2, w2, p1, ?_, p3⟩
                    rw [hfd]
                    · exact p2
                    · simp only [Bool.not_eq_true', Bool.and_eq_false_iff] at hqk
                      rcases hqk with e | e
                      · right
                        rintro e2
                        rw [e2, Nat.beq_refl] at e
                        cases e
                      · left
                        rintro rfl
                        split at e
                        · rename_i k hk
                          have := xkd_ad hH hD.2.1 p1 hk
                          rw [ht] at this
                          cases this
                          rw [Nat.beq_refl] at e
                          cases e
                        · cases e
                · intro q hq
                  obtain ⟨a2, j, w2, p1, p2, p3, p4⟩ := hD.2.2.2 q hq
                  refine ⟨a2, j, w2, p1, p2, ?_, p4⟩
                  unfold xar at p3 ⊢
                  rw [xgs hh]
                  by_cases e : ad = a2
                  · subst e
                    rw [hh] at p3
                    cases p3
                  · rw [if_neg e]
                    exact p3
              · rw [List.append_nil, List.append_nil]
                exact hs'
              · rw [hW]
                exact Nat.le_refl _
          · cases hx
      · cases hx
    · cases hx
  · cases hx
end XWK
