/-! Fifteenth part: what the run says is so -/
def xQ (og : Nat → Option zm_C) : Nat → List (Nat × Nat × zm_L × List Value) → (Option Value → zm_H → Prop) → Option Value → zm_H → Prop
  | _, [], Q => Q
  | d, f :: fr, Q => fun r h => zm_Y og (d + 1) f.1 f.2.1 f.2.2.1 (r.toList ++ f.2.2.2) h (xQ og (d + 1) fr Q)
def xfok (ρ : List Int) (σ : List Nat) : List xFr → List (Nat × Nat × zm_L × List Value) → Prop
  | [], [] => True
  | f :: t, g :: u => (g.1 = f.1 ∧ g.2.1 = f.2.1 ∧ xlk ρ σ f.2.2.1 g.2.2.1 ∧ xsk ρ σ f.2.2.2 g.2.2.2) ∧ xfok ρ σ t u
  | _, _ => False
theorem xfok_mono {ρ r : List Int} {σ s : List Nat} : ∀ {f : List xFr} {g : List (Nat × Nat × zm_L × List Value)}, xfok ρ σ f g → xfok (ρ ++ r) (σ ++ s) f g
  | [], [], _ => trivial
  | [], _ :: _, h => by cases h
  | _ :: _, [], h => by cases h
  | _ :: _, _ :: _, h => ⟨⟨h.1.1, h.1.2.1, xlk_mono h.1.2.2.1, xsk_mono h.1.2.2.2⟩, xfok_mono h.2⟩
theorem xfok_len {ρ : List Int} {σ : List Nat} : ∀ {f : List xFr} {g : List (Nat × Nat × zm_L × List Value)}, xfok ρ σ f g → f.length = g.length
  | [], [], _ => rfl
  | [], _ :: _, h => by cases h
  | _ :: _, [], h => by cases h
  | _ :: _, _ :: _, h => by simp only [List.length_cons, xfok_len h.2]
/-- from every state that s stands for the machine comes to the end Q -/
def xgd (V : xEnv) (X : List Nat → zm_H → Prop) (W : zm_H → Nat) (og : Nat → Option zm_C) (c : xCo) (ρb : List Int) (σb τ0 : List Nat) (h0 : zm_H) (Q : Option Value → zm_H → Prop) (s : xS) : Prop := ∀ (ρ : List Int) (σ τ : List Nat) (h : zm_H) (lc : zm_L) (sc : List Value) (frc : List (Nat × Nat × zm_L × List Value)) (d : Nat), d + frc.length = c.2.2.2.2.2 → xHI V.1 V.2.1 τ h → X τ h → xF (xms c.2.2.2.1) τ0 h0 τ h → W h ≤ W h0 + s.2.2.2.2.1.2.2.2.2 → xdok (ρb ++ ρ) (σb ++ σ) τ h s.2.2.2.2.1 → xlk (ρb ++ ρ) (σb ++ σ) s.2.2.1 lc → xsk (ρb ++ ρ) (σb ++ σ) s.2.2.2.1 sc → xfok (ρb ++ ρ) (σb ++ σ) s.2.2.2.2.2 frc → zm_Y og d s.1 s.2.1 lc sc h (xQ og d frc Q)
theorem xmt_mem : ∀ {MT : List (Nat × zm_M)} {k : Nat} {m : zm_M}, xmt MT k = some m → (k, m) ∈ MT
  | [], k, m, h => by cases h
  | q :: r, k, m, h => by
    simp only [xmt] at h
    cases h1 : Nat.beq q.1 k with
    | true =>
      rw [h1] at h
      cases h
      have e := Nat.eq_of_beq_eq_true h1
      rw [← e]
      exact List.mem_cons_self
    | false =>
      rw [h1] at h
      exact List.mem_cons_of_mem _ (xmt_mem h)
theorem xido_ok {θ : xTh} : ∀ {n k : Nat}, xido θ n = true → k < n → xlu θ k = some (xsym k)
  | 0, k, _, hk => by omega
  | n + 1, k, h, hk => by
    simp only [xido, Bool.and_eq_true] at h
    by_cases e : k = n
    · subst e
      have h1 := h.1
      split at h1
      · rename_i t ht
        rw [ht, of_decide_eq_true h1]
      · cases h1
    · exact xido_ok h.2 (by omega)
theorem xidp_ok {φ : xPh} : ∀ {n k : Nat}, xidp φ n = true → k < n → xlr φ k = some k
  | 0, k, _, hk => by omega
  | n + 1, k, h, hk => by
    simp only [xidp, Bool.and_eq_true] at h
    by_cases e : k = n
    · subst e
      have h1 := h.1
      split at h1
      · rename_i t ht
        rw [ht, Nat.eq_of_beq_eq_true h1]
      · cases h1
    · exact xidp_ok h.2 (by omega)
/-- the bindings leave the first symbols as they are -/
theorem xpfx {ρ0 ρ1 ρc : List Int} {σ0 σ1 σc : List Nat} {θ : xTh} {φ : xPh} (hb : xbok (ρ0 ++ ρ1) (σ0 ++ σ1) θ φ ρc σc) (h1 : xido θ ρ0.length = true) (h2 : xidp φ σ0.length = true) : (∃ r, ρc = ρ0 ++ r) ∧ ∃ s, σc = σ0 ++ s := by
  constructor
  · refine ⟨ρc.drop ρ0.length, ?_⟩
    apply List.ext_getElem?
    intro k
    by_cases hk : k < ρ0.length
    · rw [List.getElem?_append_left hk]
      obtain ⟨x, a, b⟩ := hb.1 k _ (xido_ok h1 hk)
      rw [a]
      have hg : (ρ0 ++ ρ1)[k]? = some ρ0[k] := by rw [List.getElem?_append_left hk]; exact List.getElem?_eq_getElem hk
      rw [xe_sym hg] at b
      cases b
      exact (List.getElem?_eq_getElem hk).symm
    · rw [List.getElem?_append_right (by omega), List.getElem?_drop]
      congr 1
      omega
  · refine ⟨σc.drop σ0.length, ?_⟩
    apply List.ext_getElem?
    intro k
    by_cases hk : k < σ0.length
    · rw [List.getElem?_append_left hk]
      obtain ⟨x, a, b⟩ := hb.2 k _ (xidp_ok h2 hk)
      rw [a]
      rw [List.getElem?_append_left hk] at b
      exact b.symm
    · rw [List.getElem?_append_right (by omega), List.getElem?_drop]
      congr 1
      omega
theorem xrs_sk {ρ : List Int} {σ : List Nat} {o : Option xv} {r : Option Value} (h : xrs ρ σ o r) : xsk ρ σ o.toList r.toList := by
  cases o with
  | none =>
    cases r with
    | none => trivial
    | some v => cases h
  | some a =>
    cases r with
    | none => cases h
    | some v => exact ⟨h, trivial⟩
section XSO
variable {V : xEnv} {X : List Nat → zm_H → Prop} {W : zm_H → Nat} {og : Nat → Option zm_C} {MT : List (Nat × zm_M)} {CT : List xCo} {c : xCo} {E : List xEn} {R : Option xl} {ρ0 ρb : List Int} {σ0 σb τ0 : List Nat} {h0 : zm_H}
theorem xms_sub {a b : List (Nat × Nat)} (h : xsubm a b = true) (k f : Nat) (hk : xms a k f = true) : xms b k f = true := by
  unfold xms at hk
  obtain ⟨q, h1, h2⟩ := List.any_eq_true.mp hk
  simp only [Bool.and_eq_true] at h2
  have h3 := List.all_eq_true.mp h q h1
  rw [Nat.eq_of_beq_eq_true h2.1, Nat.eq_of_beq_eq_true h2.2] at h3
  exact h3
theorem xbif {α : Type} {b : Bool} {x y z : α} (h : (bif b then x else y) = z) : b = true ∧ x = z ∨ b = false ∧ y = z := by
  cases b with
  | true => exact Or.inl ⟨rfl, h⟩
  | false => exact Or.inr ⟨rfl, h⟩
/-- a call by a contract -/
theorem xby_ok {s : xS} {q : Nat} {args rest : List xv} {i : Jvm.ClassFile.Instr × Nat × zm_X} {mr mc : zm_M} {Q : Option Value → zm_H → Prop} {ρ : List Int} {σ τ : List Nat} {h : zm_H} {lc : zm_L} {sc ac rc : List Value} {frc : List (Nat × Nat × zm_L × List Value)} {d : Nat} (hP : zm_P s.1 = some mr) (hat : zm_at mr.2 s.2.1 = some i) (hmc : zm_P q = some mc) (hcat : Nat.ble (zm_cat ac) mc.1.2.2.1 = true) (hca : zm_call i.1 i.2.2 sc h = some (q, ac, rc)) (hd : d + frc.length = c.2.2.2.2.2) (hH : xHI V.1 V.2.1 τ h) (hX : X τ h) (hF : xF (xms c.2.2.2.1) τ0 h0 τ h) (hW : W h ≤ W h0 + s.2.2.2.2.1.2.2.2.2) (hD : xdok (ρb ++ ρ) (σb ++ σ) τ h s.2.2.2.2.1) (hl : xlk (ρb ++ ρ) (σb ++ σ) s.2.2.1 lc) (ha : xsk (ρb ++ ρ) (σb ++ σ) args ac) (hr : xsk (ρb ++ ρ) (σb ++ σ) rest rc) (hf : xfok (ρb ++ ρ) (σb ++ σ) s.2.2.2.2.2 frc) : ∀ {CT : List xCo}, (∀ c' ∈ CT, xV V X W og c') → ∀ {o : Option (List xS)} {l : List xS}, xby (V, MT, CT, c, E, R) s q args rest CT = some o → o = some l → (∀ t ∈ l, xgd V X W og c ρb σb τ0 h0 Q t) → zm_Y og d s.1 s.2.1 lc sc h (xQ og d frc Q) := by
  intro CT
  have main : ∀ {L : List xCo}, (∀ c' ∈ L, xV V X W og c') → ∀ {o : Option (List xS)} {l : List xS}, xby (V, MT, CT, c, E, R) s q args rest L = some o → o = some l → (∀ t ∈ l, xgd V X W og c ρb σb τ0 h0 Q t) → zm_Y og d s.1 s.2.1 lc sc h (xQ og d frc Q) := by
    intro L
    induction L with
    | nil => intro hV o l hx; cases hx
    | cons c' t ih =>
      intro hV o l hx ho hG
      simp only [xby] at hx
      cases h1 : Nat.beq c'.1 q with
      | false => rw [h1] at hx; exact ih (fun z hz => hV z (List.mem_cons_of_mem _ hz)) hx ho hG
      | true =>
        rw [h1] at hx
        simp only [cond_true] at hx
        have e1 : c'.1 = q := Nat.eq_of_beq_eq_true h1
        rcases xbif hx with ⟨h2, hx⟩ | ⟨-, hx⟩
        · simp only [Bool.and_eq_true] at h2
          obtain ⟨hin, hdp, hms⟩ := h2
          cases hx
          split at ho
          · rename_i l0 hl0
            cases ho
            obtain ⟨r1, s1, hD1, hg1⟩ := xprel_ok hH (M := c'.2.1.2.2.2.2.1) hD
            obtain ⟨ρc, σc, hb, hDc, hlc, -⟩ := xinst_ok hD1 (xargs_lk (xsk_mono (r := r1) (s := s1) ha)) (show xsk _ _ [] [] from trivial) hin
            have hdp := Nat.le_of_ble_eq_true hdp
            have hfl := xfok_len hf
            have hdp : c'.2.2.2.2.2 + 1 + s.2.2.2.2.2.length ≤ c.2.2.2.2.2 := hdp
            have hv := hV c' List.mem_cons_self ρc σc τ h (lv_args 0 ac) hH hX hDc hlc
            obtain ⟨d', rfl⟩ : ∃ d', d = d' + 1 := ⟨d - 1, by omega⟩
            refine zy_c hP hat hca hmc hcat ?_
            rw [← e1]
            refine (hv.deep (show c'.2.2.2.2.2 ≤ d' by omega)).mono (fun r h' hq => ?_)
            obtain ⟨τ', hH', hX', hF', hW', p, hp, r', s', hDp, hrs⟩ := hq
            obtain ⟨z, hz, hDz, hrz, hgz⟩ := xposts_ok hH hD1 hb hDc.1.2.symm hDc.2.1.1 hF' hDp hrs hp hl0
            have := hG _ (List.mem_map.mpr ⟨z, hz, rfl⟩)
            have eρ : ∀ a : List Int, ρb ++ ρ ++ r1 ++ a = ρb ++ (ρ ++ r1 ++ a) := fun a => by simp only [List.append_assoc]
            have eσ : ∀ a : List Nat, σb ++ σ ++ s1 ++ a = σb ++ (σ ++ s1 ++ a) := fun a => by simp only [List.append_assoc]
            rw [eρ, eσ] at hDz hrz
            refine this (ρ ++ r1 ++ r') (σ ++ s1 ++ s') τ' h' lc (r.toList ++ rc) frc (d' + 1) hd hH' hX' (xF_trans hF (xF_weak hF' (xms_sub hms))) ?_ hDz ?_ ?_ ?_
            · show W h' ≤ W h0 + z.1.2.2.2.2
              rw [hgz, hg1]
              omega
            · rw [← eρ, ← eσ]; exact xlk_mono (xlk_mono hl)
            · refine xsk_app ?_ (by rw [← eρ, ← eσ]; exact xsk_mono (xsk_mono hr))
              exact xrs_sk hrz
            · rw [← eρ, ← eσ]; exact xfok_mono (xfok_mono hf)
          · cases ho
        · exact ih (fun z hz => hV z (List.mem_cons_of_mem _ hz)) hx ho hG
  intro hV o l hx ho hG
  exact main hV hx ho hG
end XSO
