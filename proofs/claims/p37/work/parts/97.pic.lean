/-! Pictures: what some places hold, on either side -/
def xrd (h : zm_H) (p : Nat × Nat × Nat) : Option Value := match p.1 with
  | 0 => xfd h p.2.1 p.2.2
  | _ => xar h p.2.1 p.2.2
def xpc (h : zm_H) (l : List ((Nat × Nat × Nat) × Int32)) : Prop := ∀ q ∈ l, xrd h q.1 = some (.int q.2)
def xkeep (ms : List (Nat × Nat)) (p : Nat × Nat × Nat) : Bool := xSG p.2.1 && !(xms ms p.2.1 (match p.1 with
  | 0 => p.2.2
  | _ => 0))
section XPIC
variable {τ τ' : List Nat} {h h' : zm_H} {ms : List (Nat × Nat)}
theorem xrd_F (hH : xHI xKT xSG τ h) (hf : xF (xms ms) τ h τ' h') {p : Nat × Nat × Nat} (hk : xkeep ms p = true) {v : Value} (hr : xrd h p = some v) : xrd h' p = some v := by
  obtain ⟨t, a, j⟩ := p
  simp only [xkeep, Bool.and_eq_true, Bool.not_eq_true'] at hk
  have ht := hH.2.2 a hk.1
  unfold xrd at hr ⊢
  split at hr
  · rename_i h2
    have h2 : t = 0 := h2
    subst h2
    exact hf.2.1 a a j v ht hk.2 hr
  · rename_i h2
    have hms : xms ms a 0 = false := by
      have h3 := hk.2
      cases t with
      | zero => exact absurd rfl h2
      | succ t => exact h3
    have hr : xar h a j = some v := hr
    show xar h' a j = some v
    unfold xar at hr ⊢
    split at hr
    · rename_i c hc
      rw [hf.2.2 a a c ht hms hc]
      exact hr
    · cases hr
theorem xpc_F (hH : xHI xKT xSG τ h) (hf : xF (xms ms) τ h τ' h') {l : List ((Nat × Nat × Nat) × Int32)} (hk : l.all (fun q => xkeep ms q.1) = true) (hp : xpc h l) : xpc h' l := fun q hq => xrd_F hH hf (List.all_eq_true.mp hk q hq) (hp q hq)
theorem xe_c {ρ : List Int} {c x : Int} (h : x = c) : xe ρ (c, []) = some x := by subst h; exact xe_k x
theorem xma_g {ρ : List Int} {σ : List Nat} {m : xMA} {a j : Nat} {e : xl} {v : Int32} (hm : xmao ρ σ h m) (hq : ((3, xk 0, a), (.ofNat j, []), (0, e, 0)) ∈ m) (he : xe ρ e = some v.toInt) : xar h a j = some (.int v) := by
  obtain ⟨ad, j', w, h1, h2, h3, i, rfl, h4⟩ := hm _ hq
  have h1 : some a = some ad := h1
  cases h1
  have h2 : xe ρ (xk (.ofNat j)) = some (j' : Int) := h2
  rw [xe_k] at h2
  have e1 : j = j' := Int.ofNat.inj (Option.some.inj h2)
  subst e1
  have h4 : xe ρ e = some i.toInt := h4
  rw [he] at h4
  rw [h3, Int32.toInt_inj.mp (Option.some.inj h4)]
theorem xmf_g {ρ : List Int} {σ : List Nat} {m : xM} {a f : Nat} {e : xl} {v : Int32} (hm : xmo ρ σ h m) (hq : ((3, xk 0, a), f, (0, e, 0)) ∈ m) (he : xe ρ e = some v.toInt) : xfd h a f = some (.int v) := by
  obtain ⟨ad, w, h1, h3, i, rfl, h4⟩ := hm _ hq
  have h1 : some a = some ad := h1
  cases h1
  have h4 : xe ρ e = some i.toInt := h4
  rw [he] at h4
  rw [h3, Int32.toInt_inj.mp (Option.some.inj h4)]
theorem xB_of {c : xCo} {e : xl} {D : xD} {ρ : List Int} {r : Option Value} {x : Int32} (hc : c.2.2.1 = [(some (0, e, 0), D)]) (hq : xQc xVV xX xW c ρ [] τ h r h') : ∃ (τ' : List Nat) (r' : List Int) (s' : List Nat) (i : Int32), r = some (.int i) ∧ xe (ρ ++ r') e = some i.toInt ∧ xHI xKT xSG τ' h' ∧ xX τ' h' ∧ xF (xms c.2.2.2.1) τ h τ' h' ∧ xW h' ≤ xW h + c.2.2.2.2.1 ∧ xmo (ρ ++ r') s' h' D.2.2.1 ∧ xmao (ρ ++ r') s' h' D.2.2.2.1 := by
  obtain ⟨τ', h1, h2, h3, h4, p, hp, r', s', h5, h6⟩ := hq
  rw [hc] at hp
  have hp := List.mem_singleton.mp hp
  subst hp
  cases r with
  | none => cases h6
  | some w =>
    obtain ⟨i, rfl, h7⟩ := h6
    exact ⟨τ', r', [] ++ s', i, rfl, h7, h1, h2, h3, h4, h5.2.2.1, h5.2.2.2⟩
/-- a call whose answer and whose picture are known -/
def xOB (τ : List Nat) (h : zm_H) (x : Int32) (g : Nat) (L : List ((Nat × Nat × Nat) × Int32)) (O : (Nat → Nat → Int32) → List ((Nat × Nat × Nat) × Int32)) (r : Option Value) (h' : zm_H) : Prop := r = some (.int x) ∧ ∃ τ', xHI xKT xSG τ' h' ∧ xX τ' h' ∧ xW h' ≤ xW h + g ∧ xpc h' L ∧ ∀ v, xpc h (O v) → xpc h' (O v)
theorem xOB_mk {c : xCo} {e : xl} {D : xD} {ρ : List Int} {r : Option Value} {x : Int32} {g : Nat} {L : List ((Nat × Nat × Nat) × Int32)} {O : (Nat → Nat → Int32) → List ((Nat × Nat × Nat) × Int32)} (hH : xHI xKT xSG τ h) (hc : c.2.2.1 = [(some (0, e, 0), D)]) (hg : c.2.2.2.2.1 = g) (hq : xQc xVV xX xW c ρ [] τ h r h') (he : ∀ r', xe (ρ ++ r') e = some x.toInt) (hL : ∀ (τ' : List Nat) (r' : List Int) (s' : List Nat), xF (xms c.2.2.2.1) τ h τ' h' → xmo (ρ ++ r') s' h' D.2.2.1 → xmao (ρ ++ r') s' h' D.2.2.2.1 → xpc h' L) (hO : ∀ v, (O v).all (fun q => xkeep c.2.2.2.1 q.1) = true) : xOB τ h x g L O r h' := by
  obtain ⟨τ', r', s', i, rfl, h1, h2, h3, h4, h5, h6, h7⟩ := xB_of (x := x) hc hq
  rw [he r'] at h1
  rw [hg] at h5
  rw [← Int32.toInt_inj.mp (Option.some.inj h1)]
  exact ⟨rfl, τ', h2, h3, h5, hL τ' r' s' h4 h6 h7, fun v hv => xpc_F hH h4 (hO v) hv⟩
end XPIC
