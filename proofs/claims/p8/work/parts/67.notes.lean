/-! By hand: the three contracts of note -/
theorem xv_note60 {og : Nat → Option zm_C} : xV xVV xX xW og xc_60 := by
  refine xv_note rfl rfl (fun ρ σ lc τ h hD hl => ?_)
  have l0 := hl _ List.mem_cons_self
  have l1 := hl _ (List.mem_cons_of_mem _ List.mem_cons_self)
  have l2 := hl _ (List.mem_cons_of_mem _ (List.mem_cons_of_mem _ List.mem_cons_self))
  have l3 := hl _ (List.mem_cons_of_mem _ (List.mem_cons_of_mem _ (List.mem_cons_of_mem _ List.mem_cons_self)))
  obtain ⟨v0, g0, rfl⟩ := l0
  obtain ⟨v1, g1, w, rfl, e1⟩ := l1
  obtain ⟨v2, g2, p, rfl, e2⟩ := l2
  obtain ⟨v3, g3, t, rfl, e3⟩ := l3
  obtain ⟨ad, v, m1, m2, n, rfl, e4⟩ := hD.2.2.1 _ List.mem_cons_self
  cases m1
  have c_w : w.toInt = 0 := by
    have q9 : xe ρ (xk 0) = some w.toInt := e1
    rw [xe_k] at q9
    exact (Option.some.inj q9).symm
  have c_t : t.toInt = 0 := by
    have q9 : xe ρ (xk 0) = some t.toInt := e3
    rw [xe_k] at q9
    exact (Option.some.inj q9).symm
  obtain ⟨x0, y0, z0, u0⟩ := hD.1.1.1 _ (List.mem_cons_self)
  have q0 : xe ρ (xsym 0) = some x0 := xe_sym y0
  have r0 : p.toInt = x0 := by
    have q9 : xe ρ (xsym 0) = some p.toInt := e2
    rw [q0] at q9
    exact (Option.some.inj q9).symm
  have z0 : (0 : Int) ≤ x0 := z0
  have u0 : x0 ≤ (300 : Int) := u0
  obtain ⟨x1, y1, z1, u1⟩ := hD.1.1.1 _ (List.mem_cons_of_mem _ (List.mem_cons_self))
  have q1 : xe ρ (xsym 1) = some x1 := xe_sym y1
  have r1 : n.toInt = x1 := by
    have q9 : xe ρ (xsym 1) = some n.toInt := e4
    rw [q1] at q9
    exact (Option.some.inj q9).symm
  have z1 : (0 : Int) ≤ x1 := z1
  have u1 : x1 ≤ (300 : Int) := u1
  refine ⟨w, p, t, n, ⟨g0, g1, g2, g3⟩, m2, ⟨by omega, by omega⟩, ⟨by omega, by omega⟩, by omega, ⟨by omega, by omega⟩, ⟨by omega, by omega⟩, by omega, by omega, fun τ' h' _ hq => ?_⟩
  refine ⟨_, List.mem_cons_self, rfl, ?_⟩
  have hno : ∀ {α : Type} {P : α → Prop}, ∀ q ∈ ([] : List α), P q := fun q hq => by cases hq
  refine ⟨⟨⟨hno, hno⟩, hD.1.2⟩, ⟨hD.2.1.1, fun k kd hk => ?_⟩, fun q hq2 => ?_, hno⟩
  · have hk : ([] : List Nat)[k]? = some kd := hk
    simp at hk
  have hq2 := List.mem_singleton.mp hq2
  subst hq2
  refine ⟨2, _, rfl, hq, n + 1, rfl, ?_⟩
  have e5 : (n + 1).toInt = n.toInt + 1 := by
    rw [Int32.toInt_add]
    have c1 : xI32a = -2147483648 := rfl
    have c2 : xI32b = 2147483647 := rfl
    exact xb_bm32 (by show xI32a ≤ n.toInt + 1; omega) (by show n.toInt + 1 ≤ xI32b; omega)
  rw [e5]
  have := xe_pl 1 e4
  exact this
theorem xv_note61 {og : Nat → Option zm_C} : xV xVV xX xW og xc_61 := by
  refine xv_note rfl rfl (fun ρ σ lc τ h hD hl => ?_)
  have l0 := hl _ List.mem_cons_self
  have l1 := hl _ (List.mem_cons_of_mem _ List.mem_cons_self)
  have l2 := hl _ (List.mem_cons_of_mem _ (List.mem_cons_of_mem _ List.mem_cons_self))
  have l3 := hl _ (List.mem_cons_of_mem _ (List.mem_cons_of_mem _ (List.mem_cons_of_mem _ List.mem_cons_self)))
  obtain ⟨v0, g0, rfl⟩ := l0
  obtain ⟨v1, g1, w, rfl, e1⟩ := l1
  obtain ⟨v2, g2, p, rfl, e2⟩ := l2
  obtain ⟨v3, g3, t, rfl, e3⟩ := l3
  obtain ⟨ad, v, m1, m2, n, rfl, e4⟩ := hD.2.2.1 _ List.mem_cons_self
  cases m1
  have c_w : w.toInt = 1 := by
    have q9 : xe ρ (xk 1) = some w.toInt := e1
    rw [xe_k] at q9
    exact (Option.some.inj q9).symm
  obtain ⟨x0, y0, z0, u0⟩ := hD.1.1.1 _ (List.mem_cons_self)
  have q0 : xe ρ (xsym 0) = some x0 := xe_sym y0
  have r0 : p.toInt = x0 := by
    have q9 : xe ρ (xsym 0) = some p.toInt := e2
    rw [q0] at q9
    exact (Option.some.inj q9).symm
  have z0 : (0 : Int) ≤ x0 := z0
  have u0 : x0 ≤ (300 : Int) := u0
  obtain ⟨x1, y1, z1, u1⟩ := hD.1.1.1 _ (List.mem_cons_of_mem _ (List.mem_cons_self))
  have q1 : xe ρ (xsym 1) = some x1 := xe_sym y1
  have r1 : t.toInt = x1 := by
    have q9 : xe ρ (xsym 1) = some t.toInt := e3
    rw [q1] at q9
    exact (Option.some.inj q9).symm
  have z1 : (-1 : Int) ≤ x1 := z1
  have u1 : x1 ≤ (35 : Int) := u1
  obtain ⟨x2, y2, z2, u2⟩ := hD.1.1.1 _ (List.mem_cons_of_mem _ (List.mem_cons_of_mem _ (List.mem_cons_self)))
  have q2 : xe ρ (xsym 2) = some x2 := xe_sym y2
  have r2 : n.toInt = x2 := by
    have q9 : xe ρ (xsym 2) = some n.toInt := e4
    rw [q2] at q9
    exact (Option.some.inj q9).symm
  have z2 : (0 : Int) ≤ x2 := z2
  have u2 : x2 ≤ (299 : Int) := u2
  refine ⟨w, p, t, n, ⟨g0, g1, g2, g3⟩, m2, ⟨by omega, by omega⟩, ⟨by omega, by omega⟩, by omega, ⟨by omega, by omega⟩, ⟨by omega, by omega⟩, by omega, by omega, fun τ' h' _ hq => ?_⟩
  refine ⟨_, List.mem_cons_self, rfl, ?_⟩
  have hno : ∀ {α : Type} {P : α → Prop}, ∀ q ∈ ([] : List α), P q := fun q hq => by cases hq
  refine ⟨⟨⟨hno, hno⟩, hD.1.2⟩, ⟨hD.2.1.1, fun k kd hk => ?_⟩, fun q hq2 => ?_, hno⟩
  · have hk : ([] : List Nat)[k]? = some kd := hk
    simp at hk
  have hq2 := List.mem_singleton.mp hq2
  subst hq2
  refine ⟨2, _, rfl, hq, n + 1, rfl, ?_⟩
  have e5 : (n + 1).toInt = n.toInt + 1 := by
    rw [Int32.toInt_add]
    have c1 : xI32a = -2147483648 := rfl
    have c2 : xI32b = 2147483647 := rfl
    exact xb_bm32 (by show xI32a ≤ n.toInt + 1; omega) (by show n.toInt + 1 ≤ xI32b; omega)
  rw [e5]
  have := xe_pl 1 e4
  exact this
theorem xv_note62 {og : Nat → Option zm_C} : xV xVV xX xW og xc_62 := by
  refine xv_note rfl rfl (fun ρ σ lc τ h hD hl => ?_)
  have l0 := hl _ List.mem_cons_self
  have l1 := hl _ (List.mem_cons_of_mem _ List.mem_cons_self)
  have l2 := hl _ (List.mem_cons_of_mem _ (List.mem_cons_of_mem _ List.mem_cons_self))
  have l3 := hl _ (List.mem_cons_of_mem _ (List.mem_cons_of_mem _ (List.mem_cons_of_mem _ List.mem_cons_self)))
  obtain ⟨v0, g0, rfl⟩ := l0
  obtain ⟨v1, g1, w, rfl, e1⟩ := l1
  obtain ⟨v2, g2, p, rfl, e2⟩ := l2
  obtain ⟨v3, g3, t, rfl, e3⟩ := l3
  obtain ⟨ad, v, m1, m2, n, rfl, e4⟩ := hD.2.2.1 _ List.mem_cons_self
  cases m1
  obtain ⟨x0, y0, z0, u0⟩ := hD.1.1.1 _ (List.mem_cons_self)
  have q0 : xe ρ (xsym 0) = some x0 := xe_sym y0
  have r0 : w.toInt = x0 := by
    have q9 : xe ρ (xsym 0) = some w.toInt := e1
    rw [q0] at q9
    exact (Option.some.inj q9).symm
  have z0 : (2 : Int) ≤ x0 := z0
  have u0 : x0 ≤ (255 : Int) := u0
  obtain ⟨x1, y1, z1, u1⟩ := hD.1.1.1 _ (List.mem_cons_of_mem _ (List.mem_cons_self))
  have q1 : xe ρ (xsym 1) = some x1 := xe_sym y1
  have r1 : p.toInt = x1 := by
    have q9 : xe ρ (xsym 1) = some p.toInt := e2
    rw [q1] at q9
    exact (Option.some.inj q9).symm
  have z1 : (0 : Int) ≤ x1 := z1
  have u1 : x1 ≤ (300 : Int) := u1
  obtain ⟨x2, y2, z2, u2⟩ := hD.1.1.1 _ (List.mem_cons_of_mem _ (List.mem_cons_of_mem _ (List.mem_cons_self)))
  have q2 : xe ρ (xsym 2) = some x2 := xe_sym y2
  have r2 : t.toInt = x2 := by
    have q9 : xe ρ (xsym 2) = some t.toInt := e3
    rw [q2] at q9
    exact (Option.some.inj q9).symm
  have z2 : (0 : Int) ≤ x2 := z2
  have u2 : x2 ≤ (10000 : Int) := u2
  obtain ⟨x3, y3, z3, u3⟩ := hD.1.1.1 _ (List.mem_cons_of_mem _ (List.mem_cons_of_mem _ (List.mem_cons_of_mem _ (List.mem_cons_self))))
  have q3 : xe ρ (xsym 3) = some x3 := xe_sym y3
  have r3 : n.toInt = x3 := by
    have q9 : xe ρ (xsym 3) = some n.toInt := e4
    rw [q3] at q9
    exact (Option.some.inj q9).symm
  have z3 : (0 : Int) ≤ x3 := z3
  have u3 : x3 ≤ (299 : Int) := u3
  refine ⟨w, p, t, n, ⟨g0, g1, g2, g3⟩, m2, ⟨by omega, by omega⟩, ⟨by omega, by omega⟩, by omega, ⟨by omega, by omega⟩, ⟨by omega, by omega⟩, by omega, by omega, fun τ' h' _ hq => ?_⟩
  refine ⟨_, List.mem_cons_self, rfl, ?_⟩
  have hno : ∀ {α : Type} {P : α → Prop}, ∀ q ∈ ([] : List α), P q := fun q hq => by cases hq
  refine ⟨⟨⟨hno, hno⟩, hD.1.2⟩, ⟨hD.2.1.1, fun k kd hk => ?_⟩, fun q hq2 => ?_, hno⟩
  · have hk : ([] : List Nat)[k]? = some kd := hk
    simp at hk
  have hq2 := List.mem_singleton.mp hq2
  subst hq2
  refine ⟨2, _, rfl, hq, n + 1, rfl, ?_⟩
  have e5 : (n + 1).toInt = n.toInt + 1 := by
    rw [Int32.toInt_add]
    have c1 : xI32a = -2147483648 := rfl
    have c2 : xI32b = 2147483647 := rfl
    exact xb_bm32 (by show xI32a ≤ n.toInt + 1; omega) (by show n.toInt + 1 ≤ xI32b; omega)
  rw [e5]
  have := xe_pl 1 e4
  exact this
