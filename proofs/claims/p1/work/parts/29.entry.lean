/-! The world at the law's entry -/
theorem zs_choose {α : Type} {key : α → Nat} {Pq : α → Nat → Prop} : ∀ l : List α, (l.map key).Nodup → (∀ q ∈ l, ∃ a, Pq q a) → ∃ f : Nat → Nat, ∀ q ∈ l, Pq q (f (key q))
  | [], _, _ => ⟨fun _ => 0, fun q h => by cases h⟩
  | q0 :: t, hn, h => by
    rw [List.map_cons, List.nodup_cons] at hn
    obtain ⟨f, hf⟩ := zs_choose t hn.2 (fun q hq => h q (List.mem_cons_of_mem _ hq))
    obtain ⟨a, ha⟩ := h q0 List.mem_cons_self
    refine ⟨fun n => if n = key q0 then a else f n, fun q hq => ?_⟩
    rcases List.mem_cons.mp hq with e | hq'
    · subst e
      show Pq q (if key q = key q then a else f (key q))
      rw [if_pos rfl]
      exact ha
    · have hne : key q ≠ key q0 := fun e => hn.1 (e ▸ List.mem_map_of_mem hq')
      show Pq q (if key q = key q0 then a else f (key q))
      rw [if_neg hne]
      exact hf q hq'
theorem zs_inst : ∀ q ∈ zm_cl, Cond.instantiable q.1 q.2.2 ∈ lw_tbl := by decide +kernel
theorem zs_W {args : Array Value} {s : State} (hti : ∀ w ∈ lw_tbl, w.before args s = true) : ∀ w ∈ zm_W, w.before args s = true := fun w hw => hti w (List.mem_filter.mp hw).1
theorem zs_good : ∀ w ∈ zm_W, goodWord w = true := fun _ hw => (List.mem_filter.mp hw).2
theorem zs_K {args : Array Value} {s : State} (hti : ∀ w ∈ lw_tbl, w.before args s = true) : ∃ D : va_G, va_K D zm_cl [] s := by
  have h : ∀ k : Nat, ∃ (cC : ClassId) (iS : Nat → Nat), ∀ q : vw_C, zm_cl[k]? = some q → u_Kn s q.1 q.2.1 q.2.2 cC iS := by
    intro k
    cases hk : zm_cl[k]? with
    | none => exact ⟨0, fun _ => 0, fun q h => by cases h⟩
    | some q =>
      obtain ⟨c, i, h⟩ := u_known (zs_W hti) (zm_T0_ok k q hk).1 (hti _ (zs_inst q (List.mem_of_getElem? hk)))
      exact ⟨c, i, fun q' h' => by cases h'; exact h⟩
  exact ⟨(fun k => Classical.choose (h k), fun k => Classical.choose (Classical.choose_spec (h k))), fun c q hq => Classical.choose_spec (Classical.choose_spec (h c)) q hq, fun k q h => by simp at h⟩
theorem zs_ao {s : State} {c : ClassId} {ty : FieldType} {k : Class} {comp : ClassId} (h1 : s.vm.classes[c]? = some k) (h2 : k.kind = .array comp ty) : ArrOfT s c ty := fun _ _ => ⟨fun _ h => (by cases h), k, h1, comp, h2⟩
theorem zs_A {args : Array Value} {s : State} (hti : ∀ w ∈ lw_tbl, w.before args s = true) : ∃ A : Nat → ClassId, ∀ t : Nat, t < 8 → ArrOfT s (A t) (zm_ty t) ∧ va_RA s (A t) (zm_ty t) := by
  have h : ∀ t : Nat, ∃ c : ClassId, t < 8 → ArrOfT s c (zm_ty t) ∧ va_RA s c (zm_ty t) := by
    intro t
    rcases (show t = 0 ∨ t = 1 ∨ t = 2 ∨ t = 3 ∨ t = 4 ∨ t = 5 ∨ t = 6 ∨ t = 7 ∨ ¬ t < 8 by omega) with rfl | rfl | rfl | rfl | rfl | rfl | rfl | rfl | h
    · obtain ⟨c, k, comp, h1, h2, h3⟩ := Cond.arrayClass_spec (hti (Cond.arrayClass .int) (by decide +kernel))
      exact ⟨c, fun _ => ⟨zs_ao h2 h3, h1⟩⟩
    · obtain ⟨c, k, comp, h1, h2, h3⟩ := Cond.arrayClass_spec (hti (Cond.arrayClass .long) (by decide +kernel))
      exact ⟨c, fun _ => ⟨zs_ao h2 h3, h1⟩⟩
    · obtain ⟨c, k, comp, h1, h2, h3⟩ := Cond.arrayClass_spec (hti (Cond.arrayClass .byte) (by decide +kernel))
      exact ⟨c, fun _ => ⟨zs_ao h2 h3, h1⟩⟩
    · obtain ⟨c, k, comp, h1, h2, h3⟩ := Cond.arrayClass_spec (hti (Cond.arrayClass .boolean) (by decide +kernel))
      exact ⟨c, fun _ => ⟨zs_ao h2 h3, h1⟩⟩
    · obtain ⟨comp, c, k, h1, h2, h3, h4, h5⟩ := Cond.arrayOver_spec (hti (Cond.arrayOver (.object "WindowRoll$House")) (by decide +kernel))
      exact ⟨c, fun _ => ⟨zs_ao h3 h4, k, comp, h3, h4, h1, h5⟩⟩
    · obtain ⟨comp, c, k, h1, h2, h3, h4, h5⟩ := Cond.arrayOver_spec (hti (Cond.arrayOver (.object "WindowRoll$Text")) (by decide +kernel))
      exact ⟨c, fun _ => ⟨zs_ao h3 h4, k, comp, h3, h4, h1, h5⟩⟩
    · obtain ⟨comp, c, k, h1, h2, h3, h4, h5⟩ := Cond.arrayOver_spec (hti (Cond.arrayOver (.object "WindowRoll$Opening")) (by decide +kernel))
      exact ⟨c, fun _ => ⟨zs_ao h3 h4, k, comp, h3, h4, h1, h5⟩⟩
    · obtain ⟨comp, c, k, h1, h2, h3, h4, h5⟩ := arrayOverA_spec (hti (Cond.arrayOver (.array .long)) (by decide +kernel))
      exact ⟨c, fun _ => ⟨zs_ao h3 h4, h5⟩⟩
    · exact ⟨0, fun g => absurd g h⟩
  exact ⟨fun t => Classical.choose (h t), fun t => Classical.choose_spec (h t)⟩
theorem zs_st1 : ∀ q ∈ zm_St, Cond.exactly (Term.static q.1 q.2.1 q.2.2.1) (if q.2.2.2 = 1 then "[LWindowRoll$Word;" else "WindowRoll$Word") ∈ flatC (Jvm.Cond.and given_1 narrow_1) := by decide +kernel
theorem zs_st2 : ∀ q ∈ zm_St, Cond.laysStatic q.1 q.2.1 q.2.2.1 ∈ lw_tbl ∧ Cond.initialized q.1 ∈ lw_tbl ∧ 1 ≤ q.2.2.2 ∧ q.2.2.2 ≤ 37 := by decide +kernel
theorem zs_st3 : (zm_St.map (fun q => q.2.2.2)).Nodup := by decide +kernel
theorem zs_sr1 : ∀ q ∈ zm_S, Cond.exactly (Term.string q.1 q.2.1) "java/lang/String" ∈ flatC (Jvm.Cond.and given_1 narrow_1) := by decide +kernel
theorem zs_sr2 : ∀ q ∈ zm_S, Cond.stringRef q.1 q.2.1 q.2.2.1 ∈ lw_tbl ∧ 38 ≤ q.2.2.2 := by decide +kernel
theorem zs_sr3 : (zm_S.map (fun q => q.2.2.2)).Nodup := by decide +kernel
theorem zs_nw : ∀ w ∈ zm_N, Cond.methodLinkNest w.1 w.2.1 w.2.2.1 w.2.2.2 ∈ lw_tbl := by decide +kernel
def zs_og (L : Nat) (xs : Nat → Int32) : Nat → Option zm_C := fun j => if j = 0 then some (.inl (0, L, .inl xs)) else none
theorem zs_G {s : State} {b L : Nat} {xs : Nat → Int32} (hti : ∀ w ∈ lw_tbl, w.before #[Value.ref b] s = true) (hX : va_X b L xs s s.heap) (hgv : (Jvm.Cond.and given_1 narrow_1).before #[Value.ref b] s = true) : ∃ E : zm_E, E.2.2.2 = s.heap ∧ E.2.2.1 0 = b ∧ zm_G E zm_S zm_St zm_N (zs_og L xs) s := by
  obtain ⟨D, hK⟩ := zs_K hti
  obtain ⟨A, hA⟩ := zs_A hti
  have hfl := flat_of_before _ hgv
  obtain ⟨f, hf⟩ := zs_choose (key := fun q : String × String × String × Nat => q.2.2.2) (Pq := fun q a => (Term.static q.1 q.2.1 q.2.2.1).eval #[Value.ref b] s none [] s = some (.ref a)) zm_St zs_st3 (fun q hq => by
    obtain ⟨a, c, cell, k, h1, -⟩ := Cond.exactly_spec (hfl _ (zs_st1 q hq))
    exact ⟨a, h1⟩)
  obtain ⟨g, hg⟩ := zs_choose (key := fun q : String × Nat × String × Nat => q.2.2.2) (Pq := fun q a => (Term.string q.1 q.2.1).eval #[Value.ref b] s none [] s = some (.ref a)) zm_S zs_sr3 (fun q hq => by
    obtain ⟨a, c, cell, k, h1, -⟩ := Cond.exactly_spec (hfl _ (zs_sr1 q hq))
    exact ⟨a, h1⟩)
  refine ⟨(D, A, fun n => if n = 0 then b else if n ≤ 37 then f n else g n, s.heap), rfl, rfl, hK, hA, ⟨fun t h4 h7 C hC => ?_, ?_⟩, fun w hw => va_Nw.of rfl (hti _ (zs_nw w hw)), fun q hq => ?_, fun q hq => ?_, fun j t n k hj => ?_⟩
  · rcases (show t = 4 ∨ t = 5 ∨ t = 6 by omega) with rfl | rfl | rfl
    · have hC : FieldType.object "WindowRoll$House" = .object C := hC
      cases hC
      exact va_AO.of (hti (Cond.arrayOver (.object "WindowRoll$House")) (by decide +kernel))
    · have hC : FieldType.object "WindowRoll$Text" = .object C := hC
      cases hC
      exact va_AO.of (hti (Cond.arrayOver (.object "WindowRoll$Text")) (by decide +kernel))
    · have hC : FieldType.object "WindowRoll$Opening" = .object C := hC
      cases hC
      exact va_AO.of (hti (Cond.arrayOver (.object "WindowRoll$Opening")) (by decide +kernel))
  · exact hti (Cond.arrayOver (.array .long)) (by decide +kernel)
  · have h2 := (zs_sr2 q hq).2
    have e : (if q.2.2.2 = 0 then b else if q.2.2.2 ≤ 37 then f q.2.2.2 else g q.2.2.2) = g q.2.2.2 := by rw [if_neg (by omega), if_neg (by omega)]
    show vk_R q.1 q.2.1 q.2.2.1 (if q.2.2.2 = 0 then b else if q.2.2.2 ≤ 37 then f q.2.2.2 else g q.2.2.2) s
    rw [e]
    exact vk_R.of (hti _ (zs_sr2 q hq).1) (hg q hq)
  · obtain ⟨h1, h2, h3, h4⟩ := zs_st2 q hq
    have e : (if q.2.2.2 = 0 then b else if q.2.2.2 ≤ 37 then f q.2.2.2 else g q.2.2.2) = f q.2.2.2 := by rw [if_neg (by omega), if_pos h4]
    show va_Z q.1 q.2.1 q.2.2.1 (.ref (if q.2.2.2 = 0 then b else if q.2.2.2 ≤ 37 then f q.2.2.2 else g q.2.2.2)) (fun a => s.heap.size ≤ a) s s.heap
    rw [e]
    exact va_Zref (hti _ h1) (hti _ h2) (hf q hq) (fun a ha => Nat.not_le.mpr ha)
  · by_cases h0 : j = 0
    · subst h0
      have hj : some (Sum.inl (0, L, Sum.inl xs)) = some (Sum.inl (t, n, k) : zm_C) := hj
      cases hj
      obtain ⟨scr, a1, a2, a3, a4, a5⟩ := hX
      exact ⟨by decide, scr, a1, a2, a3, a4, fun i hi => a5 i hi⟩
    · simp [zs_og, h0] at hj
