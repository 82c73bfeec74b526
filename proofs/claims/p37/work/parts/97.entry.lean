/-! The world at the law's entry -/
theorem zs_choose {α : Type} {key : α → Nat} {Pq : α → Nat → Prop} : ∀ l : List α, (l.map key).Nodup → (∀ q ∈ l, ∃ a, Pq q a) → ∃ f : Nat → Nat, ∀ q ∈ l, Pq q (f (key q))
  | [], _, _ => ⟨fun _ => 0, fun q h => by cases h⟩
  | q0 :: t, hn, h => by
    rw [List.map_cons, List.nodup_cons] at hn
    obtain ⟨f, hf⟩ := zs_choose t hn.2 (fun q hq => h q (List.mem_cons_of_mem _ hq))
    obtain ⟨a, ha⟩ := h q0 List.mem_cons_self
    refine ⟨fun n => if n = key q0 then a else f n, fun q hq => ?_⟩
    rcases List.mem_cons.mp hq with e | hq'
    · subst e
      show Pq q (if key q = key q then a else f (key q))
      rw [if_pos rfl]
      exact ha
    · have hne : key q ≠ key q0 := fun e => hn.1 (e ▸ List.mem_map_of_mem hq')
      show Pq q (if key q = key q0 then a else f (key q))
      rw [if_neg hne]
      exact hf q hq'
theorem zs_inst : ∀ q ∈ zm_cl, Cond.instantiable q.1 q.2.2 ∈ lw_tbl := by decide +kernel
theorem zs_W {args : Array Value} {s : State} (hti : ∀ w ∈ lw_tbl, w.before args s = true) : ∀ w ∈ zm_W, w.before args s = true := fun w hw => hti w (List.mem_filter.mp hw).1
theorem zs_good : ∀ w ∈ zm_W, goodWord w = true := fun _ hw => (List.mem_filter.mp hw).2
theorem zs_K {args : Array Value} {s : State} (hti : ∀ w ∈ lw_tbl, w.before args s = true) : ∃ D : va_G, va_K D zm_cl [] s := by
  have h : ∀ k : Nat, ∃ (cC : ClassId) (iS : Nat → Nat), ∀ q : vw_C, zm_cl[k]? = some q → u_Kn s q.1 q.2.1 q.2.2 cC iS := by
    intro k
    cases hk : zm_cl[k]? with
    | none => exact ⟨0, fun _ => 0, fun q h => by cases h⟩
    | some q =>
      obtain ⟨c, i, h⟩ := u_known (zs_W hti) (zm_T0_ok k q hk).1 (hti _ (zs_inst q (List.mem_of_getElem? hk)))
      exact ⟨c, i, fun q' h' => by cases h'; exact h⟩
  exact ⟨(fun k => Classical.choose (h k), fun k => Classical.choose (Classical.choose_spec (h k))), fun c q hq => Classical.choose_spec (Classical.choose_spec (h c)) q hq, fun k q h => by simp at h⟩
theorem zs_ao {s : State} {c : ClassId} {ty : FieldType} {k : Class} {comp : ClassId} (h1 : s.vm.classes[c]? = some k) (h2 : k.kind = .array comp ty) : ArrOfT s c ty := fun _ _ => ⟨fun _ h => (by cases h), k, h1, comp, h2⟩
theorem zs_A {args : Array Value} {s : State} (hti : ∀ w ∈ lw_tbl, w.before args s = true) : ∃ A : Nat → ClassId, ∀ t : Nat, t < 8 → ArrOfT s (A t) (zm_ty t) ∧ va_RA s (A t) (zm_ty t) := by
  have h : ∀ t : Nat, ∃ c : ClassId, t < 8 → ArrOfT s c (zm_ty t) ∧ va_RA s c (zm_ty t) := by
    intro t
    rcases (show t = 0 ∨ t = 1 ∨ t = 2 ∨ t = 3 ∨ t = 4 ∨ t = 5 ∨ t = 6 ∨ t = 7 ∨ ¬ t < 8 by omega) with rfl | rfl | rfl | rfl | rfl | rfl | rfl | rfl | h
    · obtain ⟨c, k, comp, h1, h2, h3⟩ := Cond.arrayClass_spec (hti (Cond.arrayClass .int) (by decide +kernel))
      exact ⟨c, fun _ => ⟨zs_ao h2 h3, h1⟩⟩
    · obtain ⟨c, k, comp, h1, h2, h3⟩ := Cond.arrayClass_spec (hti (Cond.arrayClass .long) (by decide +kernel))
      exact ⟨c, fun _ => ⟨zs_ao h2 h3, h1⟩⟩
    · obtain ⟨c, k, comp, h1, h2, h3⟩ := Cond.arrayClass_spec (hti (Cond.arrayClass .byte) (by decide +kernel))
      exact ⟨c, fun _ => ⟨zs_ao h2 h3, h1⟩⟩
    · obtain ⟨c, k, comp, h1, h2, h3⟩ := Cond.arrayClass_spec (hti (Cond.arrayClass .boolean) (by decide +kernel))
      exact ⟨c, fun _ => ⟨zs_ao h2 h3, h1⟩⟩
    · obtain ⟨comp, c, k, h1, h2, h3, h4, h5⟩ := Cond.arrayOver_spec (hti (Cond.arrayOver (.object "WindowRoll$House")) (by decide +kernel))
      exact ⟨c, fun _ => ⟨zs_ao h3 h4, k, comp, h3, h4, h1, h5⟩⟩
    · obtain ⟨comp, c, k, h1, h2, h3, h4, h5⟩ := Cond.arrayOver_spec (hti (Cond.arrayOver (.object "WindowRoll$Text")) (by decide +kernel))
      exact ⟨c, fun _ => ⟨zs_ao h3 h4, k, comp, h3, h4, h1, h5⟩⟩
    · obtain ⟨comp, c, k, h1, h2, h3, h4, h5⟩ := Cond.arrayOver_spec (hti (Cond.arrayOver (.object "WindowRoll$Opening")) (by decide +kernel))
      exact ⟨c, fun _ => ⟨zs_ao h3 h4, k, comp, h3, h4, h1, h5⟩⟩
    · obtain ⟨comp, c, k, h1, h2, h3, h4, h5⟩ := arrayOverA_spec (hti (Cond.arrayOver (.array .long)) (by decide +kernel))
      exact ⟨c, fun _ => ⟨zs_ao h3 h4, h5⟩⟩
    · exact ⟨0, fun g => absurd g h⟩
  exact ⟨fun t => Classical.choose (h t), fun t => Classical.choose_spec (h t)⟩
theorem zs_st1 : ∀ q ∈ zm_St, Cond.exactly (Term.static q.1 q.2.1 q.2.2.1) (if q.2.2.2 = 1 then "[LWindowRoll$Word;" else "WindowRoll$Word") ∈ flatC (Jvm.Cond.and given_1 narrow_1) := by decide +kernel
theorem zs_st2 : ∀ q ∈ zm_St, Cond.laysStatic q.1 q.2.1 q.2.2.1 ∈ lw_tbl ∧ Cond.initialized q.1 ∈ lw_tbl ∧ 1 ≤ q.2.2.2 ∧ q.2.2.2 ≤ 37 := by decide +kernel
theorem zs_st3 : (zm_St.map (fun q => q.2.2.2)).Nodup := by decide +kernel
theorem zs_sr1 : ∀ q ∈ zm_S, Cond.exactly (Term.string q.1 q.2.1) "java/lang/String" ∈ flatC (Jvm.Cond.and given_1 narrow_1) := by decide +kernel
theorem zs_sr2 : ∀ q ∈ zm_S, Cond.stringRef q.1 q.2.1 q.2.2.1 ∈ lw_tbl ∧ 38 ≤ q.2.2.2 := by decide +kernel
theorem zs_sr3 : (zm_S.map (fun q => q.2.2.2)).Nodup := by decide +kernel
theorem zs_nw : ∀ w ∈ zm_N, Cond.methodLinkNest w.1 w.2.1 w.2.2.1 w.2.2.2 ∈ lw_tbl := by decide +kernel
theorem zs_xs (l : List Int32) (j : Nat) (h : zm_sb j = some l) : l.length ≤ 60000 := by
  have h1 := zs_sbl h
  have h2 : zm_sx.all (fun q => Nat.ble q.2.length 60000) = true := by decide +kernel
  exact Nat.le_of_ble_eq_true (List.all_eq_true.mp h2 _ h1)
theorem zs_G {s : State} {b L : Nat} {xs : Nat → Int32} (hti : ∀ w ∈ lw_tbl, w.before #[Value.ref b] s = true) (hX : va_X b L xs s s.heap) (hgv : (Jvm.Cond.and given_1 narrow_1).before #[Value.ref b] s = true) : ∃ (E : zm_E) (c : Bool), E.2.2.2 = s.heap ∧ E.2.2.1 0 = b ∧ zm_G E zm_S zm_St zm_N (zs_og L xs c) s := by
  obtain ⟨D, hK⟩ := zs_K hti
  obtain ⟨A, hA⟩ := zs_A hti
  have hfl := flat_of_before _ hgv
  have hwc : ∀ w ∈ zs_wt, ∀ c ∈ zs_wc w, c.before #[Value.ref b] s = true := fun w hw c hc => hfl _ (zs_sub_in zs_wc_in c (List.mem_flatMap.mpr ⟨w, hw, hc⟩))
  have hsc : ∀ q ∈ zs_so, ∀ c ∈ zs_sc q, c.before #[Value.ref b] s = true := fun w hw c hc => hfl _ (zs_sub_in zs_sc_in c (List.mem_flatMap.mpr ⟨w, hw, hc⟩))
  have hAl : ∀ a : Nat, a < s.heap.size → ¬ (fun a => s.heap.size ≤ a) a := fun a ha => Nat.not_le.mpr ha
  obtain ⟨f, hf⟩ := zs_choose (key := fun q : String × String × String × Nat => q.2.2.2) (Pq := fun q a => (Term.static q.1 q.2.1 q.2.2.1).eval #[Value.ref b] s none [] s = some (.ref a)) zm_St zs_st3 (fun q hq => by
    obtain ⟨a, c, cell, k, h1, -⟩ := Cond.exactly_spec (hfl _ (zs_st1 q hq))
    exact ⟨a, h1⟩)
  obtain ⟨g, hg⟩ := zs_choose (key := fun q : String × Nat × Nat => q.2.2) (Pq := fun q a => (Term.string q.1 q.2.1).eval #[Value.ref b] s none [] s = some (.ref a) ∧ va_O "java/lang/String" a (fun a => s.heap.size ≤ a) s s.heap) zs_so zs_so_n (fun q hq => by
    obtain ⟨a, c, cA, kA, q1, q2, q3, q4, q5, q6, -⟩ := Cond.exactly_spec (hsc q hq _ (List.mem_append_left _ List.mem_cons_self))
    exact ⟨a, q1, cA, q3, q5, by rw [q6]; exact q2, hAl a (Array.getElem?_eq_some_iff.mp q3).1⟩)
  obtain ⟨gv, hgv2⟩ := zs_choose (key := fun q : String × Nat × Nat => q.2.2) (Pq := fun q a => (zs_sv q).eval #[Value.ref b] s none [] s = some (.ref a) ∧ va_T .byte a (zs_sl q).length (fun i => .int ((zs_sl q).getD i 0)) (fun a => s.heap.size ≤ a) s s.heap) zs_so zs_so_n (fun q hq => by
    have hlen : (zs_sl q).length < 2 ^ 31 := by
      unfold zs_sl
      split
      · rename_i l hl
        have := zs_xs l q.2.2 hl
        omega
      · decide
    obtain ⟨t, h1, h2⟩ := va_Tof (f := fun i => .int ((zs_sl q).getD i 0)) hlen (hsc q hq _ (List.mem_append_left _ (List.mem_cons_of_mem _ (List.mem_cons_of_mem _ List.mem_cons_self)))) (va_eqt (hsc q hq _ (List.mem_append_left _ (List.mem_cons_of_mem _ (List.mem_cons_of_mem _ (List.mem_cons_of_mem _ List.mem_cons_self)))))) (fun j hj => by
      have hb : (zs_sl q)[j]? = some (zs_sl q)[j] := List.getElem?_eq_getElem hj
      have hc := zs_el_at (t := zs_sv q) (k := 0) hb
      rw [Nat.zero_add] at hc
      have := va_eqt (hsc q hq _ (List.mem_append_right _ hc))
      rw [this, List.getD_eq_getElem?_getD, hb]
      rfl) hAl
    exact ⟨t, h1, h2⟩)
  have hz := va_Zqof (hti _ zs_cs_tb.2.2.1) (hti _ zs_cs_tb.2.2.2) (hfl _ zs_cs_in.2) hAl
  obtain ⟨c, t95, h95⟩ : ∃ (c : Bool) (t : Nat), va_Z "jdk/internal/util/Preconditions" "SIOOBE_FORMATTER" "Ljava/util/function/BiFunction;" (if c then .ref t else .null) (fun a => s.heap.size ≤ a) s s.heap := by
    rcases hz with h | ⟨t, h⟩
    · exact ⟨false, 0, h⟩
    · exact ⟨true, t, h⟩
  have F : ∃ F : Nat → Nat, F 0 = b ∧ (∀ n, 1 ≤ n → n ≤ 37 → F n = f n) ∧ (∀ n, 38 ≤ n → n ≤ 94 → F n = g n) ∧ F 95 = t95 ∧ ∀ n, 38 ≤ n → F (n + 100) = gv n := by
    refine ⟨fun n => if n = 0 then b else if n ≤ 37 then f n else if n ≤ 94 then g n else if n = 95 then t95 else gv (n - 100), rfl, fun n h1 h2 => ?_, fun n h1 h2 => ?_, rfl, fun n h1 => ?_⟩
    · show (if n = 0 then b else if n ≤ 37 then f n else _) = f n
      rw [if_neg (by omega), if_pos h2]
    · show (if n = 0 then b else if n ≤ 37 then f n else if n ≤ 94 then g n else _) = g n
      rw [if_neg (by omega), if_neg (by omega), if_pos h2]
    · show (if n + 100 = 0 then b else if n + 100 ≤ 37 then f (n + 100) else if n + 100 ≤ 94 then g (n + 100) else if n + 100 = 95 then t95 else gv (n + 100 - 100)) = gv n
      rw [if_neg (by omega), if_neg (by omega), if_neg (by omega), if_neg (by omega), Nat.add_sub_cancel]
  obtain ⟨F, F0, F1, F2, F95, F3⟩ := F
  have wst : ∀ w ∈ zs_wt, (zs_ws w.2.1).eval #[Value.ref b] s none [] s = some (.ref (F w.1)) := by
    intro w hw
    have h1 := hf _ (zs_wt_st w hw).1
    obtain ⟨-, -, h3, h4⟩ := zs_st2 _ (zs_wt_st w hw).1
    rw [F1 w.1 h3 h4]
    exact h1
  have wof : ∀ (j : Nat) (q : Int32 × Int32 × Int32), zm_wrl zm_wl j = some q → ∃ w ∈ zs_wt, w.1 = j ∧ w.2.2.2.1 = q.1 ∧ w.2.2.2.2.1 = q.2.1 ∧ w.2.2.2.2.2.1 = q.2.2 := by
    intro j q hq
    have h1 := List.all_eq_true.mp zs_wt_wl _ (zs_wrl hq)
    obtain ⟨w, hw, h2⟩ := List.any_eq_true.mp h1
    simp only [Bool.and_eq_true, decide_eq_true_eq] at h2
    exact ⟨w, hw, Nat.eq_of_beq_eq_true h2.1, h2.2⟩
  have sof : ∀ (j : Nat) (l : List Int32), zm_sb j = some l → ∃ q ∈ zs_so, q.2.2 = j ∧ zs_sl q = l := by
    intro j l hl
    obtain ⟨q, hq, h1⟩ := zs_so_x _ (zs_sbl hl)
    have h1 : q.2.2 = j := h1
    exact ⟨q, hq, h1, by unfold zs_sl; rw [h1, hl]⟩
  refine ⟨(D, A, F, s.heap), c, rfl, F0, hK, hA, ⟨fun t h4 h7 C hC => ?_, ?_⟩, fun w hw => va_Nw.of rfl (hti _ (zs_nw w hw)), fun q hq => ?_, fun q hq => ?_, fun j t n k hj => ?_, ?_, fun j hj => ?_, fun j l hl => ?_, ?_, fun j k hj hk e => ?_, va_Zof (hti _ zs_cs_tb.1) (hti _ zs_cs_tb.2.1) (va_eqi (hfl _ zs_cs_in.1)) hAl, ?_⟩
  · rcases (show t = 4 ∨ t = 5 ∨ t = 6 by omega) with rfl | rfl | rfl
    · have hC : FieldType.object "WindowRoll$House" = .object C := hC
      cases hC
      exact va_AO.of (hti (Cond.arrayOver (.object "WindowRoll$House")) (by decide +kernel))
    · have hC : FieldType.object "WindowRoll$Text" = .object C := hC
      cases hC
      exact va_AO.of (hti (Cond.arrayOver (.object "WindowRoll$Text")) (by decide +kernel))
    · have hC : FieldType.object "WindowRoll$Opening" = .object C := hC
      cases hC
      exact va_AO.of (hti (Cond.arrayOver (.object "WindowRoll$Opening")) (by decide +kernel))
  · exact hti (Cond.arrayOver (.array .long)) (by decide +kernel)
  · have h2 := zs_so_b _ (zs_so_s q hq)
    show vk_R q.1 q.2.1 q.2.2.1 (F q.2.2.2) s
    rw [F2 q.2.2.2 h2.1 h2.2]
    exact vk_R.of (hti _ (zs_sr2 q hq).1) (hg _ (zs_so_s q hq)).1
  · obtain ⟨h1, h2, h3, h4⟩ := zs_st2 q hq
    show va_Z q.1 q.2.1 q.2.2.1 (.ref (F q.2.2.2)) (fun a => s.heap.size ≤ a) s s.heap
    rw [F1 q.2.2.2 h3 h4]
    exact va_Zref (hti _ h1) (hti _ h2) (hf q hq) hAl
  · by_cases h0 : j = 0
    · subst h0
      have hj : some (Sum.inl (0, L, Sum.inl xs)) = some (Sum.inl (t, n, k) : zm_C) := hj
      cases hj
      obtain ⟨scr, a1, a2, a3, a4, a5⟩ := hX
      refine ⟨by decide, scr, ?_, a2, a3, a4, fun i hi => a5 i hi⟩
      show s.heap[F 0]? = some scr
      rw [F0]
      exact a1
    · by_cases h9 : j = 95
      · subst h9
        cases c <;> simp [zs_og] at hj
      · simp [zs_og, h0, h9] at hj
  · intro c0 j fi v hv
    unfold zm_of at hv
    split at hv
    · unfold zm_wf at hv
      split at hv
      · cases hv
      · rename_i q hq
        obtain ⟨w, hw, rfl, e1, e2, e3⟩ := wof j q hq
        have hw5 := zs_so_b _ (zs_wt_st w hw).2
        have cw := hwc w hw
        split at hv
        · cases hv
          refine ⟨_, _, _, rfl, ?_⟩
          have h1 := va_eqv (cw _ (List.mem_cons_of_mem _ (List.mem_cons_of_mem _ List.mem_cons_self))) (hg _ (zs_wt_st w hw).2).1
          show va_OF _ _ _ (.ref (F (w.1 + 57))) (F w.1) _ s s.heap
          rw [F2 (w.1 + 57) hw5.1 hw5.2]
          exact vk_OFof (wst w hw) h1 hAl
        · cases hv
          refine ⟨_, _, _, rfl, ?_⟩
          have h1 := va_eqt (cw _ (List.mem_cons_of_mem _ (List.mem_cons_of_mem _ (List.mem_cons_of_mem _ List.mem_cons_self))))
          rw [e1] at h1
          exact vk_OFof (wst w hw) h1 hAl
        · cases hv
          refine ⟨_, _, _, rfl, ?_⟩
          have h1 := va_eqt (cw _ (List.mem_cons_of_mem _ (List.mem_cons_of_mem _ (List.mem_cons_of_mem _ (List.mem_cons_of_mem _ List.mem_cons_self)))))
          rw [e2] at h1
          exact vk_OFof (wst w hw) h1 hAl
        · cases hv
          refine ⟨_, _, _, rfl, ?_⟩
          have h1 := va_eqt (cw _ (List.mem_cons_of_mem _ (List.mem_cons_of_mem _ (List.mem_cons_of_mem _ (List.mem_cons_of_mem _ (List.mem_cons_of_mem _ List.mem_cons_self))))))
          rw [e3] at h1
          exact vk_OFof (wst w hw) h1 hAl
        · cases hv
    · unfold zm_sf at hv
      split at hv
      · cases hv
      · rename_i l hl
        obtain ⟨q, hq, rfl, -⟩ := sof j l hl
        have hb := zs_so_b q hq
        have st : (Term.string q.1 q.2.1).eval #[Value.ref b] s none [] s = some (.ref (F q.2.2)) := by
          rw [F2 q.2.2 hb.1 hb.2]
          exact (hg q hq).1
        split at hv
        · cases hv
          refine ⟨_, _, _, rfl, ?_⟩
          exact vk_OFof st (va_eqt (hsc q hq _ (List.mem_append_left _ (List.mem_cons_of_mem _ List.mem_cons_self)))) hAl
        · cases hv
          refine ⟨_, _, _, rfl, ?_⟩
          show va_OF _ _ _ (.ref (F (q.2.2 + 100))) (F q.2.2) _ s s.heap
          rw [F3 q.2.2 hb.1]
          exact vk_OFof st (hgv2 q hq).1 hAl
        · cases hv
    · cases hv
  · obtain ⟨l, hl⟩ := Option.isSome_iff_exists.mp hj
    obtain ⟨q, hq, rfl, -⟩ := sof j l hl
    have hb := zs_so_b q hq
    show va_O "java/lang/String" (F q.2.2) _ s s.heap
    rw [F2 q.2.2 hb.1 hb.2]
    exact (hg q hq).2
  · obtain ⟨q, hq, rfl, rfl⟩ := sof j l hl
    have hb := zs_so_b q hq
    show va_T .byte (F (q.2.2 + 100)) _ _ _ s s.heap
    rw [F3 q.2.2 hb.1]
    exact (hgv2 q hq).2
  · have hwd : ∀ c ∈ ([.arrayOf zs_wd (.object "WindowRoll$Word"), .eq (.length zs_wd) (.int 36)] ++ zs_we 0 zm_wl : List Cond), c.before #[Value.ref b] s = true := fun c hc => hfl _ (zs_sub_in zs_wd_in c hc)
    obtain ⟨t, h1, h2⟩ := va_Tof (tm := zs_wd) (N := 36) (f := fun i => .ref (F (zm_wh i))) (by decide) (hwd _ (List.mem_append_left _ List.mem_cons_self)) (va_eqt (hwd _ (List.mem_append_left _ (List.mem_cons_of_mem _ List.mem_cons_self)))) (fun j hj => by
      obtain ⟨w, hw, e, hc⟩ := zs_we_at j hj
      rw [← e]
      exact va_eqv (hwd _ (List.mem_append_right _ hc)) (wst w hw)) hAl
    have h3 := hf ("WindowRoll$Reader", "WORDS", "[LWindowRoll$Word;", 1) (by decide +kernel)
    have e : t = F 1 := by
      rw [F1 1 (by decide) (by decide)]
      exact Value.ref.inj (Option.some.inj (h1.symm.trans h3))
    rw [e] at h2
    exact h2
  · obtain ⟨q, hq⟩ := Option.isSome_iff_exists.mp hj
    obtain ⟨p, hp⟩ := Option.isSome_iff_exists.mp hk
    obtain ⟨w, hw, rfl, -⟩ := wof j q hq
    obtain ⟨v, hv, rfl, -⟩ := wof k p hp
    have e : F w.1 = F v.1 := e
    have h1 := va_eqt (hwc w hw _ (List.mem_cons_of_mem _ List.mem_cons_self))
    have h2 := va_eqt (hwc v hv _ (List.mem_cons_of_mem _ List.mem_cons_self))
    rw [va_fe (wst w hw)] at h1
    rw [va_fe (wst v hv), ← e] at h2
    exact zs_wt_or w hw v hv (Value.int.inj (Option.some.inj (h1.symm.trans h2)))
  · cases c with
    | true =>
      show va_Z _ _ _ (.ref (F 95)) _ s s.heap
      rw [F95]
      exact h95
    | false => exact h95
