/-! The whole simulation -/
def zm_Sim (P : Nat → Option zm_M) (TW : List Cond) (SS : zm_SS) (ST : zm_ST) (NW : zm_NW) (og : Nat → Option zm_C) (df : Nat → List Value) (E : zm_E) (l : Launch) (n : Nat) : Prop :=
  ∀ (d mi pc : Nat) (ls : zm_L) (st : List Value) (h : zm_H) (r : Option Value) (h' : zm_H), zm_ex P df og n d mi pc ls st h = some (r, h') → ∀ mr : zm_M, P mi = some mr →
  ∀ (p : Program) (e : Env) (R : Room) (s : State) (m : MethodId) (args : Array Value) (below : List Frame) (meth : Method) (c : Code) (H : Heap) (locs : List Loc) (cells slots : Nat) (Q : State → Prop) (lsA : Array Slot),
  zm_Ch p s m args meth c mr.1.2.1 E TW SS ST NW og df mr.1.1.cls mr.1.1.name → c.maxLocals = mr.1.2.2.1 → lv_has lsA mr.1.2.2.1 (zm_trl E.2.2.2.size E.2.2.1 ls) → zm_Rel E h H → (∀ z ∈ locs, E.2.2.2.size ≤ z.base) → d + 1 ≤ R.frames → (d + 1) * 64 ≤ R.locals → cells + (h'.length - h.length) ≤ R.cells → slots + (zm_szs h' - zm_szs h) ≤ R.slots →
  (∀ (H1 : Heap) (locs1 : List Loc) (pc1 : Nat) (lsA1 : Array Slot) (i1 : Jvm.ClassFile.Instr) (st1 : List Value), zm_Rel E h' H1 → (∀ z ∈ locs1, E.2.2.2.size ≤ z.base) → decode mr.1.2.1 pc1 = .ok (i1, 1) → zm_ret mr.1.2.2.2 i1 st1 = some r → W p l e R s m args below meth c H1 locs1 (cells + (h'.length - h.length)) (slots + (zm_szs h' - zm_szs h)) Q (F0 m pc1 lsA1 (st1.map (zm_t E)))) →
  W p l e R s m args below meth c H locs cells slots Q (F0 m pc lsA (st.map (zm_t E)))
section ZMT
variable {P : Nat → Option zm_M} {SS : zm_SS} {ST : zm_ST} {NW : zm_NW} {og : Nat → Option zm_C} {df : Nat → List Value} {E : zm_E} {l : Launch}
theorem zm_met {n d ci : Nat} {as : List Value} {h h1 : zm_H} {r : Option Value} {mc : zm_M} (hS : zm_Sim P zm_W SS ST NW og df E l n) (hT0 : zm_T0 zm_W df) (hex : zm_ex P df og n d ci 0 (lv_args 0 as) [] h = some (r, h1)) (hP : P ci = some mc) (hok : zm_mok P zm_W SS ST NW mc) (hcat : zm_cat as ≤ mc.1.2.2.1) :
    Met l mc.1.1 (.code mc.1.1 mc.1.2.1 mc.1.2.2.1 mc.1.2.2.2 :: zm_W) (zm_rm d (h1.length - h.length) (zm_szs h1 - zm_szs h)) (zm_Pc E SS ST NW og as h) (zm_Qc E r h1) (h1.length - h.length) (zm_szs h1 - zm_szs h) (fun q => E.2.2.2.size ≤ q) := by
  refine Met.ofW (cc := mc.1.2.1) (maxL := mc.1.2.2.1) (ret := mc.1.2.2.2) hok.1 rfl ?_
  intro p e s m args below meth c s₁ B hml hv
  obtain ⟨rfl, hR, hG⟩ := hv
  have hts := atoms_spec (ws := .code mc.1.1 mc.1.2.1 mc.1.2.2.1 mc.1.2.2.2 :: zm_W) B.pre
  have hown : s.vm.findClass mc.1.1.cls = some m.cls := findClass_of_methodNamed B.named
  have hnm := (name_of_methodNamed B.named B.method).1
  have hl0 := lv_entry (as.map (zm_t E)) (n := mc.1.2.2.1) (by rw [zm_sl_len, zm_cat_tr]; exact hcat)
  rw [lg_entry_eq]
  generalize (lg_sl (as.map (zm_t E)) ++ List.replicate (mc.1.2.2.1 - (lg_sl (as.map (zm_t E))).length) Slot.unset).toArray = ls0 at hl0 ⊢
  rw [← zm_args_tr] at hl0
  refine hS d ci 0 (lv_args 0 as) [] h r h1 hex mc hP p e _ s m _ below meth c s.heap [] 0 0 _ ls0 ⟨B.exec, B.bytes, hown, fun w hw => hts w (List.mem_cons_of_mem _ hw), hG, hT0, hnm⟩ hml hl0 hR (fun z hz => by cases hz) (Nat.le_refl _) (Nat.le_refl _) (by rw [Nat.zero_add]; exact Nat.le_refl _) (by rw [Nat.zero_add]; exact Nat.le_refl _) ?_
  intro H1 locs1 pc1 lsA1 i1 st1 a b dd hr
  rw [Nat.zero_add, Nat.zero_add]
  exact zm_ret_ok B.exec B.bytes B.returns B.notSynchronized dd hr a b
theorem zm_good {a : Cond} (hg : ∀ w ∈ zm_W, goodWord w = true) (ha : a ∈ zm_W) {args : Array Value} {s : State} (hts : ∀ w ∈ zm_W, w.before args s = true) : ∀ w ∈ a :: zm_W, ∀ (a' : Array Value) (U : State), s.WarmedH U.vm → w.before a' U = true :=
  pay_in hts (fun w hw => by
    rcases List.mem_cons.mp hw with rfl | h
    · exact ⟨ha, good_of_word (hg _ ha)⟩
    · exact ⟨h, good_of_word (hg _ h)⟩)
theorem zm_tolist (E : zm_E) (r : Option Value) (rest : List Value) : (r.map (zm_t E)).toList ++ rest.map (zm_t E) = (r.toList ++ rest).map (zm_t E) := by
  cases r <;> simp
theorem zm_stk (E : zm_E) (st : List Value) (n : Nat) : st.map (zm_t E) = ((st.take n).reverse.map (zm_t E)).reverse ++ (st.drop n).map (zm_t E) := by
  rw [← List.map_reverse, List.reverse_reverse, ← List.map_append, List.take_append_drop]
set_option maxHeartbeats 2000000 in
theorem zm_sim (hP : ∀ (mi : Nat) (mr : zm_M), P mi = some mr → zm_mok P zm_W SS ST NW mr) (hg : ∀ w ∈ zm_W, goodWord w = true) (hT0 : zm_T0 zm_W df) : ∀ n : Nat, zm_Sim P zm_W SS ST NW og df E l n := by
  intro n
  induction n with
  | zero => intro d mi pc ls st h r h' hx; simp [zm_ex] at hx
  | succ n ih =>
    intro d mi pc ls st h r h' hex mr hm p e R s m args below meth c H locs cells slots Q lsA C hml hv hR hl hfr hlo hc hs hend
    simp only [zm_ex, hm] at hex
    cases hat : zm_at mr.2 pc with
    | none => rw [hat] at hex; cases hex
    | some i =>
      rw [hat] at hex
      dsimp only at hex
      have hrow := (hP mi mr hm).2.2.1 _ (zm_at_mem hat)
      unfold zm_rok at hrow
      rw [Bool.and_eq_true] at hrow
      obtain ⟨hdec, hrow⟩ := hrow
      have hdec := of_decide_eq_true hdec
      dsimp only at hdec hrow
      cases hre : zm_ret mr.1.2.2.2 i.1 st with
      | some r0 =>
        rw [hre] at hex
        cases hex
        have hl1 : i.2.1 = 1 := by
          have : zm_isP i.1 = false ∧ zm_isB i.1 = false ∧ zm_isH i.1 i.2.2 = false ∧ zm_isC i.1 i.2.2 = false := by
            obtain ⟨i1, i2⟩ := i
            cases i1 <;> first | exact ⟨rfl, rfl, rfl, rfl⟩ | cases hre
          rw [this.1, this.2.1, this.2.2.1, this.2.2.2] at hrow
          exact of_decide_eq_true hrow
        rw [hl1] at hdec
        have k1 := hend H locs pc lsA i.1 st hR hl hdec hre
        rw [Nat.sub_self, Nat.sub_self] at k1
        exact k1
      | none =>
        rw [hre] at hex
        dsimp only at hex
        cases hpu : zm_pure i.1 i.2.2 ls st with
        | some q =>
          rw [hpu] at hex
          rw [zm_isP_of hpu] at hrow
          obtain ⟨hx, hb, hown, hts, hG, -, hnm⟩ := id C
          exact zm_pure_ok ⟨hx, hb, hown, hts, hG.2.2.2.2.1⟩ hdec hrow hv hpu (fun lsA2 hv2 => ih d mi (pc + i.2.1) q.1 q.2 h r h' hex mr hm p e R s m args below meth c H locs cells slots Q lsA2 C hml hv2 hR hl hfr hlo hc hs hend)
        | none =>
          rw [hpu] at hex
          dsimp only at hex
          cases hbr : zm_br i.1 i.2.2 pc st with
          | some q =>
            rw [hbr] at hex
            have hib := zm_isB_of hbr
            have hip : zm_isP i.1 = false := by
              obtain ⟨i1, i2⟩ := i
              cases i1 <;> first | rfl | cases hib
            rw [hip, hib] at hrow
            exact zm_br_ok C.2.2.2.2.1.2.2.2.2.2.2.2.2.2.2.2.1 C.1 C.2.1 hdec hrow hbr (ih d mi q.1 ls q.2 h r h' hex mr hm p e R s m args below meth c H locs cells slots Q lsA C hml hv hR hl hfr hlo hc hs hend)
          | none =>
            rw [hbr] at hex
            dsimp only at hex
            cases hhp : zm_hp df og i.1 i.2.2 st h with
            | some q =>
              rw [hhp] at hex
              dsimp only at hex
              have hih := zm_isH_of hhp
              have hip : zm_isP i.1 = false ∧ zm_isB i.1 = false := by
                obtain ⟨i1, i2⟩ := i
                cases i1 <;> first | exact ⟨rfl, rfl⟩ | cases hih
              rw [hip.1, hip.2, hih] at hrow
              have m1 := zm_hp_mono hhp
              have m2 := zm_ex_mono _ _ _ _ _ _ _ _ _ hex
              refine zm_hp_ok C hdec hrow (by omega) (by omega) (hv.1.trans hml.symm) hR hl hhp (by omega) (by omega) (fun H1 locs1 hR1 hl1 => ih d mi (pc + i.2.1) ls q.1 q.2 r h' hex mr hm p e R s m args below meth c H1 locs1 _ _ Q lsA C hml hv hR1 hl1 hfr hlo (by omega) (by omega) ?_)
              intro H2 locs2 pc2 lsA2 i2 st2 a b dd hr2
              rw [show cells + (q.2.length - h.length) + (h'.length - q.2.length) = cells + (h'.length - h.length) by omega, show slots + (zm_szs q.2 - zm_szs h) + (zm_szs h' - zm_szs q.2) = slots + (zm_szs h' - zm_szs h) by omega]
              exact hend H2 locs2 pc2 lsA2 i2 st2 a b dd hr2
            | none =>
              rw [hhp] at hex
              dsimp only at hex
              cases hca : zm_call i.1 i.2.2 st h with
              | none => rw [hca] at hex; cases hex
              | some q =>
                rw [hca] at hex
                dsimp only at hex
                have hic := zm_isC_of hca
                have hip : zm_isP i.1 = false ∧ zm_isB i.1 = false ∧ zm_isH i.1 i.2.2 = false := by
                  obtain ⟨i1, i2⟩ := i
                  cases i1 with
                  | invokespecial k => exact ⟨rfl, rfl, by simpa [zm_isC, zm_isH] using hic⟩
                  | invokestatic k => exact ⟨rfl, rfl, by simpa [zm_isC, zm_isH] using hic⟩
                  | _ => first | exact ⟨rfl, rfl, rfl⟩ | cases hic
                rw [hip.1, hip.2.1, hip.2.2, hic] at hrow
                simp only [cond_false, cond_true] at hrow
                cases d with
                | zero => cases hex
                | succ d =>
                  dsimp only at hex
                  cases hmc : P q.1 with
                  | none => rw [hmc] at hex; cases hex
                  | some mc =>
                    rw [hmc] at hex
                    dsimp only at hex
                    cases hcat : Nat.ble (zm_cat q.2.1) mc.1.2.2.1 with
                    | false => rw [hcat] at hex; cases hex
                    | true =>
                      rw [hcat] at hex
                      simp only [cond_true] at hex
                      cases hw : zm_ex P df og n d q.1 0 (lv_args 0 q.2.1) [] h with
                      | none => rw [hw] at hex; cases hex
                      | some w =>
                        rw [hw] at hex
                        dsimp only at hex
                        obtain ⟨wr, wh⟩ := w
                        dsimp only at hex
                        have m1 := zm_ex_mono _ _ _ _ _ _ _ _ _ hw
                        have m2 := zm_ex_mono _ _ _ _ _ _ _ _ _ hex
                        have hok := hP q.1 mc hmc
                        have hM := zm_met (l := l) (E := E) ih hT0 hw hmc hok (Nat.le_of_ble_eq_true hcat)
                        obtain ⟨hx, hb, hown, hts, hG, -, hnm⟩ := id C
                        have hgo : ∀ stA : List Value, va_Run p l e R s m args below meth c H locs cells slots (wh.length - h.length) (zm_szs wh - zm_szs h) (F0 m pc lsA stA) (q.2.2.map (zm_t E)) (zm_Qc E wr wh #[]) (fun z => E.2.2.2.size ≤ z) → W p l e R s m args below meth c H locs cells slots Q (F0 m pc lsA stA) := by
                          intro stA hrun
                          refine zm_go hrun hl (fun H1 locs1 hR1 hl1 => ?_)
                          rw [zm_tolist]
                          refine ih (d + 1) mi (pc + 3) ls (wr.toList ++ q.2.2) wh r h' hex mr hm p e R s m args below meth c H1 locs1 _ _ Q lsA C hml hv hR1 hl1 hfr hlo (by omega) (by omega) ?_
                          intro H2 locs2 pc2 lsA2 i2 st2 a b dd hr2
                          rw [show cells + (wh.length - h.length) + (h'.length - wh.length) = cells + (h'.length - h.length) by omega, show slots + (zm_szs wh - zm_szs h) + (zm_szs h' - zm_szs wh) = slots + (zm_szs h' - zm_szs h) by omega]
                          exact hend H2 locs2 pc2 lsA2 i2 st2 a b dd hr2
                        have hxq : q.1 = i.2.2.1 := by
                          obtain ⟨i1, i2, i3⟩ := i
                          cases i1 with
                          | invokestatic k =>
                            simp only [zm_call] at hca
                            obtain ⟨-, rfl⟩ := zm_bif hca
                            rfl
                          | invokevirtual k =>
                            simp only [zm_call] at hca
                            split at hca
                            · split at hca
                              · obtain ⟨-, rfl⟩ := zm_bif hca
                                rfl
                              · cases hca
                            · obtain ⟨-, rfl⟩ := zm_bif hca
                              rfl
                            · cases hca
                          | invokespecial k =>
                            simp only [zm_call] at hca
                            cases hb1 : Nat.beq i3.2.2.1 1 with
                            | true => rw [hb1] at hca; cases hca
                            | false =>
                              rw [hb1] at hca
                              simp only [cond_false] at hca
                              split at hca
                              · obtain ⟨-, rfl⟩ := zm_bif hca
                                rfl
                              · cases hca
                          | _ => cases hic
                        unfold zm_cok at hrow
                        rw [← hxq, hmc] at hrow
                        simp only [Bool.and_eq_true, decide_eq_true_eq] at hrow
                        obtain ⟨hlen, hpar, hn1, hn2, hcode, hini, hrow⟩ := hrow
                        have hcode1 := hok.2.2.2.resolve_left hcode
                        have hini1 := hts _ (zm_m_in hini)
                        have hfr2 : (zm_rm d (wh.length - h.length) (zm_szs wh - zm_szs h)).frames + 1 ≤ R.frames := hfr
                        have hlo2 : 8 + (mc.1.2.2.1 + 11) + (zm_rm d (wh.length - h.length) (zm_szs wh - zm_szs h)).locals ≤ R.locals := by
                          have := hok.2.1
                          show 8 + (mc.1.2.2.1 + 11) + (d + 1) * 64 ≤ R.locals
                          omega
                        have hlo3 : 16 + (mc.1.2.2.1 + 11) + (zm_rm d (wh.length - h.length) (zm_szs wh - zm_szs h)).locals ≤ R.locals := by
                          have := hok.2.1
                          show 16 + (mc.1.2.2.1 + 11) + (d + 1) * 64 ≤ R.locals
                          omega
                        have hlenp : ∀ sig, parseMethodDescriptor mc.1.1.desc = some sig → i.2.2.2.1 = sig.parameters.length := fun sig hsig => by
                          rw [hsig] at hpar
                          simpa using hpar.symm
                        have hroom : cells + (wh.length - h.length) ≤ R.cells ∧ slots + (zm_szs wh - zm_szs h) ≤ R.slots := ⟨by omega, by omega⟩
                        rw [hlen] at hdec
                        clear hend ih
                        obtain ⟨i1, i2, i3⟩ := i
                        dsimp only at hdec hrow hlenp hca
                        cases i1 with
                        | invokestatic k =>
                          simp only [zm_call] at hca
                          obtain ⟨hcb, rfl⟩ := zm_bif hca
                          simp only [Bool.and_eq_true] at hcb hrow
                          have hnl := Nat.le_of_ble_eq_true hcb.2.1
                          have h8 := Nat.le_of_ble_eq_true hcb.2.2
                          dsimp only at hgo hM
                          rw [zm_stk E st i3.2.1]
                          exact hgo _ (va_runS (As := ((st.take i3.2.1).reverse.map (zm_t E))) (rest := (st.drop i3.2.1).map (zm_t E)) ⟨hx, hb, hml, hown, hts⟩ hM ⟨⟨rfl, rfl, hfr2, hlo2, zm_good hg hcode1 hts, List.mem_cons_self, hts _ hcode1, hini1, ⟨hn1, hn2⟩, hlenp, hts _ (zm_m_in hrow.1)⟩, hts _ (zm_m_in hrow.2)⟩ ⟨zm_Pc_blind, fun U hU hW => ⟨rfl, by rw [hU]; exact hR, hG.moved hW⟩⟩ rfl (by rw [List.length_map, List.length_reverse, List.length_take]; omega) hv.1 rfl (lv_room (by show zm_cat _ ≤ 8; rw [zm_cat_tr]; exact h8)) hdec hroom)
                        | invokevirtual k =>
                          simp only [zm_call] at hca
                          split at hca
                          · rename_i b rest hdrop
                            split at hca
                            · rename_i ci fs hcb
                              obtain ⟨hcc, rfl⟩ := zm_bif hca
                              simp only [Bool.and_eq_true] at hcc hrow
                              obtain ⟨w1, w2, w3, w4⟩ := hrow
                              have h8 := Nat.le_of_ble_eq_true hcc.2
                              have hci := Nat.eq_of_beq_eq_true hcc.1
                              split at w4
                              · rename_i r0 hr0
                                simp only [Bool.and_eq_true, decide_eq_true_eq] at w4
                                have w4 := w4.1
                                dsimp only at hgo hM
                                rw [zm_stk E st i3.2.1, hdrop]
                                have hnl : i3.2.1 ≤ st.length := by
                                  rcases Nat.le_total i3.2.1 st.length with z | z
                                  · exact z
                                  · rw [List.drop_eq_nil_of_le z] at hdrop; cases hdrop
                                obtain ⟨r2, g1, g2, cellB, g3, g4, g5, -⟩ := hR.2.2 b _ hcb
                                have hr2 : r2 = r0 := by rw [hci] at g1; exact Option.some.inj (g1.symm.trans hr0)
                                have hcls := (hG.1.1 ci r2 g1).2.1
                                exact hgo _ (zv_runV (C := mc.1.1.cls) (b := E.2.2.2.size + b) (As := ((st.take i3.2.1).reverse.map (zm_t E))) (rest := rest.map (zm_t E)) ⟨hx, hb, hml, hown, hts⟩ hM ⟨⟨rfl, rfl, hfr2, hlo2, zm_good hg hcode1 hts, List.mem_cons_self, hts _ hcode1, hini1, ⟨hn1, hn2⟩, hlenp, hts _ (zm_m_in w1)⟩, hts _ (zm_m_in w2), hts _ (zm_m_in w3)⟩ hlo3 ⟨zm_Pc_blind, ⟨cellB, g3, by rw [g5]; rfl, by rw [g4, ← w4, ← hr2]; exact hcls⟩, fun U hU hW => ⟨rfl, by rw [hU]; exact hR, hG.moved hW⟩⟩ rfl (by rw [List.length_map, List.length_reverse, List.length_take]; omega) hv.1 rfl (by show 2 * 0 + zm_cat _ ≤ 16; rw [zm_cat_tr]; omega) hdec hroom)
                              · rename_i hr0
                                obtain ⟨r2, g1, -⟩ := hR.2.2 b _ hcb
                                rw [hci, hr0] at g1
                                cases g1
                            · cases hca
                          · rename_i j rest hdrop
                            obtain ⟨hcc, rfl⟩ := zm_bif hca
                            simp only [Bool.and_eq_true] at hcc hrow
                            obtain ⟨w1, w2, w3, w4⟩ := hrow
                            have h8 := Nat.le_of_ble_eq_true hcc.2
                            have hci := Nat.eq_of_beq_eq_true hcc.1.1
                            split at w4
                            · simp only [Bool.and_eq_true, decide_eq_true_eq] at w4
                              omega
                            · simp only [Bool.and_eq_true, decide_eq_true_eq] at w4
                              dsimp only at hgo hM
                              rw [zm_stk E st i3.2.1, hdrop]
                              have hnl : i3.2.1 ≤ st.length := by
                                rcases Nat.le_total i3.2.1 st.length with z | z
                                · exact z
                                · rw [List.drop_eq_nil_of_le z] at hdrop; cases hdrop
                              obtain ⟨cellB, g3, g5, g4, -⟩ := hG.2.2.2.2.2.2.2.2.1 j hcc.1.2
                              have g3 : H[E.2.2.1 j]? = some cellB := by rw [hR.2.1 _ (Array.getElem?_eq_some_iff.mp g3).1]; exact g3
                              exact hgo _ (va_runV (C := mc.1.1.cls) (b := E.2.2.1 j) (As := ((st.take i3.2.1).reverse.map (zm_t E))) (rest := rest.map (zm_t E)) ⟨hx, hb, hml, hown, hts⟩ hM ⟨⟨rfl, rfl, hfr2, hlo2, zm_good hg hcode1 hts, List.mem_cons_self, hts _ hcode1, hini1, ⟨hn1, hn2⟩, hlenp, hts _ (zm_m_in w1)⟩, hts _ (zm_m_in w2), hts _ (zm_m_in w3)⟩ ⟨zm_Pc_blind, ⟨cellB, g3, g5, by rw [w4.2]; exact g4⟩, fun U hU hW => ⟨rfl, by rw [hU]; exact hR, hG.moved hW⟩⟩ rfl (by rw [List.length_map, List.length_reverse, List.length_take]; omega) hv.1 rfl (lv_room (by show zm_cat _ ≤ 8; rw [zm_cat_tr]; exact h8)) hdec hroom)
                          · cases hca
                        | invokespecial k =>
                          simp only [zm_call] at hca
                          cases hb1 : Nat.beq i3.2.2.1 1 with
                          | true => rw [hb1] at hca; cases hca
                          | false =>
                            rw [hb1] at hca
                            simp only [cond_false] at hca
                            split at hca
                            · rename_i b rest hdrop
                              obtain ⟨hcc, rfl⟩ := zm_bif hca
                              simp only [Bool.and_eq_true, decide_eq_true_eq, Bool.or_eq_true] at hrow
                              obtain ⟨w1, w2, w3, w4⟩ := hrow
                              have h8 := Nat.le_of_ble_eq_true hcc
                              dsimp only at hgo hM
                              rw [zm_stk E st i3.2.1, hdrop]
                              have hnl : i3.2.1 ≤ st.length := by
                                rcases Nat.le_total i3.2.1 st.length with z | z
                                · exact z
                                · rw [List.drop_eq_nil_of_le z] at hdrop; cases hdrop
                              rw [w2] at hM hcode1
                              rcases w4 with w4 | w4
                              · exact hgo _ (va_runI (b := E.2.2.2.size + b) (As := ((st.take i3.2.1).reverse.map (zm_t E))) (rest := rest.map (zm_t E)) ⟨hx, hb, hml, hown, hts⟩ hM ⟨⟨rfl, rfl, hfr2, hlo2, zm_good hg hcode1 hts, List.mem_cons_self, hts _ hcode1, hini1, ⟨hn1, hn2⟩, hlenp, hts _ (zm_m_in w4)⟩, w1, hts _ (zm_m_in w3)⟩ ⟨zm_Pc_blind, fun U hU hW => ⟨rfl, by rw [hU]; exact hR, hG.moved hW⟩⟩ rfl (by rw [List.length_map, List.length_reverse, List.length_take]; omega) hv.1 rfl (lv_room (by show zm_cat _ ≤ 8; rw [zm_cat_tr]; exact h8)) hdec hroom)
                              · obtain ⟨nw, hnw, w5⟩ := List.any_eq_true.mp w4
                                simp only [Bool.and_eq_true, decide_eq_true_eq] at w5
                                obtain ⟨u1, u2, u3⟩ := w5
                                have hnest := hG.2.2.2.1 nw hnw
                                rw [u1, u2, u3] at hnest
                                exact hgo _ (va_runIN (host := nw.2.2.2) (b := E.2.2.2.size + b) (As := ((st.take i3.2.1).reverse.map (zm_t E))) (rest := rest.map (zm_t E)) ⟨hx, hb, hml, hown, hts⟩ hM ⟨⟨⟨rfl, rfl, hfr2, hlo2, zm_good hg hcode1 hts, List.mem_cons_self⟩, hts _ hcode1, hini1, ⟨hn1, hn2⟩, hlenp, va_Nw.use rfl hnest⟩, w1, hts _ (zm_m_in w3)⟩ ⟨zm_Pc_blind, fun U hU hW => ⟨rfl, by rw [hU]; exact hR, hG.moved hW⟩⟩ rfl (by rw [List.length_map, List.length_reverse, List.length_take]; omega) hv.1 rfl (lv_room (by show zm_cat _ ≤ 8; rw [zm_cat_tr]; exact h8)) hdec hroom)
                            · cases hca
                        | _ => cases hic
end ZMT
