/-! By hand: held, the walk -/
section XHV
variable {τ : List Nat} {h : zm_H} {og : Nat → Option zm_C}
theorem zh_callv3 {k m ci b : Nat} {w a1 a2 a3 : Value} {ps : List Nat} {rest fs : List Value} (hh : h[b]? = some (.inr (ci, fs))) (hr : Nat.ble (zm_cat rest) 16 = true) : zm_call (.invokevirtual k) (m, 3, ci, w, ps) (a3 :: a2 :: a1 :: .ref b :: rest) h = some (m, [.ref b, a1, a2, a3], rest) := by
  have e : zm_call (.invokevirtual k) (m, 3, ci, w, ps) (a3 :: a2 :: a1 :: .ref b :: rest) h = (match h[b]? with
    | some (.inr (c, _)) => bif Nat.beq c ci && Nat.ble (zm_cat rest) 16 then some (m, Value.ref b :: [a1, a2, a3], rest) else none
    | _ => none) := rfl
  rw [e, hh]
  simp only [Nat.beq_refl, hr, Bool.and_self, cond_true]
def xheQ (τ : List Nat) (h : zm_H) (r : Option Value) (h' : zm_H) : Prop := ∃ (i : Int32) (τ' : List Nat), r = some (.int i) ∧ xHI xKT xSG τ' h' ∧ xX τ' h' ∧ xF (xms xc_56.2.2.2.1) τ h τ' h' ∧ xW h' ≤ xW h + 30
theorem xheQ_id {i : Int32} (hH : xHI xKT xSG τ h) (hX : xX τ h) : xheQ τ h (some (.int i)) h := ⟨i, τ, rfl, hH, hX, xF_refl _ _ _, Nat.le_add_right _ _⟩
abbrev xhl (k p f b l w : Int32) : zm_L := [(0, .ref 0), (1, .int k), (2, .int p), (3, .int f), (4, .int b), (5, .int l), (6, .int w)]
/-- from the making of the OPENING on -/
theorem zh_he44 {d : Nat} {k p f b l w c : Int32} {v : Value} {n : Int32} (hV : xV xVV xX xW og xc_55) (hH : xHI xKT xSG τ h) (hX : xX τ h) (k0 : 0 ≤ k.toInt ∧ k.toInt ≤ 3) (f0 : 0 ≤ f.toInt ∧ f.toInt ≤ 5) (w0 : 0 ≤ w.toInt ∧ w.toInt ≤ 1) (hc : h[25]? = some (.inr (1, [.int n, .int c, v]))) (c0 : 0 ≤ c.toInt) (c1 : c.toInt ≤ 59) : zm_Y og (d + 2) 107 44 (xhl k p f b l w) [] h (xheQ τ h) := by
  have s0 := hX.1
  obtain ⟨fs, hh0, hl0, hsp0⟩ := xcf_o hH (s0 0 rfl) (show xKT 0 = some (.inl (10, _)) from rfl)
  have hh0 : h[0]? = some (.inr (10, fs)) := hh0
  have g10 : fs[10]? = some (.ref 36) := xone hl0 hsp0 rfl
  have g8 : fs[8]? = some (.ref 25) := xone hl0 hsp0 rfl
  obtain ⟨ps, hh36, hl36, hsp36⟩ := xcf_o hH (s0 36 rfl) (show xKT 36 = some (.inl (6, _)) from rfl)
  have hh36 : h[36]? = some (.inr (6, ps)) := hh36
  have hpl : ps.length = 15 := hl36
  refine zy_n 1 (mr := zm_m107) rfl rfl ?_
  refine zy_h (mr := zm_m107) rfl rfl (zh_get hh0 g10) ?_
  refine zy_n 1 (mr := zm_m107) rfl rfl ?_
  refine zy_h (mr := zm_m107) rfl rfl (zh_put hh36 (by rw [hpl]; rfl) rfl) ?_
  obtain ⟨hX1, hW1⟩ := xXW_ok.1 τ h 36 36 6 9 ps (.int 0) hX (s0 36 rfl) rfl hh36 (by omega)
  have hH1 := xHI_set (c := .inr (6, ps.set 9 (.int 0))) hH hh36 (s0 36 rfl) (show xKT 36 = some (.inl (6, _)) from rfl) ⟨ps.set 9 (.int 0), rfl, by rw [List.length_set]; exact hpl, fun g sp' v' a1 a2 => by
    by_cases e : 9 = g
    · subst e
      rw [List.getElem?_set_self (by omega)] at a2
      cases a2
      cases a1
      exact ⟨_, List.mem_cons_self, 0, rfl, by decide, by decide⟩
    · rw [List.getElem?_set_ne e] at a2
      exact hsp36 g sp' v' a1 a2⟩
  have hF1 : xF (xms xc_56.2.2.2.1) τ h τ (h.set 36 (.inr (6, ps.set 9 (.int 0)))) := xF_o (s0 36 rfl) rfl hh36
  have hl1 : (h.set 36 (.inr (6, ps.set 9 (.int 0)))).length = h.length := List.length_set
  have h10 : (h.set 36 (.inr (6, ps.set 9 (.int 0))))[0]? = some (.inr (10, fs)) := zs_ne hh0 (by decide)
  have h125 : (h.set 36 (.inr (6, ps.set 9 (.int 0))))[25]? = some (.inr (1, [.int n, .int c, v])) := zs_ne hc (by decide)
  generalize h.set 36 (.inr (6, ps.set 9 (.int 0))) = h1 at hX1 hW1 hH1 hF1 hl1 h10 h125 ⊢
  refine zy_n 1 (mr := zm_m107) rfl rfl ?_
  refine zy_h (mr := zm_m107) rfl rfl (zh_get h10 g8) ?_
  refine zy_h (mr := zm_m107) rfl rfl (zh_new (n := h1.length) rfl) ?_
  refine zy_n 7 (mr := zm_m107) rfl rfl ?_
  have hnew : (h1 ++ [Sum.inr (5, zm_df 5)] : zm_H)[h1.length]? = some (.inr (5, zm_df 5)) := by
    rw [List.getElem?_append_right (Nat.le_refl _), Nat.sub_self]
    rfl
  refine zy_c (mr := zm_m107) (mc := zm_m24) rfl rfl rfl rfl rfl ?_
  refine (zh_oin (r := 0) (k := k) (f := f) (p := p) (b := b) (l := l) hnew).mono (fun q h' hq => ?_)
  obtain ⟨rfl, rfl⟩ := hq
  rw [xset_last]
  have hH2 : xHI xKT xSG (τ ++ [210]) (h1 ++ [.inr (5, [.int 0, .int k, .int f, .int p, .int (xob b), .int (xob l), .int 0, .int (-1)])]) := by
    refine xHI_appo hH1 (show xKT 210 = some (.inl (5, _)) from rfl) rfl (fun g sp' v' a1 a2 => ?_)
    have hlt : g < 8 := by
      have := (List.getElem?_eq_some_iff.mp a2).1
      simpa using this
    rcases (show g = 0 ∨ g = 1 ∨ g = 2 ∨ g = 3 ∨ g = 4 ∨ g = 5 ∨ g = 6 ∨ g = 7 by omega) with rfl | rfl | rfl | rfl | rfl | rfl | rfl | rfl
    · cases a1; cases a2; exact ⟨_, List.mem_cons_self, 0, rfl, by decide, by decide⟩
    · cases a1; cases a2; exact ⟨_, List.mem_cons_self, k, rfl, k0.1, k0.2⟩
    · cases a1; cases a2; exact ⟨_, List.mem_cons_self, f, rfl, f0.1, f0.2⟩
    · cases a1; cases a2; exact ⟨_, List.mem_cons_self, p, rfl, (xb_rng p).1, (xb_rng p).2⟩
    · cases a1; cases a2; exact ⟨_, List.mem_cons_self, xob b, rfl, (xob_01 b).1, (xob_01 b).2⟩
    · cases a1; cases a2; exact ⟨_, List.mem_cons_self, xob l, rfl, (xob_01 l).1, (xob_01 l).2⟩
    · cases a1; cases a2; exact ⟨_, List.mem_cons_self, 0, rfl, by decide, by decide⟩
    · cases a1; cases a2; exact ⟨_, List.mem_cons_self, -1, rfl, by decide, by decide⟩
  obtain ⟨hX2, hW2⟩ := xX_appo (ci := 5) (ws := [.int 0, .int k, .int f, .int p, .int (xob b), .int (xob l), .int 0, .int (-1)]) hX1 hH1
  have hF2 : xF (xms xc_56.2.2.2.1) τ h (τ ++ [210]) (h1 ++ [.inr (5, [.int 0, .int k, .int f, .int p, .int (xob b), .int (xob l), .int 0, .int (-1)])]) := xF_trans hF1 xF_app
  have h225 : (h1 ++ [.inr (5, [.int 0, .int k, .int f, .int p, .int (xob b), .int (xob l), .int 0, .int (-1)])])[25]? = some (.inr (1, [.int n, .int c, v])) := zs_app h125
  have hlen1 := hH1.1
  have hW2 : xW (h1 ++ [.inr (5, [.int 0, .int k, .int f, .int p, .int (xob b), .int (xob l), .int 0, .int (-1)])]) = xW h1 + 8 + 13 := hW2
  generalize h1 ++ [.inr (5, [.int 0, .int k, .int f, .int p, .int (xob b), .int (xob l), .int 0, .int (-1)])] = h2 at hH2 hX2 hW2 hF2 h225 ⊢
  refine zy_n 2 (mr := zm_m107) rfl rfl ?_
  refine zy_c (mr := zm_m107) (mc := zm_m109) (q := (109, [.ref 25, .ref h1.length, .int w, .int (-1)], [])) rfl rfl ?_ rfl rfl ?_
  · exact zh_callv3 h225 rfl
  have hcall := hV [w.toInt, -1, c.toInt] [h1.length] (τ ++ [210]) h2 (lv_args 0 [.ref 25, .ref h1.length, .int w, .int (-1)]) hH2 hX2 ?_ ?_
  · refine (hcall.deep (show (1 : Nat) ≤ d + 1 by omega)).mono (fun r h' hq => ?_)
    obtain ⟨τ3, hH3, hX3, hF3, hW3, q, hq, r', s', hDq, hrq⟩ := hq
    have hq := List.mem_singleton.mp hq
    subst hq
    cases r with
    | none => cases hrq
    | some vr =>
      obtain ⟨i, rfl, -⟩ := hrq
      refine zy_r (mr := zm_m107) rfl rfl rfl ⟨i, τ3, rfl, hH3, hX3, xF_trans hF2 (xF_weak hF3 (fun a b e => xms_sub (a := xc_55.2.2.2.1) (b := xc_56.2.2.2.1) (by decide) a b e)), ?_⟩
      have hW3 : xW h' ≤ xW h2 + 0 := hW3
      omega
  · have hno : ∀ {α : Type} {P : α → Prop}, ∀ q ∈ ([] : List α), P q := fun q hq => by cases hq
    refine ⟨⟨⟨fun q hq => ?_, hno⟩, rfl⟩, ⟨rfl, fun j kd hj => ?_⟩, fun q hq => ?_, hno⟩
    · have hq : q ∈ [((0 : Nat), (Int.ofNat 0), (Int.ofNat 1)), (1, .negSucc 0, .ofNat 59), (2, .ofNat 0, .ofNat 59)] := hq
      simp only [List.mem_cons, List.not_mem_nil, or_false] at hq
      rcases hq with rfl | rfl | rfl
      · exact ⟨w.toInt, rfl, w0.1, w0.2⟩
      · exact ⟨-1, rfl, by decide, by decide⟩
      · exact ⟨c.toInt, rfl, c0, c1⟩
    · have hj : [210][j]? = some kd := hj
      have hlt : j < 1 := (List.getElem?_eq_some_iff.mp hj).1
      have e : j = 0 := by omega
      subst e
      cases hj
      exact ⟨h1.length, rfl, by rw [hlen1]; simp⟩
    · have hq := List.mem_singleton.mp hq
      subst hq
      refine ⟨25, .int c, rfl, by simp only [xfd, h225]; rfl, c, rfl, xe_sym (s := 2) rfl⟩
  · intro q hq
    have hq : q ∈ [((0 : Nat), ((3, xk 0, 25) : xv)), (1, (4, xk 0, 0)), (2, (0, (.ofNat 0, [(0, .ofNat 1)]), 0)), (3, (0, (.ofNat 0, [(1, .ofNat 1)]), 0))] := hq
    simp only [List.mem_cons, List.not_mem_nil, or_false] at hq
    rcases hq with rfl | rfl | rfl | rfl
    · exact ⟨_, rfl, rfl⟩
    · exact ⟨_, rfl, h1.length, rfl, rfl⟩
    · exact ⟨_, rfl, w, rfl, xe_sym (s := 0) rfl⟩
    · exact ⟨_, rfl, -1, rfl, xe_sym (s := 1) rfl⟩
end XHV
