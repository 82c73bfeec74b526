/-! By hand: makeRoom, on -/
theorem xkt_js {kd t n : Nat} {js : List xJ} (h : (match xKT kd with
  | some (.inr d) => Nat.beq d.1 t && (Nat.beq d.2.1 n && (List.range n).all (fun j => d.2.2.any (xzj t j)))
  | _ => false) = true) : ∃ js, xKT kd = some (.inr (t, n, js)) ∧ (List.range n).all (fun j => js.any (xzj t j)) = true := by
  split at h
  · rename_i d hd
    simp only [Bool.and_eq_true] at h
    obtain ⟨a, b, js⟩ := d
    have e1 : a = t := Nat.eq_of_beq_eq_true h.1
    have e2 : b = n := Nat.eq_of_beq_eq_true h.2.1
    subst e1
    subst e2
    exact ⟨js, hd, h.2.2⟩
  · cases h
set_option maxRecDepth 100000 in
theorem xj_212 : ∃ js, xKT 212 = some (.inr (1, 10240, js)) ∧ (List.range 10240).all (fun j => js.any (xzj 1 j)) = true := xkt_js (js := []) (by decide +kernel)
set_option maxRecDepth 100000 in
theorem xj_213 : ∃ js, xKT 213 = some (.inr (1, 1024, js)) ∧ (List.range 1024).all (fun j => js.any (xzj 1 j)) = true := xkt_js (js := []) (by decide +kernel)
set_option maxRecDepth 100000 in
theorem xj_214 : ∃ js, xKT 214 = some (.inr (0, 1024, js)) ∧ (List.range 1024).all (fun j => js.any (xzj 0 j)) = true := xkt_js (js := []) (by decide +kernel)
set_option maxRecDepth 100000 in
theorem xj_215 : ∃ js, xKT 215 = some (.inr (0, 1024, js)) ∧ (List.range 1024).all (fun j => js.any (xzj 0 j)) = true := xkt_js (js := []) (by decide +kernel)
set_option maxRecDepth 100000 in
theorem xj_216 : ∃ js, xKT 216 = some (.inr (1, 91, js)) ∧ (List.range 91).all (fun j => js.any (xzj 1 j)) = true := xkt_js (js := []) (by decide +kernel)
section XRV
variable {og : Nat → Option zm_C}
theorem xtwo {τ : List Nat} {h : zm_H} {fs : List Value} {d : Nat × List (List xA)} {f kd : Nat} (hl : fs.length = d.2.length) (hsp : ∀ (f : Nat) (sp : List xA) (v : Value), d.2[f]? = some sp → fs[f]? = some v → ∃ a ∈ sp, xsat τ a v) (hf : d.2[f]? = some [(2, 0, 0, 0), (4, kd, 0, 0)]) : fs[f]? = some .null ∨ ∃ b, fs[f]? = some (.ref b) ∧ τ[b]? = some kd := by
  have hlt := (List.getElem?_eq_some_iff.mp hf).1
  have hg : fs[f]? = some fs[f] := List.getElem?_eq_getElem (by omega)
  obtain ⟨a, ha, hs⟩ := hsp f _ _ hf hg
  simp only [List.mem_cons, List.not_mem_nil, or_false] at ha
  rcases ha with rfl | rfl
  · left
    have hs : fs[f] = .null := hs
    rw [hg, hs]
  · right
    obtain ⟨b, h1, h2⟩ := hs
    exact ⟨b, by rw [hg, h1], h2⟩
/-- what the contract says at its end -/
theorem xroom_end {τ τ' : List Nat} {h h' : zm_H} {b0 b1 b2 b3 b4 : Nat} (hH : xHI xKT xSG τ' h') (hX : xX τ' h') (hF : xF (xms xc_48.2.2.2.1) τ h τ' h') (hW : xW h' ≤ xW h) (e0 : xfd h' 36 10 = some (.ref b0)) (e1 : xfd h' 36 11 = some (.ref b1)) (e2 : xfd h' 36 12 = some (.ref b2)) (e3 : xfd h' 36 13 = some (.ref b3)) (e4 : xfd h' 36 14 = some (.ref b4)) (t0 : τ'[b0]? = some 212) (t1 : τ'[b1]? = some 213) (t2 : τ'[b2]? = some 214) (t3 : τ'[b3]? = some 215) (t4 : τ'[b4]? = some 216) : xQc xVV xX xW xc_48 [] [] τ h none h' := by
  have hno : ∀ {α : Type} {P : α → Prop}, ∀ q ∈ ([] : List α), P q := fun q hq => by cases hq
  refine ⟨τ', hH, hX, hF, by omega, _, List.mem_cons_self, [], [b0, b1, b2, b3, b4], ⟨⟨⟨hno, hno⟩, rfl⟩, ⟨rfl, fun k kd hk => ?_⟩, fun q hq => ?_, hno⟩, trivial⟩
  · have hk : [212, 213, 214, 215, 216][k]? = some kd := hk
    have hlt : k < 5 := (List.getElem?_eq_some_iff.mp hk).1
    rcases (show k = 0 ∨ k = 1 ∨ k = 2 ∨ k = 3 ∨ k = 4 by omega) with rfl | rfl | rfl | rfl | rfl
    · cases hk; exact ⟨b0, rfl, t0⟩
    · cases hk; exact ⟨b1, rfl, t1⟩
    · cases hk; exact ⟨b2, rfl, t2⟩
    · cases hk; exact ⟨b3, rfl, t3⟩
    · cases hk; exact ⟨b4, rfl, t4⟩
  · have hq : q ∈ [(((3, xk 0, 36) : xv), 10, ((4, xk 0, 0) : xv)), ((3, xk 0, 36), 11, (4, xk 0, 1)), ((3, xk 0, 36), 12, (4, xk 0, 2)), ((3, xk 0, 36), 13, (4, xk 0, 3)), ((3, xk 0, 36), 14, (4, xk 0, 4))] := hq
    simp only [List.mem_cons, List.not_mem_nil, or_false] at hq
    rcases hq with rfl | rfl | rfl | rfl | rfl
    · exact ⟨36, _, rfl, e0, b0, rfl, rfl⟩
    · exact ⟨36, _, rfl, e1, b1, rfl, rfl⟩
    · exact ⟨36, _, rfl, e2, b2, rfl, rfl⟩
    · exact ⟨36, _, rfl, e3, b3, rfl, rfl⟩
    · exact ⟨36, _, rfl, e4, b4, rfl, rfl⟩
theorem xv_room : xV xVV xX xW og xc_48 := by
  intro ρ σ τ h lc hH hX hD hl
  have hρ : ρ = [] := List.eq_nil_of_length_eq_zero hD.1.2.symm
  have hσ : σ = [] := List.eq_nil_of_length_eq_zero hD.2.1.1
  subst hρ
  subst hσ
  have hH : xHI xKT xSG τ h := hH
  obtain ⟨v0, g0, rfl⟩ := hl _ List.mem_cons_self
  obtain ⟨s0, sx1, sx2, sx3, sp, sl⟩ := hX
  obtain ⟨fs, hh, hlen, hsp⟩ := xcf_o hH (s0 36 rfl) (show xKT 36 = some (.inl (6, _)) from rfl)
  have hh : h[36]? = some (.inr (6, fs)) := hh
  have hlen15 : fs.length = 15 := hlen
  have hfd : ∀ f, xfd h 36 f = fs[f]? := fun f => by simp only [xfd, hh]
  have d10 := xtwo (h := h) (f := 10) hlen hsp rfl
  have d11 := xtwo (h := h) (f := 11) hlen hsp rfl
  have d12 := xtwo (h := h) (f := 12) hlen hsp rfl
  have d13 := xtwo (h := h) (f := 13) hlen hsp rfl
  have d14 := xtwo (h := h) (f := 14) hlen hsp rfl
  refine zy_sub [(0, .ref 36)] (by simp) (fun q hq => by rw [List.mem_singleton.mp hq]; exact g0) ?_
  show zm_Y og 12 97 0 _ _ _ _
  refine zy_n 1 (mr := zm_m97) rfl rfl ?_
  rcases d10 with f10 | ⟨b0, f10, t0⟩
  · obtain ⟨j0, k0, z0⟩ := xj_212
    obtain ⟨j1, k1, z1⟩ := xj_213
    obtain ⟨j2, k2, z2⟩ := xj_214
    obtain ⟨j3, k3, z3⟩ := xj_215
    obtain ⟨j4, k4, z4⟩ := xj_216
    refine zy_h (mr := zm_m97) rfl rfl (zh_get hh f10) ?_
    refine zy_b (mr := zm_m97) rfl rfl rfl ?_
    have hk36 : xKT 36 = some (.inl (6, _)) := rfl
    obtain ⟨H0, X0, L0, Z0, C0, F0⟩ := xmk (f := 10) (kd := 212) (t := 1) (n := 10240) hH (⟨s0, sx1, sx2, sx3, sp⟩ : xX5 τ h) hh k0 (by decide) z0 ⟨_, rfl, rfl, rfl⟩ (List.mem_cons_of_mem _ List.mem_cons_self)
    refine zy_n 2 (mr := zm_m97) rfl rfl ?_
    refine zy_h (mr := zm_m97) rfl rfl (zh_newa rfl rfl rfl) ?_
    refine zy_h (mr := zm_m97) rfl rfl (zh_put (zs_app hh) (by rw [hlen15]; rfl) rfl) ?_
    have G0 := xF_trans F0 (xF_o (v := .ref (h).length) (f := 10) (X0.1 36 rfl) rfl (zs_app (g := [.inl (1, 10240, zm_zero 1)]) hh))
    obtain ⟨H1, X1, L1, Z1, C1, F1⟩ := xmk (f := 11) (kd := 213) (t := 1) (n := 1024) H0 X0 C0 k1 (by decide) z1 ⟨_, rfl, rfl, rfl⟩ (List.mem_cons_of_mem _ List.mem_cons_self)
    refine zy_n 2 (mr := zm_m97) rfl rfl ?_
    refine zy_h (mr := zm_m97) rfl rfl (zh_newa rfl rfl rfl) ?_
    refine zy_h (mr := zm_m97) rfl rfl (zh_put (zs_app C0) (by simp only [List.length_set]; rw [hlen15]; rfl) rfl) ?_
    have G1 := xF_trans F1 (xF_o (v := .ref (xmkh h 1 10240 10 fs).length) (f := 11) (X1.1 36 rfl) rfl (zs_app (g := [.inl (1, 1024, zm_zero 1)]) C0))
    obtain ⟨H2, X2, L2, Z2, C2, F2⟩ := xmk (f := 12) (kd := 214) (t := 0) (n := 1024) H1 X1 C1 k2 (by decide) z2 ⟨_, rfl, rfl, rfl⟩ (List.mem_cons_of_mem _ List.mem_cons_self)
    refine zy_n 2 (mr := zm_m97) rfl rfl ?_
    refine zy_h (mr := zm_m97) rfl rfl (zh_newa rfl rfl rfl) ?_
    refine zy_h (mr := zm_m97) rfl rfl (zh_put (zs_app C1) (by simp only [List.length_set]; rw [hlen15]; rfl) rfl) ?_
    have G2 := xF_trans F2 (xF_o (v := .ref (xmkh (xmkh h 1 10240 10 fs) 1 1024 11 ((fs).set 10 (.ref (h).length))).length) (f := 12) (X2.1 36 rfl) rfl (zs_app (g := [.inl (0, 1024, zm_zero 0)]) C1))
    obtain ⟨H3, X3, L3, Z3, C3, F3⟩ := xmk (f := 13) (kd := 215) (t := 0) (n := 1024) H2 X2 C2 k3 (by decide) z3 ⟨_, rfl, rfl, rfl⟩ (List.mem_cons_of_mem _ List.mem_cons_self)
    refine zy_n 2 (mr := zm_m97) rfl rfl ?_
    refine zy_h (mr := zm_m97) rfl rfl (zh_newa rfl rfl rfl) ?_
    refine zy_h (mr := zm_m97) rfl rfl (zh_put (zs_app C2) (by simp only [List.length_set]; rw [hlen15]; rfl) rfl) ?_
    have G3 := xF_trans F3 (xF_o (v := .ref (xmkh (xmkh (xmkh h 1 10240 10 fs) 1 1024 11 ((fs).set 10 (.ref (h).length))) 0 1024 12 (((fs).set 10 (.ref (h).length)).set 11 (.ref (xmkh h 1 10240 10 fs).length))).length) (f := 13) (X3.1 36 rfl) rfl (zs_app (g := [.inl (0, 1024, zm_zero 0)]) C2))
    obtain ⟨H4, X4, L4, Z4, C4, F4⟩ := xmk (f := 14) (kd := 216) (t := 1) (n := 91) H3 X3 C3 k4 (by decide) z4 ⟨_, rfl, rfl, rfl⟩ (List.mem_cons_of_mem _ List.mem_cons_self)
    refine zy_n 2 (mr := zm_m97) rfl rfl ?_
    refine zy_h (mr := zm_m97) rfl rfl (zh_newa rfl rfl rfl) ?_
    refine zy_h (mr := zm_m97) rfl rfl (zh_put (zs_app C3) (by simp only [List.length_set]; rw [hlen15]; rfl) rfl) ?_
    have G4 := xF_trans F4 (xF_o (v := .ref (xmkh (xmkh (xmkh (xmkh h 1 10240 10 fs) 1 1024 11 ((fs).set 10 (.ref (h).length))) 0 1024 12 (((fs).set 10 (.ref (h).length)).set 11 (.ref (xmkh h 1 10240 10 fs).length))) 0 1024 13 ((((fs).set 10 (.ref (h).length)).set 11 (.ref (xmkh h 1 10240 10 fs).length)).set 12 (.ref (xmkh (xmkh h 1 10240 10 fs) 1 1024 11 ((fs).set 10 (.ref (h).length))).length))).length) (f := 14) (X4.1 36 rfl) rfl (zs_app (g := [.inl (1, 91, zm_zero 1)]) C3))
    refine zy_r (mr := zm_m97) rfl rfl rfl ?_
    have hf5 : ∀ f, xfd (xmkh (xmkh (xmkh (xmkh (xmkh (h) 1 10240 10 (fs)) 1 1024 11 ((fs).set 10 (.ref (h).length))) 0 1024 12 (((fs).set 10 (.ref (h).length)).set 11 (.ref (xmkh (h) 1 10240 10 (fs)).length))) 0 1024 13 ((((fs).set 10 (.ref (h).length)).set 11 (.ref (xmkh (h) 1 10240 10 (fs)).length)).set 12 (.ref (xmkh (xmkh (h) 1 10240 10 (fs)) 1 1024 11 ((fs).set 10 (.ref (h).length))).length))) 1 91 14 (((((fs).set 10 (.ref (h).length)).set 11 (.ref (xmkh (h) 1 10240 10 (fs)).length)).set 12 (.ref (xmkh (xmkh (h) 1 10240 10 (fs)) 1 1024 11 ((fs).set 10 (.ref (h).length))).length)).set 13 (.ref (xmkh (xmkh (xmkh (h) 1 10240 10 (fs)) 1 1024 11 ((fs).set 10 (.ref (h).length))) 0 1024 12 (((fs).set 10 (.ref (h).length)).set 11 (.ref (xmkh (h) 1 10240 10 (fs)).length))).length))) 36 f = ((((((fs).set 10 (.ref (h).length)).set 11 (.ref (xmkh (h) 1 10240 10 (fs)).length)).set 12 (.ref (xmkh (xmkh (h) 1 10240 10 (fs)) 1 1024 11 ((fs).set 10 (.ref (h).length))).length)).set 13 (.ref (xmkh (xmkh (xmkh (h) 1 10240 10 (fs)) 1 1024 11 ((fs).set 10 (.ref (h).length))) 0 1024 12 (((fs).set 10 (.ref (h).length)).set 11 (.ref (xmkh (h) 1 10240 10 (fs)).length))).length)).set 14 (.ref (xmkh (xmkh (xmkh (xmkh (h) 1 10240 10 (fs)) 1 1024 11 ((fs).set 10 (.ref (h).length))) 0 1024 12 (((fs).set 10 (.ref (h).length)).set 11 (.ref (xmkh (h) 1 10240 10 (fs)).length))) 0 1024 13 ((((fs).set 10 (.ref (h).length)).set 11 (.ref (xmkh (h) 1 10240 10 (fs)).length)).set 12 (.ref (xmkh (xmkh (h) 1 10240 10 (fs)) 1 1024 11 ((fs).set 10 (.ref (h).length))).length))).length))[f]? := fun f => by simp only [xfd, C4]
    have hlh := hH.1
    have r0 : ((((((fs).set 10 (.ref (h).length)).set 11 (.ref (xmkh (h) 1 10240 10 (fs)).length)).set 12 (.ref (xmkh (xmkh (h) 1 10240 10 (fs)) 1 1024 11 ((fs).set 10 (.ref (h).length))).length)).set 13 (.ref (xmkh (xmkh (xmkh (h) 1 10240 10 (fs)) 1 1024 11 ((fs).set 10 (.ref (h).length))) 0 1024 12 (((fs).set 10 (.ref (h).length)).set 11 (.ref (xmkh (h) 1 10240 10 (fs)).length))).length)).set 14 (.ref (xmkh (xmkh (xmkh (xmkh (h) 1 10240 10 (fs)) 1 1024 11 ((fs).set 10 (.ref (h).length))) 0 1024 12 (((fs).set 10 (.ref (h).length)).set 11 (.ref (xmkh (h) 1 10240 10 (fs)).length))) 0 1024 13 ((((fs).set 10 (.ref (h).length)).set 11 (.ref (xmkh (h) 1 10240 10 (fs)).length)).set 12 (.ref (xmkh (xmkh (h) 1 10240 10 (fs)) 1 1024 11 ((fs).set 10 (.ref (h).length))).length))).length))[10]? = some (.ref (h).length) := by rw [List.getElem?_set_ne (by decide), List.getElem?_set_ne (by decide), List.getElem?_set_ne (by decide), List.getElem?_set_ne (by decide), List.getElem?_set_self (by first | omega | (simp only [List.length_set]; omega))]
    have r1 : ((((((fs).set 10 (.ref (h).length)).set 11 (.ref (xmkh (h) 1 10240 10 (fs)).length)).set 12 (.ref (xmkh (xmkh (h) 1 10240 10 (fs)) 1 1024 11 ((fs).set 10 (.ref (h).length))).length)).set 13 (.ref (xmkh (xmkh (xmkh (h) 1 10240 10 (fs)) 1 1024 11 ((fs).set 10 (.ref (h).length))) 0 1024 12 (((fs).set 10 (.ref (h).length)).set 11 (.ref (xmkh (h) 1 10240 10 (fs)).length))).length)).set 14 (.ref (xmkh (xmkh (xmkh (xmkh (h) 1 10240 10 (fs)) 1 1024 11 ((fs).set 10 (.ref (h).length))) 0 1024 12 (((fs).set 10 (.ref (h).length)).set 11 (.ref (xmkh (h) 1 10240 10 (fs)).length))) 0 1024 13 ((((fs).set 10 (.ref (h).length)).set 11 (.ref (xmkh (h) 1 10240 10 (fs)).length)).set 12 (.ref (xmkh (xmkh (h) 1 10240 10 (fs)) 1 1024 11 ((fs).set 10 (.ref (h).length))).length))).length))[11]? = some (.ref (xmkh (h) 1 10240 10 (fs)).length) := by rw [List.getElem?_set_ne (by decide), List.getElem?_set_ne (by decide), List.getElem?_set_ne (by decide), List.getElem?_set_self (by first | omega | (simp only [List.length_set]; omega))]
    have r2 : ((((((fs).set 10 (.ref (h).length)).set 11 (.ref (xmkh (h) 1 10240 10 (fs)).length)).set 12 (.ref (xmkh (xmkh (h) 1 10240 10 (fs)) 1 1024 11 ((fs).set 10 (.ref (h).length))).length)).set 13 (.ref (xmkh (xmkh (xmkh (h) 1 10240 10 (fs)) 1 1024 11 ((fs).set 10 (.ref (h).length))) 0 1024 12 (((fs).set 10 (.ref (h).length)).set 11 (.ref (xmkh (h) 1 10240 10 (fs)).length))).length)).set 14 (.ref (xmkh (xmkh (xmkh (xmkh (h) 1 10240 10 (fs)) 1 1024 11 ((fs).set 10 (.ref (h).length))) 0 1024 12 (((fs).set 10 (.ref (h).length)).set 11 (.ref (xmkh (h) 1 10240 10 (fs)).length))) 0 1024 13 ((((fs).set 10 (.ref (h).length)).set 11 (.ref (xmkh (h) 1 10240 10 (fs)).length)).set 12 (.ref (xmkh (xmkh (h) 1 10240 10 (fs)) 1 1024 11 ((fs).set 10 (.ref (h).length))).length))).length))[12]? = some (.ref (xmkh (xmkh (h) 1 10240 10 (fs)) 1 1024 11 ((fs).set 10 (.ref (h).length))).length) := by rw [List.getElem?_set_ne (by decide), List.getElem?_set_ne (by decide), List.getElem?_set_self (by first | omega | (simp only [List.length_set]; omega))]
    have r3 : ((((((fs).set 10 (.ref (h).length)).set 11 (.ref (xmkh (h) 1 10240 10 (fs)).length)).set 12 (.ref (xmkh (xmkh (h) 1 10240 10 (fs)) 1 1024 11 ((fs).set 10 (.ref (h).length))).length)).set 13 (.ref (xmkh (xmkh (xmkh (h) 1 10240 10 (fs)) 1 1024 11 ((fs).set 10 (.ref (h).length))) 0 1024 12 (((fs).set 10 (.ref (h).length)).set 11 (.ref (xmkh (h) 1 10240 10 (fs)).length))).length)).set 14 (.ref (xmkh (xmkh (xmkh (xmkh (h) 1 10240 10 (fs)) 1 1024 11 ((fs).set 10 (.ref (h).length))) 0 1024 12 (((fs).set 10 (.ref (h).length)).set 11 (.ref (xmkh (h) 1 10240 10 (fs)).length))) 0 1024 13 ((((fs).set 10 (.ref (h).length)).set 11 (.ref (xmkh (h) 1 10240 10 (fs)).length)).set 12 (.ref (xmkh (xmkh (h) 1 10240 10 (fs)) 1 1024 11 ((fs).set 10 (.ref (h).length))).length))).length))[13]? = some (.ref (xmkh (xmkh (xmkh (h) 1 10240 10 (fs)) 1 1024 11 ((fs).set 10 (.ref (h).length))) 0 1024 12 (((fs).set 10 (.ref (h).length)).set 11 (.ref (xmkh (h) 1 10240 10 (fs)).length))).length) := by rw [List.getElem?_set_ne (by decide), List.getElem?_set_self (by first | omega | (simp only [List.length_set]; omega))]
    have r4 : ((((((fs).set 10 (.ref (h).length)).set 11 (.ref (xmkh (h) 1 10240 10 (fs)).length)).set 12 (.ref (xmkh (xmkh (h) 1 10240 10 (fs)) 1 1024 11 ((fs).set 10 (.ref (h).length))).length)).set 13 (.ref (xmkh (xmkh (xmkh (h) 1 10240 10 (fs)) 1 1024 11 ((fs).set 10 (.ref (h).length))) 0 1024 12 (((fs).set 10 (.ref (h).length)).set 11 (.ref (xmkh (h) 1 10240 10 (fs)).length))).length)).set 14 (.ref (xmkh (xmkh (xmkh (xmkh (h) 1 10240 10 (fs)) 1 1024 11 ((fs).set 10 (.ref (h).length))) 0 1024 12 (((fs).set 10 (.ref (h).length)).set 11 (.ref (xmkh (h) 1 10240 10 (fs)).length))) 0 1024 13 ((((fs).set 10 (.ref (h).length)).set 11 (.ref (xmkh (h) 1 10240 10 (fs)).length)).set 12 (.ref (xmkh (xmkh (h) 1 10240 10 (fs)) 1 1024 11 ((fs).set 10 (.ref (h).length))).length))).length))[14]? = some (.ref (xmkh (xmkh (xmkh (xmkh (h) 1 10240 10 (fs)) 1 1024 11 ((fs).set 10 (.ref (h).length))) 0 1024 12 (((fs).set 10 (.ref (h).length)).set 11 (.ref (xmkh (h) 1 10240 10 (fs)).length))) 0 1024 13 ((((fs).set 10 (.ref (h).length)).set 11 (.ref (xmkh (h) 1 10240 10 (fs)).length)).set 12 (.ref (xmkh (xmkh (h) 1 10240 10 (fs)) 1 1024 11 ((fs).set 10 (.ref (h).length))).length))).length) := by rw [List.getElem?_set_self (by first | omega | (simp only [List.length_set]; omega))]
    refine xroom_end (τ' := (((((τ ++ [212]) ++ [213]) ++ [214]) ++ [215]) ++ [216])) H4 ⟨X4.1, X4.2.1, X4.2.2.1, X4.2.2.2.1, X4.2.2.2.2, fun v f _ _ c3 c4 => ?_⟩ (xF_trans (xF_trans (xF_trans (xF_trans G0 G1) G2) G3) G4) ?_ (by rw [← r0]; exact hf5 10) (by rw [← r1]; exact hf5 11) (by rw [← r2]; exact hf5 12) (by rw [← r3]; exact hf5 13) (by rw [← r4]; exact hf5 14) ?_ ?_ ?_ ?_ ?_
    · show xfd (xmkh (xmkh (xmkh (xmkh (xmkh (h) 1 10240 10 (fs)) 1 1024 11 ((fs).set 10 (.ref (h).length))) 0 1024 12 (((fs).set 10 (.ref (h).length)).set 11 (.ref (xmkh (h) 1 10240 10 (fs)).length))) 0 1024 13 ((((fs).set 10 (.ref (h).length)).set 11 (.ref (xmkh (h) 1 10240 10 (fs)).length)).set 12 (.ref (xmkh (xmkh (h) 1 10240 10 (fs)) 1 1024 11 ((fs).set 10 (.ref (h).length))).length))) 1 91 14 (((((fs).set 10 (.ref (h).length)).set 11 (.ref (xmkh (h) 1 10240 10 (fs)).length)).set 12 (.ref (xmkh (xmkh (h) 1 10240 10 (fs)) 1 1024 11 ((fs).set 10 (.ref (h).length))).length)).set 13 (.ref (xmkh (xmkh (xmkh (h) 1 10240 10 (fs)) 1 1024 11 ((fs).set 10 (.ref (h).length))) 0 1024 12 (((fs).set 10 (.ref (h).length)).set 11 (.ref (xmkh (h) 1 10240 10 (fs)).length))).length))) 36 f ≠ _
      rw [hf5]
      rcases (show f = 11 ∨ f = 12 ∨ f = 13 ∨ f = 14 by omega) with rfl | rfl | rfl | rfl
      · rw [r1]; simp
      · rw [r2]; simp
      · rw [r3]; simp
      · rw [r4]; simp
    · show xW (xmkh (xmkh (xmkh (xmkh (xmkh (h) 1 10240 10 (fs)) 1 1024 11 ((fs).set 10 (.ref (h).length))) 0 1024 12 (((fs).set 10 (.ref (h).length)).set 11 (.ref (xmkh (h) 1 10240 10 (fs)).length))) 0 1024 13 ((((fs).set 10 (.ref (h).length)).set 11 (.ref (xmkh (h) 1 10240 10 (fs)).length)).set 12 (.ref (xmkh (xmkh (h) 1 10240 10 (fs)) 1 1024 11 ((fs).set 10 (.ref (h).length))).length))) 1 91 14 (((((fs).set 10 (.ref (h).length)).set 11 (.ref (xmkh (h) 1 10240 10 (fs)).length)).set 12 (.ref (xmkh (xmkh (h) 1 10240 10 (fs)) 1 1024 11 ((fs).set 10 (.ref (h).length))).length)).set 13 (.ref (xmkh (xmkh (xmkh (h) 1 10240 10 (fs)) 1 1024 11 ((fs).set 10 (.ref (h).length))) 0 1024 12 (((fs).set 10 (.ref (h).length)).set 11 (.ref (xmkh (h) 1 10240 10 (fs)).length))).length))) ≤ xW h
      have w1 : xfd h 36 10 = some .null := by rw [hfd]; exact f10
      have w2 : xfd (xmkh (xmkh (xmkh (xmkh (xmkh (h) 1 10240 10 (fs)) 1 1024 11 ((fs).set 10 (.ref (h).length))) 0 1024 12 (((fs).set 10 (.ref (h).length)).set 11 (.ref (xmkh (h) 1 10240 10 (fs)).length))) 0 1024 13 ((((fs).set 10 (.ref (h).length)).set 11 (.ref (xmkh (h) 1 10240 10 (fs)).length)).set 12 (.ref (xmkh (xmkh (h) 1 10240 10 (fs)) 1 1024 11 ((fs).set 10 (.ref (h).length))).length))) 1 91 14 (((((fs).set 10 (.ref (h).length)).set 11 (.ref (xmkh (h) 1 10240 10 (fs)).length)).set 12 (.ref (xmkh (xmkh (h) 1 10240 10 (fs)) 1 1024 11 ((fs).set 10 (.ref (h).length))).length)).set 13 (.ref (xmkh (xmkh (xmkh (h) 1 10240 10 (fs)) 1 1024 11 ((fs).set 10 (.ref (h).length))) 0 1024 12 (((fs).set 10 (.ref (h).length)).set 11 (.ref (xmkh (h) 1 10240 10 (fs)).length))).length))) 36 10 ≠ some .null := by rw [hf5, r0]; simp
      unfold xW
      rw [if_pos w1, if_neg w2, Z4, Z3, Z2, Z1, Z0, L4, L3, L2, L1, L0]
      omega
    · rw [hlh]
      simp only [List.append_assoc, List.cons_append, List.nil_append]
      rw [List.getElem?_append_right (by omega), show τ.length - τ.length = 0 by omega]
      rfl
    · rw [L0, hlh]
      simp only [List.append_assoc, List.cons_append, List.nil_append]
      rw [List.getElem?_append_right (by omega), show τ.length + 1 - τ.length = 1 by omega]
      rfl
    · rw [L1, L0, hlh]
      simp only [List.append_assoc, List.cons_append, List.nil_append]
      rw [List.getElem?_append_right (by omega), show τ.length + 1 + 1 - τ.length = 2 by omega]
      rfl
    · rw [L2, L1, L0, hlh]
      simp only [List.append_assoc, List.cons_append, List.nil_append]
      rw [List.getElem?_append_right (by omega), show τ.length + 1 + 1 + 1 - τ.length = 3 by omega]
      rfl
    · rw [L3, L2, L1, L0, hlh]
      simp only [List.append_assoc, List.cons_append, List.nil_append]
      rw [List.getElem?_append_right (by omega), show τ.length + 1 + 1 + 1 + 1 - τ.length = 4 by omega]
      rfl
  · refine zy_h (mr := zm_m97) rfl rfl (zh_get hh f10) ?_
    refine zy_b (mr := zm_m97) rfl rfl rfl ?_
    refine zy_r (mr := zm_m97) rfl rfl rfl ?_
    have hnn : ∀ f, 11 ≤ f → f ≤ 14 → fs[f]? ≠ some .null := fun f a b => by
      rw [← hfd]
      exact sl _ f (by rw [hfd]; exact f10) (by simp) a b
    obtain ⟨b1, f11, t1⟩ := d11.resolve_left (hnn 11 (by omega) (by omega))
    obtain ⟨b2, f12, t2⟩ := d12.resolve_left (hnn 12 (by omega) (by omega))
    obtain ⟨b3, f13, t3⟩ := d13.resolve_left (hnn 13 (by omega) (by omega))
    obtain ⟨b4, f14, t4⟩ := d14.resolve_left (hnn 14 (by omega) (by omega))
    exact xroom_end hH ⟨s0, sx1, sx2, sx3, sp, sl⟩ (xF_refl _ _ _) (Nat.le_refl _) (by rw [hfd]; exact f10) (by rw [hfd]; exact f11) (by rw [hfd]; exact f12) (by rw [hfd]; exact f13) (by rw [hfd]; exact f14) t0 t1 t2 t3 t4
end XRV
