section
/-! The run again, with any end -/
section XSP
variable {V : xEnv} {X : List Nat → zm_H → Prop} {W : zm_H → Nat} {og : Nat → Option zm_C} {MT : List (Nat × zm_M)} {CT : List xCo} {c : xCo} {E : List xEn} {R : Option xl} {ρ0 r0 : List Int} {σ0 s0 τ0 : List Nat} {h0 : zm_H}
theorem xstep_okq {s : xS} {l : List xS} {Q : Option Value → zm_H → Prop} (hQ : ∀ r h', xQc V X W c ρ0 σ0 τ0 h0 r h' → Q r h') (hMT : ∀ q ∈ MT, zm_P q.1 = some q.2) (hCT : ∀ c' ∈ CT, xV V X W og c') (hFl : xFl_ok V X) (hX2 : xXW V X W) (hρ : ρ0.length = c.2.1.2.2.1.2) (hσ : σ0.length = c.2.1.2.2.2.1.length) (hx : xstep (V, MT, CT, c, E, R) s = some l) (hG : ∀ t ∈ l, xgd V X W og c (ρ0 ++ r0) (σ0 ++ s0) τ0 h0 Q t) : xgd V X W og c (ρ0 ++ r0) (σ0 ++ s0) τ0 h0 Q s := by
  intro ρ σ τ h lc sc frc d hd hH hX hF hW hD hl hs hf
  unfold xstep at hx
  split at hx
  · cases hx
  · rename_i mr hmr
    have hP : zm_P s.1 = some mr := hMT _ (xmt_mem hmr)
    split at hx
    · cases hx
    · rename_i i hat
      split at hx
      · rename_i q hq
        cases hx
        obtain ⟨r, lc', sc', h1, h2, h3, h4⟩ := xp_ok hD.1 hl hs hq
        refine zy_p hP hat h1 ?_
        have eσ : σ0 ++ s0 ++ σ ++ [] = σ0 ++ s0 ++ σ := List.append_nil _
        refine hG _ (List.mem_singleton.mpr rfl) (ρ ++ r) σ τ h lc' sc' frc d hd hH hX hF hW ?_ ?_ ?_ ?_
        · rw [← List.append_assoc]
          refine ⟨h2, hD.2.1, ?_, ?_⟩
          · have := xmo_mono (r := r) (s := []) hD.2.2.1
            rwa [eσ] at this
          · have := xmao_mono (r := r) (s := []) hD.2.2.2
            rwa [eσ] at this
        · rw [← List.append_assoc]; exact h3
        · rw [← List.append_assoc]; exact h4
        · rw [← List.append_assoc]
          have := xfok_mono (r := r) (s := []) hf
          rwa [eσ] at this
      · split at hx
        · rename_i l0 hb
          cases hx
          obtain ⟨pc', sc', h1, b, hbm, h2, h3, h4⟩ := xb_ok hD.1 hs hb
          refine zy_b hP hat h1 ?_
          have := hG _ (List.mem_map.mpr ⟨b, hbm, rfl⟩) ρ σ τ h lc sc' frc d hd hH hX hF hW ⟨h3, hD.2⟩ hl h4 hf
          rw [← h2]
          exact this
        · split at hx
          · rename_i l0 hh
            cases hx
            obtain ⟨sc', h', τ', h1, hH', hX', hF', z, hz, r, s', hDz, hsz, hWz⟩ := xh_ok (df := zm_df) (og := og) hFl hX2 hH hX hD hs hh
            refine zy_h hP hat h1 ?_
            refine hG _ (List.mem_map.mpr ⟨z, hz, rfl⟩) (ρ ++ r) (σ ++ s') τ' h' lc sc' frc d hd hH' hX' (xF_trans hF hF') ?_ ?_ ?_ ?_ ?_
            · show W h' ≤ W h0 + z.1.2.2.2.2
              omega
            · rw [← List.append_assoc, ← List.append_assoc]; exact hDz
            · rw [← List.append_assoc, ← List.append_assoc]; exact xlk_mono hl
            · rw [← List.append_assoc, ← List.append_assoc]; exact hsz
            · rw [← List.append_assoc, ← List.append_assoc]; exact xfok_mono hf
          · split at hx
            · rename_i o ho
              obtain ⟨r, h1, h2⟩ := xretv_ok hD.1.1 hs ho
              refine zy_r hP hat h1 ?_
              split at hx
              · rename_i hfr
                rw [hfr] at hf
                cases frc with
                | cons g u => cases hf
                | nil =>
                  refine hQ r h ?_
                  show xQc V X W c ρ0 σ0 τ0 h0 r h
                  cases hfi : xfin (V, MT, CT, c, E, R) o s.2.2.2.2.1 with
                  | false => rw [hfi] at hx; cases hx
                  | true =>
                    rw [List.append_assoc, List.append_assoc] at hD h2
                    exact xfin_ok hρ hσ hH hX hF hW hD h2 hfi
              · rename_i f fr hfr
                cases hx
                rw [hfr] at hf
                cases frc with
                | nil => cases hf
                | cons g u =>
                  obtain ⟨⟨e1, e2, e3, e4⟩, e5⟩ := hf
                  show zm_Y og (d + 1) g.1 g.2.1 g.2.2.1 (r.toList ++ g.2.2.2) h (xQ og (d + 1) u _)
                  have := hG _ (List.mem_singleton.mpr rfl) ρ σ τ h g.2.2.1 (r.toList ++ g.2.2.2) u (d + 1) (by rw [List.length_cons] at hd; omega) hH hX hF hW hD e3 (xsk_app (xrs_sk h2) e4) e5
                  rw [e1, e2]
                  exact this
            · split at hx
              · cases hx
              · rename_i q hq
                obtain ⟨ac, rc, h1, h2, h3⟩ := xcall_ok hH hD hs hq
                unfold xgo at hx
                split at hx
                · cases hx
                · rename_i mc hmc
                  have hPc : zm_P q.1 = some mc := hMT _ (xmt_mem hmc)
                  rcases xbif hx with ⟨h4, hx⟩ | ⟨-, hx⟩
                  · have hcat : Nat.ble (zm_cat ac) mc.1.2.2.1 = true := by rw [xcat_ok h2]; exact h4
                    split at hx
                    · rename_i o ho
                      exact xby_ok hP hat hPc hcat h1 hd hH hX hF hW hD hl h2 h3 hf hCT ho hx hG
                    · rcases xbif hx with ⟨h5, hx⟩ | ⟨-, hx⟩
                      · cases hx
                        have h5 : s.2.2.2.2.2.length < c.2.2.2.2.2 := by
                          have := (Nat.blt_eq).mp h5
                          exact this
                        have hfl := xfok_len hf
                        obtain ⟨d', rfl⟩ : ∃ d', d = d' + 1 := ⟨d - 1, by omega⟩
                        refine zy_c hP hat h1 hPc hcat ?_
                        exact hG _ (List.mem_singleton.mpr rfl) ρ σ τ h (lv_args 0 ac) [] ((s.1, s.2.1 + 3, lc, rc) :: frc) d' (by rw [List.length_cons]; omega) hH hX hF hW hD (xargs_lk h2) trivial ⟨⟨rfl, rfl, hl, h3⟩, hf⟩
                      · cases hx
                  · cases hx
theorem xent_okq {s : xS} {Q : Option Value → zm_H → Prop} (hρ : ρ0.length = c.2.1.2.2.1.2) (hσ : σ0.length = c.2.1.2.2.2.1.length) (hI : ∀ e ∈ E, ∀ (r : List Int) (s' τ : List Nat) (h : zm_H) (lc : zm_L) (sc : List Value) (n : Nat), xe (ρ0 ++ r) e.2.2 = some (n : Int) → (∀ Rl z, R = some Rl → xe (ρ0 ++ r0) Rl = some z → (n : Int) < z) → xHI V.1 V.2.1 τ h → X τ h → xF (xms c.2.2.2.1) τ0 h0 τ h → W h ≤ W h0 + e.2.1.2.2.2.2.2.2 → xdok (ρ0 ++ r) (σ0 ++ s') τ h e.2.1.2.2 → xlk (ρ0 ++ r) (σ0 ++ s') e.2.1.1 lc → xsk (ρ0 ++ r) (σ0 ++ s') e.2.1.2.1 sc → zm_Y og c.2.2.2.2.2 c.1 e.1 lc sc h Q) (hR : ∀ Rl, R = some Rl → ∃ z, xe (ρ0 ++ r0) Rl = some z) (hx : xent (V, MT, CT, c, E, R) s = true) : xgd V X W og c (ρ0 ++ r0) (σ0 ++ s0) τ0 h0 Q s := by
  intro ρ σ τ h lc sc frc d hd hH hX hF hW hD hl hs hf
  unfold xent at hx
  split at hx
  · rename_i hfr
    rw [hfr] at hf
    cases frc with
    | cons g u => cases hf
    | nil =>
      obtain ⟨h1, h2⟩ := Bool.and_eq_true_iff.mp hx
      have h1 : s.1 = c.1 := Nat.eq_of_beq_eq_true h1
      obtain ⟨e, he, he1⟩ := List.any_eq_true.mp h2
      unfold xent1 at he1
      rcases xbif he1 with ⟨h3, he1⟩ | ⟨-, he1⟩
      · have h3 : e.1 = s.2.1 := Nat.eq_of_beq_eq_true h3
        obtain ⟨a1, a2⟩ := Bool.and_eq_true_iff.mp he1
        obtain ⟨a3, a4⟩ := Bool.and_eq_true_iff.mp a2
        obtain ⟨a5, a6⟩ := Bool.and_eq_true_iff.mp a3
        obtain ⟨a7, a8⟩ := Bool.and_eq_true_iff.mp a4
        have a7 := Nat.le_of_ble_eq_true a7
        obtain ⟨r1, s1, hD1, hg1⟩ := xprel_ok hH (M := e.2.1.2.2.2.2.1) hD
        obtain ⟨ρc, σc, hb, hDc, hlc, hsc⟩ := xinst_ok hD1 (xlk_mono (r := r1) (s := s1) hl) (xsk_mono (r := r1) (s := s1) hs) a1
        have hb2 := hb
        rw [List.append_assoc, List.append_assoc, List.append_assoc, List.append_assoc] at hb
        obtain ⟨⟨ra, rfl⟩, ⟨sa, rfl⟩⟩ := xpfx hb (by rw [hρ]; exact a5) (by rw [hσ]; exact a6)
        split at a8
        · rename_i ee hee
          obtain ⟨z, z1, z2⟩ := xsub_ok hb2 hee
          obtain ⟨b1, b2⟩ := Bool.and_eq_true_iff.mp a8
          have hz0 := xpv_ok hD1.1.1.1 hD1.1.1.2 8 z2 b1
          have hd : d = c.2.2.2.2.2 := by simpa using hd
          show zm_Y og d s.1 s.2.1 lc sc h Q
          rw [hd, h1, ← h3]
          refine hI e he ra sa τ h lc sc z.toNat ?_ ?_ hH hX hF ?_ hDc hlc hsc
          · rw [z1]; congr 1; omega
          · intro Rl y hRl hy
            subst hRl
            have b3 : xpv (xprel V e.2.1.2.2.2.2.1 s.2.2.2.2.1).1.1.1 (xprel V e.2.1.2.2.2.2.1 s.2.2.2.2.1).1.1.2 8 (xm1 (xadd (.negSucc 0) Rl ee)) = true := b2
            have hy2 : xe (ρ0 ++ r0 ++ ρ ++ r1) Rl = some y := xe_mono (xe_mono hy)
            have := xpv_ok hD1.1.1.1 hD1.1.1.2 8 (xe_m1 (xe_add (k := .negSucc 0) hy2 z2)) b3
            have e2 : y + Int.negSucc 0 * z = y - z := by show y + (-1) * z = _; omega
            omega
          · show W h ≤ W h0 + e.2.1.2.2.2.2.2.2
            omega
        · cases a8
      · cases he1
  · cases hx
theorem xwl_okq {Q : Option Value → zm_H → Prop} (hQ : ∀ r h', xQc V X W c ρ0 σ0 τ0 h0 r h' → Q r h') (hMT : ∀ q ∈ MT, zm_P q.1 = some q.2) (hCT : ∀ c' ∈ CT, xV V X W og c') (hFl : xFl_ok V X) (hX2 : xXW V X W) (hρ : ρ0.length = c.2.1.2.2.1.2) (hσ : σ0.length = c.2.1.2.2.2.1.length) (hE : ∀ t, xent (V, MT, CT, c, E, R) t = true → xgd V X W og c (ρ0 ++ r0) (σ0 ++ s0) τ0 h0 Q t) : ∀ {n : Nat} {l : List xS}, xwl (V, MT, CT, c, E, R) n l = true → ∀ t ∈ l, xgd V X W og c (ρ0 ++ r0) (σ0 ++ s0) τ0 h0 Q t
  | 0, l, hx, _, _ => by cases hx
  | n + 1, [], _, t, ht => by cases ht
  | n + 1, s :: r, hx, t, ht => by
    simp only [xwl] at hx
    split at hx
    · cases hx
    · rename_i l hl
      have ih := xwl_okq hQ hMT hCT hFl hX2 hρ hσ hE hx
      rcases List.mem_cons.mp ht with rfl | ht
      · refine xstep_okq hQ hMT hCT hFl hX2 hρ hσ hl (fun u hu => ?_)
        rcases xpsh_mem (K := (V, MT, CT, c, E, R)) (r := r) hu with h1 | h1
        · exact hE u h1
        · exact ih u h1
      · exact ih t (xpsh_r ht)
end XSP
section XSG2
variable {V : xEnv} {X : List Nat → zm_H → Prop} {W : zm_H → Nat} {og : Nat → Option zm_C} {MT : List (Nat × zm_M)} {CT : List xCo} {c : xCo} {E Eo : List xEn}
theorem xsegq_ok {n : Nat} {s : xS} {Q : Option Value → zm_H → Prop} (hMT : ∀ q ∈ MT, zm_P q.1 = some q.2) (hCT : ∀ c' ∈ CT, xV V X W og c') (hFl : xFl_ok V X) (hX2 : xXW V X W) (h0 : xwl (V, MT, CT, c, E ++ Eo, none) n [s] = true) (h1 : ∀ e ∈ E, xchk1 V MT CT c (E ++ Eo) n e = true) (hfr : s.2.2.2.2.2 = [])
    {ρ r0 : List Int} {σ s0 τ : List Nat} {h : zm_H} {lc : zm_L} {sc : List Value} (hQ : ∀ r h', xQc V X W c ρ σ τ h r h' → Q r h') (hρ : ρ.length = c.2.1.2.2.1.2) (hσ : σ.length = c.2.1.2.2.2.1.length)
    (hI : ∀ e ∈ Eo, ∀ (r : List Int) (s' τ1 : List Nat) (h' : zm_H) (lc : zm_L) (sc : List Value), xHI V.1 V.2.1 τ1 h' → X τ1 h' → xF (xms c.2.2.2.1) τ h τ1 h' → W h' ≤ W h + e.2.1.2.2.2.2.2.2 → xdok (ρ ++ r) (σ ++ s') τ1 h' e.2.1.2.2 → xlk (ρ ++ r) (σ ++ s') e.2.1.1 lc → xsk (ρ ++ r) (σ ++ s') e.2.1.2.1 sc → zm_Y og c.2.2.2.2.2 c.1 e.1 lc sc h' Q)
    (hH : xHI V.1 V.2.1 τ h) (hX : X τ h) (hD : xdok (ρ ++ r0) (σ ++ s0) τ h s.2.2.2.2.1) (hl : xlk (ρ ++ r0) (σ ++ s0) s.2.2.1 lc) (hs : xsk (ρ ++ r0) (σ ++ s0) s.2.2.2.1 sc) : zm_Y og c.2.2.2.2.2 s.1 s.2.1 lc sc h Q := by
  have eρ : ρ ++ [] = ρ := List.append_nil ρ
  have eσ : σ ++ [] = σ := List.append_nil σ
  have main : ∀ (N : Nat), ∀ e ∈ E ++ Eo, ∀ (r : List Int) (s' τ1 : List Nat) (h' : zm_H) (lc : zm_L) (sc : List Value) (m : Nat), m < N → xe (ρ ++ r) e.2.2 = some (m : Int) → xHI V.1 V.2.1 τ1 h' → X τ1 h' → xF (xms c.2.2.2.1) τ h τ1 h' → W h' ≤ W h + e.2.1.2.2.2.2.2.2 → xdok (ρ ++ r) (σ ++ s') τ1 h' e.2.1.2.2 → xlk (ρ ++ r) (σ ++ s') e.2.1.1 lc → xsk (ρ ++ r) (σ ++ s') e.2.1.2.1 sc → zm_Y og c.2.2.2.2.2 c.1 e.1 lc sc h' Q := by
    intro N
    induction N with
    | zero => intro e he r s' τ1 h' lc sc m hm; omega
    | succ N ih =>
      intro e he r s' τ1 h' lc sc m hm hr hH1 hX1 hF1 hW1 hD1 hl1 hs1
      rcases List.mem_append.mp he with he | he
      · have hg := xwl_okq (Q := Q) (r0 := r) (s0 := s') (τ0 := τ) (h0 := h) hQ hMT hCT hFl hX2 hρ hσ (fun t ht => xent_okq hρ hσ (fun e2 he2 r2 s2 τ2 h2 lc2 sc2 m2 hm2 hlt hH2 hX2 hF2 hW2 hD2 hl2 hs2 => ih e2 he2 r2 s2 τ2 h2 lc2 sc2 m2 (by have := hlt e.2.2 (m : Int) rfl hr; omega) hm2 hH2 hX2 hF2 hW2 hD2 hl2 hs2) (fun Rl hRl => by cases hRl; exact ⟨_, hr⟩) ht) (h1 e he) _ (List.mem_singleton.mpr rfl)
        refine hg [] [] τ1 h' lc sc [] c.2.2.2.2.2 rfl hH1 hX1 hF1 hW1 ?_ ?_ ?_ trivial
        · rw [List.append_nil, List.append_nil]; exact hD1
        · rw [List.append_nil, List.append_nil]; exact hl1
        · rw [List.append_nil, List.append_nil]; exact hs1
      · exact hI e he r s' τ1 h' lc sc hH1 hX1 hF1 hW1 hD1 hl1 hs1
  have hg := xwl_okq (Q := Q) (r0 := []) (s0 := []) (τ0 := τ) (h0 := h) hQ hMT hCT hFl hX2 hρ hσ (fun t ht => xent_okq hρ hσ (fun e2 he2 r2 s2 τ2 h2 lc2 sc2 m2 hm2 _ hH2 hX2 hF2 hW2 hD2 hl2 hs2 => main (m2 + 1) e2 he2 r2 s2 τ2 h2 lc2 sc2 m2 (by omega) hm2 hH2 hX2 hF2 hW2 hD2 hl2 hs2) (fun Rl hRl => by cases hRl) ht) h0 _ (List.mem_singleton.mpr rfl)
  refine hg r0 s0 τ h lc sc [] c.2.2.2.2.2 rfl hH hX (xF_refl _ _ _) (Nat.le_add_right _ _) ?_ ?_ ?_ ?_
  · rw [eρ, eσ]; exact hD
  · rw [eρ, eσ]; exact hl
  · rw [eρ, eσ]; exact hs
  · rw [hfr]; trivial
end XSG2
end
section
/-! Sixteenth part: a piece of a method: what its ways out come to is given -/
section XSG
variable {V : xEnv} {X : List Nat → zm_H → Prop} {W : zm_H → Nat} {og : Nat → Option zm_C} {MT : List (Nat × zm_M)} {CT : List xCo} {c : xCo} {E Eo : List xEn}
theorem xseg_ok {n : Nat} {s : xS} (hMT : ∀ q ∈ MT, zm_P q.1 = some q.2) (hCT : ∀ c' ∈ CT, xV V X W og c') (hFl : xFl_ok V X) (hX2 : xXW V X W) (h0 : xwl (V, MT, CT, c, E ++ Eo, none) n [s] = true) (h1 : ∀ e ∈ E, xchk1 V MT CT c (E ++ Eo) n e = true) (hfr : s.2.2.2.2.2 = [])
    {ρ r0 : List Int} {σ s0 τ : List Nat} {h : zm_H} {lc : zm_L} {sc : List Value} (hρ : ρ.length = c.2.1.2.2.1.2) (hσ : σ.length = c.2.1.2.2.2.1.length)
    (hI : ∀ e ∈ Eo, ∀ (r : List Int) (s' τ1 : List Nat) (h' : zm_H) (lc : zm_L) (sc : List Value), xHI V.1 V.2.1 τ1 h' → X τ1 h' → xF (xms c.2.2.2.1) τ h τ1 h' → W h' ≤ W h + e.2.1.2.2.2.2.2.2 → xdok (ρ ++ r) (σ ++ s') τ1 h' e.2.1.2.2 → xlk (ρ ++ r) (σ ++ s') e.2.1.1 lc → xsk (ρ ++ r) (σ ++ s') e.2.1.2.1 sc → zm_Y og c.2.2.2.2.2 c.1 e.1 lc sc h' (xQc V X W c ρ σ τ h))
    (hH : xHI V.1 V.2.1 τ h) (hX : X τ h) (hD : xdok (ρ ++ r0) (σ ++ s0) τ h s.2.2.2.2.1) (hl : xlk (ρ ++ r0) (σ ++ s0) s.2.2.1 lc) (hs : xsk (ρ ++ r0) (σ ++ s0) s.2.2.2.1 sc) : zm_Y og c.2.2.2.2.2 s.1 s.2.1 lc sc h (xQc V X W c ρ σ τ h) := by
  have eρ : ρ ++ [] = ρ := List.append_nil ρ
  have eσ : σ ++ [] = σ := List.append_nil σ
  have main : ∀ (N : Nat), ∀ e ∈ E ++ Eo, ∀ (r : List Int) (s' τ1 : List Nat) (h' : zm_H) (lc : zm_L) (sc : List Value) (m : Nat), m < N → xe (ρ ++ r) e.2.2 = some (m : Int) → xHI V.1 V.2.1 τ1 h' → X τ1 h' → xF (xms c.2.2.2.1) τ h τ1 h' → W h' ≤ W h + e.2.1.2.2.2.2.2.2 → xdok (ρ ++ r) (σ ++ s') τ1 h' e.2.1.2.2 → xlk (ρ ++ r) (σ ++ s') e.2.1.1 lc → xsk (ρ ++ r) (σ ++ s') e.2.1.2.1 sc → zm_Y og c.2.2.2.2.2 c.1 e.1 lc sc h' (xQc V X W c ρ σ τ h) := by
    intro N
    induction N with
    | zero => intro e he r s' τ1 h' lc sc m hm; omega
    | succ N ih =>
      intro e he r s' τ1 h' lc sc m hm hr hH1 hX1 hF1 hW1 hD1 hl1 hs1
      rcases List.mem_append.mp he with he | he
      · have hg := xwl_ok (r0 := r) (s0 := s') (τ0 := τ) (h0 := h) hMT hCT hFl hX2 hρ hσ (fun t ht => xent_ok hρ hσ (fun e2 he2 r2 s2 τ2 h2 lc2 sc2 m2 hm2 hlt hH2 hX2 hF2 hW2 hD2 hl2 hs2 => ih e2 he2 r2 s2 τ2 h2 lc2 sc2 m2 (by have := hlt e.2.2 (m : Int) rfl hr; omega) hm2 hH2 hX2 hF2 hW2 hD2 hl2 hs2) (fun Rl hRl => by cases hRl; exact ⟨_, hr⟩) ht) (h1 e he) _ (List.mem_singleton.mpr rfl)
        refine hg [] [] τ1 h' lc sc [] c.2.2.2.2.2 rfl hH1 hX1 hF1 hW1 ?_ ?_ ?_ trivial
        · rw [List.append_nil, List.append_nil]; exact hD1
        · rw [List.append_nil, List.append_nil]; exact hl1
        · rw [List.append_nil, List.append_nil]; exact hs1
      · exact hI e he r s' τ1 h' lc sc hH1 hX1 hF1 hW1 hD1 hl1 hs1
  have hg := xwl_ok (r0 := []) (s0 := []) (τ0 := τ) (h0 := h) hMT hCT hFl hX2 hρ hσ (fun t ht => xent_ok hρ hσ (fun e2 he2 r2 s2 τ2 h2 lc2 sc2 m2 hm2 _ hH2 hX2 hF2 hW2 hD2 hl2 hs2 => main (m2 + 1) e2 he2 r2 s2 τ2 h2 lc2 sc2 m2 (by omega) hm2 hH2 hX2 hF2 hW2 hD2 hl2 hs2) (fun Rl hRl => by cases hRl) ht) h0 _ (List.mem_singleton.mpr rfl)
  refine hg r0 s0 τ h lc sc [] c.2.2.2.2.2 rfl hH hX (xF_refl _ _ _) (Nat.le_add_right _ _) ?_ ?_ ?_ ?_
  · rw [eρ, eσ]; exact hD
  · rw [eρ, eσ]; exact hl
  · rw [eρ, eσ]; exact hs
  · rw [hfr]; trivial
/-- the end with any int -/
def xip (np : Nat) : xPo := (some (0, (.ofNat 0, [(np, .ofNat 1)]), 0), ((([(np, .negSucc 2147483647, .ofNat 2147483647)], []), np + 1), [], [], [], 0))
def xWQ (V : xEnv) (X : List Nat → zm_H → Prop) (W : zm_H → Nat) (ms : List (Nat × Nat)) (g : Nat) (τ : List Nat) (h : zm_H) (r : Option Value) (h' : zm_H) : Prop := (∃ i : Int32, r = some (.int i)) ∧ ∃ τ', xHI V.1 V.2.1 τ' h' ∧ X τ' h' ∧ xF (xms ms) τ h τ' h' ∧ W h' ≤ W h + g
theorem xWQ_of {np : Nat} {ρ : List Int} {τ : List Nat} {h h' : zm_H} {r : Option Value} (hc : c.2.2.1 = [xip np]) (hq : xQc V X W c ρ [] τ h r h') : xWQ V X W c.2.2.2.1 c.2.2.2.2.1 τ h r h' := by
  obtain ⟨τ', h1, h2, h3, h4, p, hp, r', s', h5, h6⟩ := hq
  rw [hc] at hp
  have hp := List.mem_singleton.mp hp
  subst hp
  refine ⟨?_, τ', h1, h2, h3, h4⟩
  cases r with
  | none => cases h6
  | some v =>
    obtain ⟨i, rfl, -⟩ := h6
    exact ⟨i, rfl⟩
theorem xQc_of {np : Nat} {ρ : List Int} {τ : List Nat} {h h' : zm_H} {r : Option Value} (hc : c.2.2.1 = [xip np]) (hρ : ρ.length = np) (hq : xWQ V X W c.2.2.2.1 c.2.2.2.2.1 τ h r h') : xQc V X W c ρ [] τ h r h' := by
  obtain ⟨⟨i, rfl⟩, τ', h1, h2, h3, h4⟩ := hq
  have hg : (ρ ++ [i.toInt])[np]? = some i.toInt := by
    rw [List.getElem?_append_right (by omega), hρ, Nat.sub_self]
    rfl
  have hno : ∀ {α : Type} {P : α → Prop}, ∀ q ∈ ([] : List α), P q := fun q hq => by cases hq
  refine ⟨τ', h1, h2, h3, h4, xip np, by rw [hc]; exact List.mem_singleton.mpr rfl, [i.toInt], [], ?_, i, rfl, xe_sym (s := np) hg⟩
  refine ⟨⟨⟨?_, hno⟩, ?_⟩, ⟨rfl, fun k kd hk => ?_⟩, hno, hno⟩
  · intro q hq
    have hq := List.mem_singleton.mp hq
    subst hq
    exact ⟨i.toInt, hg, (xb_rng i).1, (xb_rng i).2⟩
  · show np + 1 = _
    rw [List.length_append, hρ]
    rfl
  · have hk : ([] : List Nat)[k]? = some kd := hk
    simp at hk
/-- from a later heap on -/
theorem xWQ_tr {ms : List (Nat × Nat)} {g : Nat} {τ τ1 : List Nat} {h h1 h' : zm_H} {r : Option Value} (hF : xF (xms ms) τ h τ1 h1) (hW : W h1 ≤ W h) (hq : xWQ V X W ms g τ1 h1 r h') : xWQ V X W ms g τ h r h' := by
  obtain ⟨a, τ', b, c, d, e⟩ := hq
  exact ⟨a, τ', b, c, xF_trans hF d, by omega⟩
end XSG
end
section
/-! Pieces for the hands, as data (made by a program) -/
def xs_w0 : xCo := (261, ([], [], ((([(0, .negSucc 2147483647, .ofNat 2147483647), (1, .negSucc 2147483647, .ofNat 2147483647)], []), 2), [], [], [], 0)), [xip 2], [(55, 0), (55, 8), (55, 51), (55, 56), (55, 57), (55, 58), (55, 59), (55, 60), (55, 61), (55, 62), (55, 63), (55, 64), (55, 65), (55, 66), (55, 67), (55, 68), (55, 69), (55, 70), (55, 71), (55, 72), (55, 73), (55, 74), (55, 75), (55, 76), (55, 77), (55, 78), (55, 79), (55, 80), (87, 0), (88, 0), (89, 0), (90, 0), (91, 0), (92, 0), (93, 0)], 0, 56)
def xs_w0_s : xS := (261, 0, [(0, (3, xk 0, 55)), (1, (0, (.ofNat 0, [(0, .ofNat 1)]), 0)), (2, (0, (.ofNat 0, [(1, .ofNat 1)]), 0))], [], ((([(0, .negSucc 2147483647, .ofNat 2147483647), (1, .negSucc 2147483647, .ofNat 2147483647)], []), 2), [], [], [], 0), [])
def xs_w0_o : List xEn := [(57, ([(0, (3, xk 0, 55)), (1, (0, (.ofNat 0, [(0, .ofNat 1)]), 0)), (2, (0, (.ofNat 0, [(1, .ofNat 1)]), 0)), (3, (0, (.ofNat 0, []), 0)), (4, (0, (.ofNat 0, []), 0))], [], ((([(0, .ofNat 0, .ofNat 3), (1, .ofNat 0, .ofNat 3)], []), 2), [], [], [], 0)), (.ofNat 0, []))]
def xs_w0_m : List (Nat × zm_M) := [(183, zm_m183), (261, zm_m261)]
def xs_w0_u : List xCo := []
theorem xs_w0_ok : xwl (xVV, xs_w0_m, xs_w0_u, xs_w0, [] ++ xs_w0_o, none) 128 [xs_w0_s] = true := by decide +kernel
def xs_w1 : xCo := (261, ([], [], ((([(0, .ofNat 0, .ofNat 3), (1, .ofNat 0, .ofNat 3), (2, .ofNat 0, .ofNat 16)], []), 3), [], [], [], 0)), [xip 3], [(55, 0), (55, 8), (55, 51), (55, 56), (55, 57), (55, 58), (55, 59), (55, 60), (55, 61), (55, 62), (55, 63), (55, 64), (55, 65), (55, 66), (55, 67), (55, 68), (55, 69), (55, 70), (55, 71), (55, 72), (55, 73), (55, 74), (55, 75), (55, 76), (55, 77), (55, 78), (55, 79), (55, 80), (87, 0), (88, 0), (89, 0), (90, 0), (91, 0), (92, 0), (93, 0)], 0, 56)
def xs_w1_s : xS := (261, 101, [(0, (3, xk 0, 55)), (1, (0, (.ofNat 0, [(0, .ofNat 1)]), 0)), (2, (0, (.ofNat 0, [(1, .ofNat 1)]), 0)), (3, (0, (.ofNat 0, [(2, .ofNat 1)]), 0))], [], ((([(0, .ofNat 0, .ofNat 3), (1, .ofNat 0, .ofNat 3), (2, .ofNat 0, .ofNat 16)], []), 3), [], [], [], 0), [])
def xs_w1_o : List xEn := [(143, ([(0, (3, xk 0, 55)), (1, (0, (.ofNat 0, [(0, .ofNat 1)]), 0)), (2, (0, (.ofNat 0, [(1, .ofNat 1)]), 0)), (3, (0, (.ofNat 0, [(2, .ofNat 1)]), 0)), (4, (0, (.ofNat 0, [(3, .ofNat 1)]), 0)), (5, (0, (.ofNat 0, []), 0))], [], ((([(0, .ofNat 0, .ofNat 3), (1, .ofNat 0, .ofNat 3), (2, .ofNat 0, .ofNat 16), (3, .negSucc 0, .ofNat 11), (4, .ofNat 0, .ofNat 1200)], [(.ofNat 1200, [(4, .negSucc 0), (2, .negSucc 0)])]), 5), [], [((3, xk 0, 55), 8, (0, (.ofNat 0, [(4, .ofNat 1)]), 0))], [], 0)), (.ofNat 0, []))]
def xs_w1_m : List (Nat × zm_M) := [(233, zm_m233), (261, zm_m261)]
def xs_w1_u : List xCo := [xc_240]
theorem xs_w1_ok : xwl (xVV, xs_w1_m, xs_w1_u, xs_w1, [] ++ xs_w1_o, none) 75 [xs_w1_s] = true := by decide +kernel
def xs_w2 : xCo := (261, ([], [], ((([(0, .ofNat 0, .ofNat 3), (1, .ofNat 0, .ofNat 3), (2, .ofNat 0, .ofNat 16), (3, .negSucc 0, .ofNat 11), (4, .ofNat 0, .ofNat 15), (5, .ofNat 0, .ofNat 1199)], []), 6), [], [], [], 0)), [xip 6], [(55, 0), (55, 8), (55, 51), (55, 56), (55, 57), (55, 58), (55, 59), (55, 60), (55, 61), (55, 62), (55, 63), (55, 64), (55, 65), (55, 66), (55, 67), (55, 68), (55, 69), (55, 70), (55, 71), (55, 72), (55, 73), (55, 74), (55, 75), (55, 76), (55, 77), (55, 78), (55, 79), (55, 80), (87, 0), (88, 0), (89, 0), (90, 0), (91, 0), (92, 0), (93, 0)], 0, 56)
def xs_w2_s : xS := (261, 173, [(0, (3, xk 0, 55)), (1, (0, (.ofNat 0, [(0, .ofNat 1)]), 0)), (2, (0, (.ofNat 0, [(1, .ofNat 1)]), 0)), (3, (0, (.ofNat 0, [(2, .ofNat 1)]), 0)), (4, (0, (.ofNat 0, [(3, .ofNat 1)]), 0)), (5, (0, (.ofNat 0, [(4, .ofNat 1)]), 0))], [], ((([(0, .ofNat 0, .ofNat 3), (1, .ofNat 0, .ofNat 3), (2, .ofNat 0, .ofNat 16), (3, .negSucc 0, .ofNat 11), (4, .ofNat 0, .ofNat 15), (5, .ofNat 0, .ofNat 1199)], []), 6), [], [((3, xk 0, 55), 8, (0, (.ofNat 0, [(5, .ofNat 1)]), 0))], [], 0), [])
def xs_w2_o : List xEn := [(204, ([(0, (3, xk 0, 55)), (1, (0, (.ofNat 0, [(0, .ofNat 1)]), 0)), (2, (0, (.ofNat 0, [(1, .ofNat 1)]), 0)), (3, (0, (.ofNat 0, [(2, .ofNat 1)]), 0)), (4, (0, (.ofNat 0, [(3, .ofNat 1)]), 0)), (5, (0, (.ofNat 0, [(4, .ofNat 1)]), 0))], [], ((([(0, .ofNat 0, .ofNat 3), (1, .ofNat 0, .ofNat 3), (2, .ofNat 0, .ofNat 16), (3, .negSucc 0, .ofNat 11), (4, .ofNat 0, .ofNat 15), (5, .ofNat 0, .ofNat 1199)], []), 6), [], [((3, xk 0, 55), 8, (0, (.ofNat 1, [(5, .ofNat 1)]), 0))], [], 0)), (.ofNat 0, []))]
def xs_w2_m : List (Nat × zm_M) := [(236, zm_m236), (237, zm_m237), (261, zm_m261), (262, zm_m262)]
def xs_w2_u : List xCo := [xc_244, xc_238]
theorem xs_w2_ok : xwl (xVV, xs_w2_m, xs_w2_u, xs_w2, [] ++ xs_w2_o, none) 111 [xs_w2_s] = true := by decide +kernel
def xs_c0 : xCo := (284, ([], [], ((([(0, .ofNat 7, .ofNat 7)], []), 1), [], [], [], 0)), [xip 1], [(55, 0)], 0, 12)
def xs_c0_s : xS := (284, 0, [(0, (3, xk 0, 55)), (1, (0, (.ofNat 0, [(0, .ofNat 1)]), 0))], [], ((([(0, .ofNat 7, .ofNat 7)], []), 1), [], [], [], 0), [])
def xs_c0_o : List xEn := [(129, ([(0, (3, xk 0, 55))], [], ((([(0, .ofNat 7, .ofNat 7)], []), 1), [], [], [], 0)), (.ofNat 0, []))]
def xs_c0_m : List (Nat × zm_M) := [(284, zm_m284)]
def xs_c0_u : List xCo := []
theorem xs_c0_ok : xwl (xVV, xs_c0_m, xs_c0_u, xs_c0, [] ++ xs_c0_o, none) 57 [xs_c0_s] = true := by decide +kernel
end
section
/-! What the model's cells hold; the pieces put together -/
section XMOD
variable {og : Nat → Option zm_C} {τ : List Nat} {h : zm_H} {ρ : List Int} {σ : List Nat}
theorem xfo {k f : Nat} {d : Nat × List (List xA)} {sp : List xA} (hH : xHI xKT xSG τ h) (hs : xSG k = true) (hK : xKT k = some (.inl d)) (hf : d.2[f]? = some sp) : ∃ fs v, h[k]? = some (.inr (d.1, fs)) ∧ fs[f]? = some v ∧ ∃ a ∈ sp, xsat τ a v := by
  obtain ⟨fs, h1, h2, h3⟩ := xcf_o hH (hH.2.2 k hs) hK
  have hl := (List.getElem?_eq_some_iff.mp hf).1
  have hv : fs[f]? = some fs[f] := List.getElem?_eq_getElem (by omega)
  exact ⟨fs, _, h1, hv, h3 f sp _ hf hv⟩
theorem xfo_ref {k f a : Nat} {d : Nat × List (List xA)} {lo hi : Int} (hH : xHI xKT xSG τ h) (hs : xSG k = true) (hK : xKT k = some (.inl d)) (hf : d.2[f]? = some [(3, a, lo, hi)]) : xfd h k f = some (.ref a) := by
  obtain ⟨fs, v, h1, h2, q, hq, h3⟩ := xfo hH hs hK hf
  have hq := List.mem_singleton.mp hq
  subst hq
  have h3 : v = .ref a := h3
  subst h3
  simp only [xfd, h1, h2]
theorem xfo_int {k f : Nat} {d : Nat × List (List xA)} {n : Nat} {lo hi : Int} (hH : xHI xKT xSG τ h) (hs : xSG k = true) (hK : xKT k = some (.inl d)) (hf : d.2[f]? = some [(0, n, lo, hi)]) : ∃ i : Int32, xfd h k f = some (.int i) ∧ lo ≤ i.toInt ∧ i.toInt ≤ hi := by
  obtain ⟨fs, v, h1, h2, q, hq, h3⟩ := xfo hH hs hK hf
  have hq := List.mem_singleton.mp hq
  subst hq
  obtain ⟨i, rfl, h4, h5⟩ := h3
  exact ⟨i, by simp only [xfd, h1, h2], h4, h5⟩
theorem xfd_obj {k f ci : Nat} {fs : List Value} {v : Value} (hh : h[k]? = some (.inr (ci, fs))) (hv : xfd h k f = some v) : fs[f]? = some v := by
  simp only [xfd, hh] at hv
  exact hv
theorem xo55 (hH : xHI xKT xSG τ h) : ∃ fs, h[55]? = some (.inr (11, fs)) := by
  obtain ⟨fs, v, h1, -⟩ := xfo (f := 0) (k := 55) hH rfl rfl rfl
  exact ⟨fs, h1⟩
/-- a field of the model -/
theorem zh_gm {i f c : Nat} {w v : Value} {ps : List Nat} {st : List Value} (hH : xHI xKT xSG τ h) (hv : xfd h 55 f = some v) : zm_hp zm_df og (.getfield i) (11, f, c, w, ps) (.ref 55 :: st) h = some (v :: st, h) := by
  obtain ⟨fs, h1⟩ := xo55 hH
  exact zh_get h1 (xfd_obj h1 hv)
theorem xl_int {ls : xLS} {lc : zm_L} {i n : Nat} {e : xl} {z : Int32} (hl : xlk ρ σ ls lc) (hm : (i, (0, e, n)) ∈ ls) (he : xe ρ e = some z.toInt) : zm_get lc i = some (.int z) := by
  obtain ⟨v, h1, j, rfl, h3⟩ := hl _ hm
  have h3 : xe ρ e = some j.toInt := h3
  rw [he] at h3
  rw [h1, Int32.toInt_inj.mp (Option.some.inj h3)]
theorem xl_ref {ls : xLS} {lc : zm_L} {i a : Nat} {e : xl} (hl : xlk ρ σ ls lc) (hm : (i, (3, e, a)) ∈ ls) : zm_get lc i = some (.ref a) := by
  obtain ⟨v, h1, h2⟩ := hl _ hm
  have h2 : v = .ref a := h2
  rw [h1, h2]
theorem xofn {k : Nat} (hk : k < 2147483648) : (Int32.ofNat k).toInt = (k : Int) ∧ (Int32.ofNat k).toNatClampNeg = k := by
  have e : (Int32.ofNat k).toInt = (k : Int) := Int32.toInt_ofNat_of_lt hk
  refine ⟨e, ?_⟩
  show (Int32.ofNat k).toInt.toNat = k
  rw [e]
  rfl
theorem xofs {k : Nat} (hk : k + 1 < 2147483648) : Int32.ofNat k + 1 = Int32.ofNat (k + 1) := by
  apply Int32.toInt_inj.mp
  rw [Int32.toInt_add, (xofn (show k < 2147483648 by omega)).1, (xofn hk).1]
  have e1 : (1 : Int32).toInt = 1 := rfl
  have ea : xI32a = -2147483648 := rfl
  have eb : xI32b = 2147483647 := rfl
  rw [e1, xb_bm32 (by omega) (by omega)]
  omega
theorem xeqn {c : Int32} {k : Nat} (h0 : c.toInt = (k : Int)) (hk : k < 2147483648) : c = Int32.ofNat k := Int32.toInt_inj.mp (by rw [h0, (xofn hk).1])
end XMOD
end
section
/-! By hand: the model's walk -/
def xcnt (fD fS : Nat → Int32) (s : Int32) : Nat → Nat
  | 0 => 0
  | k + 1 => xcnt fD fS s k + if fD k = 0 ∧ fS k = s then 1 else 0
theorem xcnt_le {fD fS : Nat → Int32} {s : Int32} : ∀ k : Nat, xcnt fD fS s k ≤ k
  | 0 => Nat.le_refl _
  | k + 1 => by
    have := xcnt_le (fD := fD) (fS := fS) (s := s) k
    simp only [xcnt]
    split <;> omega
theorem xcnt_mono {fD fS : Nat → Int32} {s : Int32} {k : Nat} : ∀ m : Nat, xcnt fD fS s k ≤ xcnt fD fS s (k + m)
  | 0 => Nat.le_refl _
  | m + 1 => by
    have := xcnt_mono (fD := fD) (fS := fS) (s := s) (k := k) m
    show _ ≤ xcnt fD fS s ((k + m) + 1)
    simp only [xcnt]
    omega
section XWK2
variable {og : Nat → Option zm_C} {τ : List Nat} {h : zm_H} {Q : Option Value → zm_H → Prop}
theorem zh_w57 {d : Nat} {c who s : Int32} {fD fS : Nat → Int32} (hH : xHI xKT xSG τ h) (f6 : xfd h 55 6 = some (.int c)) (hD : h[69]? = some (.inl (3, 16, .inl fD))) (hS : h[62]? = some (.inl (0, 16, .inl fS))) {N : Nat} (hc : c = Int32.ofNat N) (hN : N ≤ 16)
    (kk : zm_Y og d 261 101 [(0, .ref 55), (1, .int who), (2, .int s), (3, .int (Int32.ofNat (xcnt fD fS s N)))] [] h Q) : ∀ (m k : Nat), k + m = N → zm_Y og d 261 57 [(0, .ref 55), (1, .int who), (2, .int s), (3, .int (Int32.ofNat (xcnt fD fS s k))), (4, .int (Int32.ofNat k))] [] h Q
  | 0, k, hk => by
    subst hc
    refine zy_n 2 (mr := zm_m261) rfl (show _ = some (60, [(0, .ref 55), (1, .int who), (2, .int s), (3, .int (Int32.ofNat (xcnt fD fS s k))), (4, .int (Int32.ofNat k))], [.ref 55, .int (Int32.ofNat k)]) from rfl) ?_
    refine zy_h (mr := zm_m261) rfl rfl (zh_gm hH f6) ?_
    refine zy_b (mr := zm_m261) rfl rfl (show _ = some (zm_ic .ge (Int32.ofNat k) (Int32.ofNat N) 101 66, []) from rfl) ?_
    have e : k = N := by omega
    subst e
    refine zc_ge (fun _ => ?_) (fun e => absurd (Int32.le_refl _) e)
    exact zy_sub _ (by simp) (fun q hq => by simp only [List.mem_cons, List.not_mem_nil, or_false] at hq; rcases hq with rfl | rfl | rfl | rfl <;> rfl) kk
  | m + 1, k, hk => by
    have hkN : k < N := by omega
    have ek := (xofn (k := k) (by omega))
    have eN := (xofn (k := N) (by omega))
    have hle := xcnt_le (fD := fD) (fS := fS) (s := s) k
    have ih := zh_w57 hH f6 hD hS hc hN kk m (k + 1) (by omega)
    subst hc
    refine zy_n 2 (mr := zm_m261) rfl (show _ = some (60, [(0, .ref 55), (1, .int who), (2, .int s), (3, .int (Int32.ofNat (xcnt fD fS s k))), (4, .int (Int32.ofNat k))], [.ref 55, .int (Int32.ofNat k)]) from rfl) ?_
    refine zy_h (mr := zm_m261) rfl rfl (zh_gm hH f6) ?_
    refine zy_b (mr := zm_m261) rfl rfl (show _ = some (zm_ic .ge (Int32.ofNat k) (Int32.ofNat N) 101 66, []) from rfl) ?_
    refine zc_ge (fun e => ?_) (fun _ => ?_)
    · have := Int32.le_iff_toInt_le.mp e
      rw [ek.1, eN.1] at this
      omega
    have hin : zm_in (Int32.ofNat k) 16 = true := (xin_ok (n := 16) (by rw [ek.1]; omega) (by rw [ek.1]; omega)).1
    refine zy_n 2 (mr := zm_m261) rfl (show _ = some (68, [(0, .ref 55), (1, .int who), (2, .int s), (3, .int (Int32.ofNat (xcnt fD fS s k))), (4, .int (Int32.ofNat k))], [.ref 55, .int (Int32.ofNat (xcnt fD fS s k))]) from rfl) ?_
    refine zy_h (mr := zm_m261) rfl rfl (zh_gm hH (xfo_ref (k := 55) (f := 24) (a := 69) hH rfl rfl rfl)) ?_
    refine zy_n 1 (mr := zm_m261) rfl (show _ = some (73, [(0, .ref 55), (1, .int who), (2, .int s), (3, .int (Int32.ofNat (xcnt fD fS s k))), (4, .int (Int32.ofNat k))], [.int (Int32.ofNat k), .ref 69, .int (Int32.ofNat (xcnt fD fS s k))]) from rfl) ?_
    refine zy_h (mr := zm_m261) rfl rfl (zh_zald (v := fD k) hD rfl hin (by rw [ek.2])) ?_
    refine zy_b (mr := zm_m261) rfl rfl (show _ = some (zm_if .ne (fD k) 92 77, [.int (Int32.ofNat (xcnt fD fS s k))]) from rfl) ?_
    have no : ¬ (fD k = 0 ∧ fS k = s) → zm_Y og d 261 92 [(0, .ref 55), (1, .int who), (2, .int s), (3, .int (Int32.ofNat (xcnt fD fS s k))), (4, .int (Int32.ofNat k))] [.int (Int32.ofNat (xcnt fD fS s k))] h Q := by
      intro hne
      refine zy_n 5 (mr := zm_m261) rfl (show _ = some (57, [(4, .int (Int32.ofNat k + 1)), (3, .int (Int32.ofNat (xcnt fD fS s k) + 0)), (0, .ref 55), (1, .int who), (2, .int s)], []) from rfl) ?_
      have e1 : xcnt fD fS s (k + 1) = xcnt fD fS s k := by simp only [xcnt, if_neg hne, Nat.add_zero]
      rw [e1] at ih
      rw [xofs (by omega), Int32.add_zero]
      exact zy_sub _ (by simp) (fun q hq => by simp only [List.mem_cons, List.not_mem_nil, or_false] at hq; rcases hq with rfl | rfl | rfl | rfl | rfl <;> rfl) ih
    refine zi_ne (fun hne => no (fun e => hne e.1)) (fun h0 => ?_)
    refine zy_n 1 (mr := zm_m261) rfl (show _ = some (78, [(0, .ref 55), (1, .int who), (2, .int s), (3, .int (Int32.ofNat (xcnt fD fS s k))), (4, .int (Int32.ofNat k))], [.ref 55, .int (Int32.ofNat (xcnt fD fS s k))]) from rfl) ?_
    refine zy_h (mr := zm_m261) rfl rfl (zh_gm hH (xfo_ref (k := 55) (f := 17) (a := 62) hH rfl rfl rfl)) ?_
    refine zy_n 1 (mr := zm_m261) rfl (show _ = some (83, [(0, .ref 55), (1, .int who), (2, .int s), (3, .int (Int32.ofNat (xcnt fD fS s k))), (4, .int (Int32.ofNat k))], [.int (Int32.ofNat k), .ref 62, .int (Int32.ofNat (xcnt fD fS s k))]) from rfl) ?_
    refine zy_h (mr := zm_m261) rfl rfl (zh_iald (v := fS k) hS hin (by rw [ek.2])) ?_
    refine zy_n 1 (mr := zm_m261) rfl (show _ = some (85, [(0, .ref 55), (1, .int who), (2, .int s), (3, .int (Int32.ofNat (xcnt fD fS s k))), (4, .int (Int32.ofNat k))], [.int s, .int (fS k), .int (Int32.ofNat (xcnt fD fS s k))]) from rfl) ?_
    refine zy_b (mr := zm_m261) rfl rfl (show _ = some (zm_ic .ne (fS k) s 92 88, [.int (Int32.ofNat (xcnt fD fS s k))]) from rfl) ?_
    refine zc_ne (fun hne => no (fun e => hne e.2)) (fun hs => ?_)
    refine zy_n 6 (mr := zm_m261) rfl (show _ = some (57, [(4, .int (Int32.ofNat k + 1)), (3, .int (Int32.ofNat (xcnt fD fS s k) + 1)), (0, .ref 55), (1, .int who), (2, .int s)], []) from rfl) ?_
    have e1 : xcnt fD fS s (k + 1) = xcnt fD fS s k + 1 := by simp only [xcnt, if_pos (And.intro h0 hs)]
    rw [e1] at ih
    rw [xofs (by omega), xofs (by omega)]
    exact zy_sub _ (by simp) (fun q hq => by simp only [List.mem_cons, List.not_mem_nil, or_false] at hq; rcases hq with rfl | rfl | rfl | rfl | rfl <;> rfl) ih
end XWK2
end
section
/-! By hand: the model's walk, second loop and the whole -/
section XWK3
variable {og : Nat → Option zm_C}
theorem xkeep_f {ms : List (Nat × Nat)} {τ τ1 : List Nat} {h h1 : zm_H} {f k : Nat} {v : Value} (hH : xHI xKT xSG τ h) (hs : xSG k = true) (hF : xF (xms ms) τ h τ1 h1) (hm : xms ms k f = false) (hv : xfd h k f = some v) : xfd h1 k f = some v := hF.2.1 k k f v (hH.2.2 k hs) hm hv
theorem xkeep_a {ms : List (Nat × Nat)} {τ τ1 : List Nat} {h h1 : zm_H} {k : Nat} {c : Nat × Nat × zm_K} (hH : xHI xKT xSG τ h) (hs : xSG k = true) (hF : xF (xms ms) τ h τ1 h1) (hm : xms ms k 0 = false) (hv : h[k]? = some (.inl c)) : h1[k]? = some (.inl c) := hF.2.2 k k c (hH.2.2 k hs) hm hv
theorem zh_w143 {c who s n t : Int32} {fD fS : Nat → Int32} {N : Nat} (hc : c = Int32.ofNat N) (hN : N ≤ 16) (w0 : 0 ≤ who.toInt ∧ who.toInt ≤ 3) (s0 : 0 ≤ s.toInt ∧ s.toInt ≤ 3) (n0 : 0 ≤ n.toInt ∧ n.toInt ≤ 16) (t0 : -1 ≤ t.toInt ∧ t.toInt ≤ 11) : ∀ (m k : Nat) (τ : List Nat) (h : zm_H) (L : Int32), k + m = N → xHI xKT xSG τ h → xX τ h → xfd h 55 6 = some (.int c) → h[69]? = some (.inl (3, 16, .inl fD)) → h[62]? = some (.inl (0, 16, .inl fS)) → xfd h 55 8 = some (.int L) → 0 ≤ L.toInt → L.toInt + ((xcnt fD fS s N : Int) - (xcnt fD fS s k : Int)) ≤ 1200 →
    zm_Y og 56 261 143 [(0, .ref 55), (1, .int who), (2, .int s), (3, .int n), (4, .int t), (5, .int (Int32.ofNat k))] [] h (xWQ xVV xX xW xs_w2.2.2.2.1 0 τ h)
  | 0, k, τ, h, L, hk, hH, hX, f6, hD, hS, f8, L0, hL => by
    subst hc
    refine zy_n 2 (mr := zm_m261) rfl (show _ = some (146, [(0, .ref 55), (1, .int who), (2, .int s), (3, .int n), (4, .int t), (5, .int (Int32.ofNat k))], [.ref 55, .int (Int32.ofNat k)]) from rfl) ?_
    refine zy_h (mr := zm_m261) rfl rfl (zh_gm hH f6) ?_
    refine zy_b (mr := zm_m261) rfl rfl (show _ = some (zm_ic .ge (Int32.ofNat k) (Int32.ofNat N) 210 152, []) from rfl) ?_
    have e : k = N := by omega
    subst e
    refine zc_ge (fun _ => ?_) (fun e => absurd (Int32.le_refl _) e)
    refine zy_n 1 (mr := zm_m261) rfl (show _ = some (211, [(0, .ref 55), (1, .int who), (2, .int s), (3, .int n), (4, .int t), (5, .int (Int32.ofNat k))], [.int n]) from rfl) ?_
    exact zy_r (mr := zm_m261) rfl rfl (show _ = some (some (.int n)) from rfl) ⟨⟨n, rfl⟩, τ, hH, hX, xF_refl _ _ _, Nat.le_refl _⟩
  | m + 1, k, τ, h, L, hk, hH, hX, f6, hD, hS, f8, L0, hL => by
    have hkN : k < N := by omega
    have ek := (xofn (k := k) (by omega))
    have eN := (xofn (k := N) (by omega))
    have adv : ∀ (τ1 : List Nat) (h1 : zm_H) (L1 : Int32), xHI xKT xSG τ1 h1 → xX τ1 h1 → xfd h1 55 6 = some (.int c) → h1[69]? = some (.inl (3, 16, .inl fD)) → h1[62]? = some (.inl (0, 16, .inl fS)) → xfd h1 55 8 = some (.int L1) → 0 ≤ L1.toInt → L1.toInt + ((xcnt fD fS s N : Int) - (xcnt fD fS s (k + 1) : Int)) ≤ 1200 → zm_Y og 56 261 204 [(0, .ref 55), (1, .int who), (2, .int s), (3, .int n), (4, .int t), (5, .int (Int32.ofNat k))] [] h1 (xWQ xVV xX xW xs_w2.2.2.2.1 0 τ1 h1) := by
      intro τ1 h1 L1 a1 a2 a3 a4 a5 a6 a7 a8
      have ih := zh_w143 hc hN w0 s0 n0 t0 m (k + 1) τ1 h1 L1 (by omega) a1 a2 a3 a4 a5 a6 a7 a8
      refine zy_n 2 (mr := zm_m261) rfl (show _ = some (143, [(5, .int (Int32.ofNat k + 1)), (0, .ref 55), (1, .int who), (2, .int s), (3, .int n), (4, .int t)], []) from rfl) ?_
      rw [xofs (by omega)]
      exact zy_sub _ (by simp) (fun q hq => by simp only [List.mem_cons, List.not_mem_nil, or_false] at hq; rcases hq with rfl | rfl | rfl | rfl | rfl | rfl <;> rfl) ih
    have hcS := hc
    subst hc
    refine zy_n 2 (mr := zm_m261) rfl (show _ = some (146, [(0, .ref 55), (1, .int who), (2, .int s), (3, .int n), (4, .int t), (5, .int (Int32.ofNat k))], [.ref 55, .int (Int32.ofNat k)]) from rfl) ?_
    refine zy_h (mr := zm_m261) rfl rfl (zh_gm hH f6) ?_
    refine zy_b (mr := zm_m261) rfl rfl (show _ = some (zm_ic .ge (Int32.ofNat k) (Int32.ofNat N) 210 152, []) from rfl) ?_
    refine zc_ge (fun e => ?_) (fun _ => ?_)
    · have := Int32.le_iff_toInt_le.mp e
      rw [ek.1, eN.1] at this
      omega
    have hin : zm_in (Int32.ofNat k) 16 = true := (xin_ok (n := 16) (by rw [ek.1]; omega) (by rw [ek.1]; omega)).1
    refine zy_n 1 (mr := zm_m261) rfl (show _ = some (153, [(0, .ref 55), (1, .int who), (2, .int s), (3, .int n), (4, .int t), (5, .int (Int32.ofNat k))], [.ref 55]) from rfl) ?_
    refine zy_h (mr := zm_m261) rfl rfl (zh_gm hH (xfo_ref (k := 55) (f := 24) (a := 69) hH rfl rfl rfl)) ?_
    refine zy_n 1 (mr := zm_m261) rfl (show _ = some (158, [(0, .ref 55), (1, .int who), (2, .int s), (3, .int n), (4, .int t), (5, .int (Int32.ofNat k))], [.int (Int32.ofNat k), .ref 69]) from rfl) ?_
    refine zy_h (mr := zm_m261) rfl rfl (zh_zald (v := fD k) hD rfl hin (by rw [ek.2])) ?_
    refine zy_b (mr := zm_m261) rfl rfl (show _ = some (zm_if .ne (fD k) 204 162, []) from rfl) ?_
    have no : ¬ (fD k = 0 ∧ fS k = s) → zm_Y og 56 261 204 [(0, .ref 55), (1, .int who), (2, .int s), (3, .int n), (4, .int t), (5, .int (Int32.ofNat k))] [] h (xWQ xVV xX xW xs_w2.2.2.2.1 0 τ h) := by
      intro hne
      have e1 : xcnt fD fS s (k + 1) = xcnt fD fS s k := by simp only [xcnt, if_neg hne, Nat.add_zero]
      exact adv τ h L hH hX f6 hD hS f8 L0 (by rw [e1]; exact hL)
    refine zi_ne (fun hne => no (fun e => hne e.1)) (fun h0 => ?_)
    refine zy_n 1 (mr := zm_m261) rfl (show _ = some (163, [(0, .ref 55), (1, .int who), (2, .int s), (3, .int n), (4, .int t), (5, .int (Int32.ofNat k))], [.ref 55]) from rfl) ?_
    refine zy_h (mr := zm_m261) rfl rfl (zh_gm hH (xfo_ref (k := 55) (f := 17) (a := 62) hH rfl rfl rfl)) ?_
    refine zy_n 1 (mr := zm_m261) rfl (show _ = some (168, [(0, .ref 55), (1, .int who), (2, .int s), (3, .int n), (4, .int t), (5, .int (Int32.ofNat k))], [.int (Int32.ofNat k), .ref 62]) from rfl) ?_
    refine zy_h (mr := zm_m261) rfl rfl (zh_iald (v := fS k) hS hin (by rw [ek.2])) ?_
    refine zy_n 1 (mr := zm_m261) rfl (show _ = some (170, [(0, .ref 55), (1, .int who), (2, .int s), (3, .int n), (4, .int t), (5, .int (Int32.ofNat k))], [.int s, .int (fS k)]) from rfl) ?_
    refine zy_b (mr := zm_m261) rfl rfl (show _ = some (zm_ic .ne (fS k) s 204 173, []) from rfl) ?_
    refine zc_ne (fun hne => no (fun e => hne e.2)) (fun hs => ?_)
    have e1 : xcnt fD fS s (k + 1) = xcnt fD fS s k + 1 := by simp only [xcnt, if_pos (And.intro h0 hs)]
    have hm1 := xcnt_mono (fD := fD) (fS := fS) (s := s) (k := k + 1) m
    rw [show k + 1 + m = N by omega, e1] at hm1
    have hk15 : (k : Int) ≤ 15 := by omega
    have hL2 : L.toInt ≤ 1199 := by omega
    have ekk : (Int32.ofNat k).toInt = (k : Int) := ek.1
    refine (xseg_ok (V := xVV) (X := xX) (W := xW) (og := og) (E := []) (Eo := xs_w2_o) (c := xs_w2) (s := xs_w2_s) (MT := xs_w2_m) (CT := xs_w2_u) (by
      simp only [xs_w2_m, List.forall_mem_cons]
      exact ⟨rfl, rfl, rfl, rfl, fun _ h => by cases h⟩) (by
      simp only [xs_w2_u, List.forall_mem_cons]
      exact ⟨xv_244, xv_238, fun _ h => by cases h⟩) xFl_good xXW_ok xs_w2_ok (fun e he => by cases he) rfl (ρ := [who.toInt, s.toInt, n.toInt, t.toInt, (k : Int), L.toInt]) (r0 := []) (σ := []) (s0 := []) (τ := τ) (h := h) (lc := [(0, .ref 55), (1, .int who), (2, .int s), (3, .int n), (4, .int t), (5, .int (Int32.ofNat k))]) (sc := []) rfl rfl ?_ hH hX ?_ ?_ trivial).mono (fun r h' hq => xWQ_of (np := 6) rfl hq)
    · intro e he r s' τ1 h' lc sc hH1 hX1 hF1 hW1 hD1 hl1 hs1
      have he := List.mem_singleton.mp he
      subst he
      have hs1 := xsk_nil hs1
      subst hs1
      obtain ⟨ad, v, p1, p2, j, rfl, p3⟩ := hD1.2.2.1 _ (List.mem_singleton.mpr rfl)
      have p1 : some 55 = some ad := p1
      cases p1
      have p3 : xe ([who.toInt, s.toInt, n.toInt, t.toInt, (k : Int), L.toInt] ++ r) (.ofNat 1, [(5, .ofNat 1)]) = some j.toInt := p3
      have p4 : xe ([who.toInt, s.toInt, n.toInt, t.toInt, (k : Int), L.toInt] ++ r) (.ofNat 1, [(5, .ofNat 1)]) = some (1 + (1 * L.toInt + 0)) := rfl
      rw [p4] at p3
      have p5 := Option.some.inj p3
      have a := adv τ1 h' j hH1 hX1 (xkeep_f hH rfl hF1 rfl f6) (xkeep_a hH rfl hF1 rfl hD) (xkeep_a hH rfl hF1 rfl hS) p2 (by omega) (by omega)
      refine zy_sub _ (by simp) (fun q hq => ?_) (a.mono (fun r2 h2 hq => xQc_of (np := 6) rfl rfl (xWQ_tr hF1 hW1 hq)))
      simp only [List.mem_cons, List.not_mem_nil, or_false] at hq
      rcases hq with rfl | rfl | rfl | rfl | rfl | rfl
      · exact xl_ref hl1 List.mem_cons_self
      · exact xl_int hl1 (List.mem_cons_of_mem _ List.mem_cons_self) (xe_sym (s := 0) rfl)
      · exact xl_int hl1 (List.mem_cons_of_mem _ (List.mem_cons_of_mem _ List.mem_cons_self)) (xe_sym (s := 1) rfl)
      · exact xl_int hl1 (List.mem_cons_of_mem _ (List.mem_cons_of_mem _ (List.mem_cons_of_mem _ List.mem_cons_self))) (xe_sym (s := 2) rfl)
      · exact xl_int hl1 (List.mem_cons_of_mem _ (List.mem_cons_of_mem _ (List.mem_cons_of_mem _ (List.mem_cons_of_mem _ List.mem_cons_self)))) (xe_sym (s := 3) rfl)
      · exact xl_int hl1 (List.mem_cons_of_mem _ (List.mem_cons_of_mem _ (List.mem_cons_of_mem _ (List.mem_cons_of_mem _ (List.mem_cons_of_mem _ List.mem_cons_self))))) (by rw [ekk]; exact xe_sym (s := 4) rfl)
    · refine ⟨⟨⟨?_, fun q hq => by cases hq⟩, rfl⟩, ⟨rfl, fun k kd hk => by simp [xs_w2_s] at hk⟩, ?_, fun q hq => by cases hq⟩
      · intro q hq
        have hq : q ∈ [((0 : Nat), Int.ofNat 0, Int.ofNat 3), (1, Int.ofNat 0, Int.ofNat 3), (2, Int.ofNat 0, Int.ofNat 16), (3, Int.negSucc 0, Int.ofNat 11), (4, Int.ofNat 0, Int.ofNat 15), (5, Int.ofNat 0, Int.ofNat 1199)] := hq
        simp only [List.mem_cons, List.not_mem_nil, or_false] at hq
        rcases hq with rfl | rfl | rfl | rfl | rfl | rfl
        · exact ⟨_, rfl, w0.1, w0.2⟩
        · exact ⟨_, rfl, s0.1, s0.2⟩
        · exact ⟨_, rfl, n0.1, n0.2⟩
        · exact ⟨_, rfl, t0.1, t0.2⟩
        · exact ⟨_, rfl, Int.natCast_nonneg k, hk15⟩
        · exact ⟨_, rfl, L0, hL2⟩
      · intro q hq
        have hq := List.mem_singleton.mp hq
        subst hq
        exact ⟨55, _, rfl, f8, L, rfl, xe_sym (s := 5) rfl⟩
    · intro q hq
      have hq : q ∈ [((0 : Nat), ((3 : Nat), xk 0, (55 : Nat))), (1, (0, (.ofNat 0, [(0, .ofNat 1)]), 0)), (2, (0, (.ofNat 0, [(1, .ofNat 1)]), 0)), (3, (0, (.ofNat 0, [(2, .ofNat 1)]), 0)), (4, (0, (.ofNat 0, [(3, .ofNat 1)]), 0)), (5, (0, (.ofNat 0, [(4, .ofNat 1)]), 0))] := hq
      simp only [List.mem_cons, List.not_mem_nil, or_false] at hq
      rcases hq with rfl | rfl | rfl | rfl | rfl | rfl
      · exact ⟨_, rfl, rfl⟩
      · exact ⟨_, rfl, who, rfl, xe_sym (s := 0) rfl⟩
      · exact ⟨_, rfl, s, rfl, xe_sym (s := 1) rfl⟩
      · exact ⟨_, rfl, n, rfl, xe_sym (s := 2) rfl⟩
      · exact ⟨_, rfl, t, rfl, xe_sym (s := 3) rfl⟩
      · exact ⟨_, rfl, Int32.ofNat k, rfl, by rw [ekk]; exact xe_sym (s := 4) rfl⟩
end XWK3
end
section
/-! By hand: the model's walk holds its contract -/
section XWK4
variable {og : Nat → Option zm_C}
theorem zh_w101 {c who s : Int32} {fD fS : Nat → Int32} {N : Nat} {τ : List Nat} {h : zm_H} (hc : c = Int32.ofNat N) (hN : N ≤ 16) (w0 : 0 ≤ who.toInt ∧ who.toInt ≤ 3) (s0 : 0 ≤ s.toInt ∧ s.toInt ≤ 3) (hH : xHI xKT xSG τ h) (hX : xX τ h) (f6 : xfd h 55 6 = some (.int c)) (hD : h[69]? = some (.inl (3, 16, .inl fD))) (hS : h[62]? = some (.inl (0, 16, .inl fS))) : zm_Y og 56 261 101 [(0, .ref 55), (1, .int who), (2, .int s), (3, .int (Int32.ofNat (xcnt fD fS s N)))] [] h (xWQ xVV xX xW xs_w2.2.2.2.1 0 τ h) := by
  have hcl := xcnt_le (fD := fD) (fS := fS) (s := s) N
  have en := (xofn (k := xcnt fD fS s N) (by omega)).1
  generalize hn : Int32.ofNat (xcnt fD fS s N) = n at en
  refine (xseg_ok (V := xVV) (X := xX) (W := xW) (og := og) (E := []) (Eo := xs_w1_o) (c := xs_w1) (s := xs_w1_s) (MT := xs_w1_m) (CT := xs_w1_u) (by
    simp only [xs_w1_m, List.forall_mem_cons]
    exact ⟨rfl, rfl, fun _ h => by cases h⟩) (by
    simp only [xs_w1_u, List.forall_mem_cons]
    exact ⟨xv_240, fun _ h => by cases h⟩) xFl_good xXW_ok xs_w1_ok (fun e he => by cases he) rfl (ρ := [who.toInt, s.toInt, n.toInt]) (r0 := []) (σ := []) (s0 := []) (τ := τ) (h := h) (lc := [(0, .ref 55), (1, .int who), (2, .int s), (3, .int n)]) (sc := []) rfl rfl ?_ hH hX ?_ ?_ trivial).mono (fun r h' hq => xWQ_of (c := xs_w1) (np := 3) rfl hq)
  · intro e he r s' τ1 h' lc sc hH1 hX1 hF1 hW1 hD1 hl1 hs1
    have he := List.mem_singleton.mp he
    subst he
    have hs1 := xsk_nil hs1
    subst hs1
    obtain ⟨ad, v, p1, p2, L, rfl, p3⟩ := hD1.2.2.1 _ (List.mem_singleton.mpr rfl)
    have p1 : some 55 = some ad := p1
    cases p1
    obtain ⟨v0, q1, t, rfl, q2⟩ := hl1 _ (List.mem_cons_of_mem _ (List.mem_cons_of_mem _ (List.mem_cons_of_mem _ (List.mem_cons_of_mem _ List.mem_cons_self))))
    have p3 : xe ([who.toInt, s.toInt, n.toInt] ++ r) (.ofNat 0, [(4, .ofNat 1)]) = some L.toInt := p3
    have q2 : xe ([who.toInt, s.toInt, n.toInt] ++ r) (.ofNat 0, [(3, .ofNat 1)]) = some t.toInt := q2
    have q1 : zm_get lc 4 = some (.int t) := q1
    have hlen : ([who.toInt, s.toInt, n.toInt] ++ r).length = 5 := hD1.1.2.symm
    obtain ⟨a, b, rfl⟩ : ∃ a b, r = [a, b] := by
      match r, hlen with
      | [a, b], _ => exact ⟨a, b, rfl⟩
    have p3 : some ((0 : Int) + (1 * b + 0)) = some L.toInt := p3
    have q2 : some ((0 : Int) + (1 * a + 0)) = some t.toInt := q2
    have p3 := Option.some.inj p3
    have q2 := Option.some.inj q2
    obtain ⟨x, x1, x2, x3⟩ := hD1.1.1.1 _ (List.mem_cons_of_mem _ (List.mem_cons_of_mem _ (List.mem_cons_of_mem _ List.mem_cons_self)))
    have x1 : some a = some x := x1
    have x1 := Option.some.inj x1
    have x2 : Int.negSucc 0 ≤ x := x2
    have x3 : x ≤ Int.ofNat 11 := x3
    obtain ⟨y, y1, y2, y3⟩ := hD1.1.1.1 _ (List.mem_cons_of_mem _ (List.mem_cons_of_mem _ (List.mem_cons_of_mem _ (List.mem_cons_of_mem _ List.mem_cons_self))))
    have y1 : some b = some y := y1
    have y1 := Option.some.inj y1
    have y2 : Int.ofNat 0 ≤ y := y2
    obtain ⟨z, z1, z2⟩ := hD1.1.1.2 _ (List.mem_singleton.mpr rfl)
    have z1 : xe [who.toInt, s.toInt, n.toInt, a, b] (.ofNat 1200, [(4, .negSucc 0), (2, .negSucc 0)]) = some z := z1
    have z3 : xe [who.toInt, s.toInt, n.toInt, a, b] (.ofNat 1200, [(4, .negSucc 0), (2, .negSucc 0)]) = some ((1200 : Int) + ((-1) * b + ((-1) * n.toInt + 0))) := rfl
    rw [z3] at z1
    have z1 := Option.some.inj z1
    have i1 : (-1 : Int) ≤ x := x2
    have i2 : x ≤ (11 : Int) := x3
    have i3 : (0 : Int) ≤ y := y2
    have e0 : xcnt fD fS s 0 = 0 := rfl
    have go := zh_w143 (og := og) (fD := fD) (fS := fS) hc hN w0 s0 (n := n) (by omega) (t := t) (by omega) N 0 τ1 h' L (by omega) hH1 hX1 (xkeep_f hH rfl hF1 rfl f6) (xkeep_a hH rfl hF1 rfl hD) (xkeep_a hH rfl hF1 rfl hS) p2 (by omega) (by rw [e0]; omega)
    refine zy_sub _ (by simp) (fun q hq => ?_) (go.mono (fun r2 h2 hq => xQc_of (np := 3) rfl rfl (xWQ_tr hF1 hW1 hq)))
    simp only [List.mem_cons, List.not_mem_nil, or_false] at hq
    rcases hq with rfl | rfl | rfl | rfl | rfl | rfl
    · exact xl_ref hl1 List.mem_cons_self
    · exact xl_int hl1 (List.mem_cons_of_mem _ List.mem_cons_self) (xe_sym (s := 0) rfl)
    · exact xl_int hl1 (List.mem_cons_of_mem _ (List.mem_cons_of_mem _ List.mem_cons_self)) (xe_sym (s := 1) rfl)
    · exact xl_int hl1 (List.mem_cons_of_mem _ (List.mem_cons_of_mem _ (List.mem_cons_of_mem _ List.mem_cons_self))) (xe_sym (s := 2) rfl)
    · exact q1
    · exact xl_int hl1 (List.mem_cons_of_mem _ (List.mem_cons_of_mem _ (List.mem_cons_of_mem _ (List.mem_cons_of_mem _ (List.mem_cons_of_mem _ List.mem_cons_self))))) rfl
  · refine ⟨⟨⟨?_, fun q hq => by cases hq⟩, rfl⟩, ⟨rfl, fun k kd hk => by simp [xs_w1_s] at hk⟩, (fun q hq => by cases hq), (fun q hq => by cases hq)⟩
    intro q hq
    have hq : q ∈ [((0 : Nat), Int.ofNat 0, Int.ofNat 3), (1, Int.ofNat 0, Int.ofNat 3), (2, Int.ofNat 0, Int.ofNat 16)] := hq
    simp only [List.mem_cons, List.not_mem_nil, or_false] at hq
    rcases hq with rfl | rfl | rfl
    · exact ⟨_, rfl, w0.1, w0.2⟩
    · exact ⟨_, rfl, s0.1, s0.2⟩
    · exact ⟨_, rfl, by show (0 : Int) ≤ n.toInt; omega, by show n.toInt ≤ (16 : Int); omega⟩
  · intro q hq
    have hq : q ∈ [((0 : Nat), ((3 : Nat), xk 0, (55 : Nat))), (1, (0, (.ofNat 0, [(0, .ofNat 1)]), 0)), (2, (0, (.ofNat 0, [(1, .ofNat 1)]), 0)), (3, (0, (.ofNat 0, [(2, .ofNat 1)]), 0))] := hq
    simp only [List.mem_cons, List.not_mem_nil, or_false] at hq
    rcases hq with rfl | rfl | rfl | rfl
    · exact ⟨_, rfl, rfl⟩
    · exact ⟨_, rfl, who, rfl, xe_sym (s := 0) rfl⟩
    · exact ⟨_, rfl, s, rfl, xe_sym (s := 1) rfl⟩
    · exact ⟨_, rfl, n, rfl, xe_sym (s := 2) rfl⟩
theorem xv_256 : xV xVV xX xW og xc_256 := by
  intro ρ σ τ h lc hH hX hD hl
  have hlen : ρ.length = 2 := hD.1.2.symm
  have hσ : σ.length = 0 := hD.2.1.1
  have hσ := List.length_eq_zero_iff.mp hσ
  subst hσ
  obtain ⟨a, b, rfl⟩ : ∃ a b, ρ = [a, b] := by
    match ρ, hlen with
    | [a, b], _ => exact ⟨a, b, rfl⟩
  obtain ⟨v1, g1, who, rfl, e1⟩ := hl _ (List.mem_cons_of_mem _ List.mem_cons_self)
  obtain ⟨v2, g2, s, rfl, e2⟩ := hl _ (List.mem_cons_of_mem _ (List.mem_cons_of_mem _ List.mem_cons_self))
  have e1 : some ((0 : Int) + (1 * a + 0)) = some who.toInt := e1
  have e2 : some ((0 : Int) + (1 * b + 0)) = some s.toInt := e2
  have f1 : a = who.toInt := by have := Option.some.inj e1; omega
  have f2 : b = s.toInt := by have := Option.some.inj e2; omega
  subst f1
  subst f2
  refine (xseg_ok (V := xVV) (X := xX) (W := xW) (og := og) (E := []) (Eo := xs_w0_o) (c := xs_w0) (s := xs_w0_s) (MT := xs_w0_m) (CT := xs_w0_u) (by
    simp only [xs_w0_m, List.forall_mem_cons]
    exact ⟨rfl, rfl, fun _ h => by cases h⟩) (fun _ h => by cases h) xFl_good xXW_ok xs_w0_ok (fun e he => by cases he) rfl (ρ := [who.toInt, s.toInt]) (r0 := []) (σ := []) (s0 := []) (τ := τ) (h := h) (lc := lc) (sc := []) rfl rfl ?_ hH hX hD hl trivial).mono (fun r h' hq => xQc_of (c := xc_256) (np := 2) rfl rfl (xWQ_of (c := xs_w0) (np := 2) rfl hq))
  intro e he r s' τ1 h' lc sc hH1 hX1 hF1 hW1 hD1 hl1 hs1
  have he := List.mem_singleton.mp he
  subst he
  have hs1 := xsk_nil hs1
  subst hs1
  obtain ⟨x, x1, x2, x3⟩ := hD1.1.1.1 _ List.mem_cons_self
  have x1 : some who.toInt = some x := x1
  cases x1
  obtain ⟨y, y1, y2, y3⟩ := hD1.1.1.1 _ (List.mem_cons_of_mem _ List.mem_cons_self)
  have y1 : some s.toInt = some y := y1
  cases y1
  obtain ⟨c, f6, c0, c16⟩ := xfo_int (k := 55) (f := 6) hH1 rfl rfl rfl
  have c0 : 0 ≤ c.toInt := c0
  have c16 : c.toInt ≤ 16 := c16
  obtain ⟨kD, hD2, hkD, -⟩ := xcf_a (ad := 69) hH1 (hH1.2.2 69 rfl) (show xKT 69 = some (.inr _) from rfl)
  obtain ⟨kS, hS2, hkS, -⟩ := xcf_a (ad := 62) hH1 (hH1.2.2 62 rfl) (show xKT 62 = some (.inr _) from rfl)
  obtain ⟨fD, rfl⟩ := hkD
  obtain ⟨fS, rfl⟩ := hkS
  have hcN : c = Int32.ofNat c.toInt.toNat := xeqn (by omega) (by omega)
  have go := zh_w57 (og := og) (d := 56) (who := who) (s := s) hH1 f6 hD2 hS2 hcN (by omega) (zh_w101 hcN (by omega) ⟨x2, x3⟩ ⟨y2, y3⟩ hH1 hX1 f6 hD2 hS2) c.toInt.toNat 0 (by omega)
  refine zy_sub _ (by simp) (fun q hq => ?_) (go.mono (fun r2 h2 hq => xQc_of (np := 2) rfl rfl (xWQ_tr hF1 hW1 hq)))
  simp only [List.mem_cons, List.not_mem_nil, or_false] at hq
  rcases hq with rfl | rfl | rfl | rfl | rfl
  · exact xl_ref hl1 List.mem_cons_self
  · exact xl_int hl1 (List.mem_cons_of_mem _ List.mem_cons_self) (xe_sym (s := 0) rfl)
  · exact xl_int hl1 (List.mem_cons_of_mem _ (List.mem_cons_of_mem _ List.mem_cons_self)) (xe_sym (s := 1) rfl)
  · exact xl_int hl1 (List.mem_cons_of_mem _ (List.mem_cons_of_mem _ (List.mem_cons_of_mem _ List.mem_cons_self))) rfl
  · exact xl_int hl1 (List.mem_cons_of_mem _ (List.mem_cons_of_mem _ (List.mem_cons_of_mem _ (List.mem_cons_of_mem _ List.mem_cons_self)))) rfl
end XWK4
end
section
/-! By hand: the model's count -/
def xact (f : Nat → Int32) (y : Int32) : Nat → Int32
  | 0 => -1
  | k + 1 => if f k ≤ y ∧ (xact f y k = -1 ∨ f (xact f y k).toNatClampNeg < f k) then Int32.ofNat k else xact f y k
theorem xact_rng {f : Nat → Int32} {y : Int32} : ∀ k : Nat, k ≤ 12 → xact f y k = -1 ∨ 0 ≤ (xact f y k).toInt ∧ (xact f y k).toInt < (k : Int)
  | 0, _ => Or.inl rfl
  | k + 1, hk => by
    have ih := xact_rng (f := f) (y := y) k (by omega)
    simp only [xact]
    split
    · right
      rw [(xofn (k := k) (by omega)).1]
      omega
    · rcases ih with e | e
      · exact Or.inl e
      · right; omega
section XCT
variable {og : Nat → Option zm_C} {τ : List Nat} {h : zm_H}
theorem zh_a4 {d : Nat} {c y : Int32} {f : Nat → Int32} (hH : xHI xKT xSG τ h) (f9 : xfd h 55 9 = some (.int c)) (hA : h[97]? = some (.inl (0, 12, .inl f))) {N : Nat} (hc : c = Int32.ofNat N) (hN : N ≤ 12) : ∀ (m k : Nat), k + m = N → zm_Y og d 233 4 [(0, .ref 55), (1, .int y), (2, .int (xact f y k)), (3, .int (Int32.ofNat k))] [] h (fun r h' => h' = h ∧ r = some (.int (xact f y N)))
  | 0, k, hk => by
    subst hc
    refine zy_n 2 (mr := zm_m233) rfl (show _ = some (6, [(0, .ref 55), (1, .int y), (2, .int (xact f y k)), (3, .int (Int32.ofNat k))], [.ref 55, .int (Int32.ofNat k)]) from rfl) ?_
    refine zy_h (mr := zm_m233) rfl rfl (zh_gm hH f9) ?_
    refine zy_b (mr := zm_m233) rfl rfl (show _ = some (zm_ic .ge (Int32.ofNat k) (Int32.ofNat N) 50 12, []) from rfl) ?_
    have e : k = N := by omega
    subst e
    refine zc_ge (fun _ => ?_) (fun e => absurd (Int32.le_refl _) e)
    refine zy_n 1 (mr := zm_m233) rfl (show _ = some (51, [(0, .ref 55), (1, .int y), (2, .int (xact f y k)), (3, .int (Int32.ofNat k))], [.int (xact f y k)]) from rfl) ?_
    exact zy_r (mr := zm_m233) rfl rfl (show _ = some (some (.int (xact f y k))) from rfl) ⟨rfl, rfl⟩
  | m + 1, k, hk => by
    have hkN : k < N := by omega
    have ek := (xofn (k := k) (by omega))
    have eN := (xofn (k := N) (by omega))
    have ih := zh_a4 (d := d) (y := y) hH f9 hA hc hN m (k + 1) (by omega)
    have hr := xact_rng (f := f) (y := y) k (by omega)
    subst hc
    refine zy_n 2 (mr := zm_m233) rfl (show _ = some (6, [(0, .ref 55), (1, .int y), (2, .int (xact f y k)), (3, .int (Int32.ofNat k))], [.ref 55, .int (Int32.ofNat k)]) from rfl) ?_
    refine zy_h (mr := zm_m233) rfl rfl (zh_gm hH f9) ?_
    refine zy_b (mr := zm_m233) rfl rfl (show _ = some (zm_ic .ge (Int32.ofNat k) (Int32.ofNat N) 50 12, []) from rfl) ?_
    refine zc_ge (fun e => ?_) (fun _ => ?_)
    · have := Int32.le_iff_toInt_le.mp e
      rw [ek.1, eN.1] at this
      omega
    have hin : zm_in (Int32.ofNat k) 12 = true := (xin_ok (n := 12) (by rw [ek.1]; omega) (by rw [ek.1]; omega)).1
    have a97 := xfo_ref (k := 55) (f := 54) (a := 97) hH rfl rfl rfl
    have no : ¬ (f k ≤ y ∧ (xact f y k = -1 ∨ f (xact f y k).toNatClampNeg < f k)) → zm_Y og d 233 44 [(0, .ref 55), (1, .int y), (2, .int (xact f y k)), (3, .int (Int32.ofNat k))] [] h (fun r h' => h' = h ∧ r = some (.int (xact f y N))) := by
      intro hne
      have e1 : xact f y (k + 1) = xact f y k := by simp only [xact, if_neg hne]
      rw [e1] at ih
      refine zy_n 2 (mr := zm_m233) rfl (show _ = some (4, [(3, .int (Int32.ofNat k + 1)), (0, .ref 55), (1, .int y), (2, .int (xact f y k))], []) from rfl) ?_
      rw [xofs (by omega)]
      exact zy_sub _ (by simp) (fun q hq => by simp only [List.mem_cons, List.not_mem_nil, or_false] at hq; rcases hq with rfl | rfl | rfl | rfl <;> rfl) ih
    have yes : (f k ≤ y ∧ (xact f y k = -1 ∨ f (xact f y k).toNatClampNeg < f k)) → zm_Y og d 233 42 [(0, .ref 55), (1, .int y), (2, .int (xact f y k)), (3, .int (Int32.ofNat k))] [] h (fun r h' => h' = h ∧ r = some (.int (xact f y N))) := by
      intro he
      have e1 : xact f y (k + 1) = Int32.ofNat k := by simp only [xact, if_pos he]
      rw [e1] at ih
      refine zy_n 4 (mr := zm_m233) rfl (show _ = some (4, [(3, .int (Int32.ofNat k + 1)), (2, .int (Int32.ofNat k)), (0, .ref 55), (1, .int y)], []) from rfl) ?_
      rw [xofs (by omega)]
      exact zy_sub _ (by simp) (fun q hq => by simp only [List.mem_cons, List.not_mem_nil, or_false] at hq; rcases hq with rfl | rfl | rfl | rfl <;> rfl) ih
    refine zy_n 1 (mr := zm_m233) rfl (show _ = some (13, [(0, .ref 55), (1, .int y), (2, .int (xact f y k)), (3, .int (Int32.ofNat k))], [.ref 55]) from rfl) ?_
    refine zy_h (mr := zm_m233) rfl rfl (zh_gm hH a97) ?_
    refine zy_n 1 (mr := zm_m233) rfl (show _ = some (17, [(0, .ref 55), (1, .int y), (2, .int (xact f y k)), (3, .int (Int32.ofNat k))], [.int (Int32.ofNat k), .ref 97]) from rfl) ?_
    refine zy_h (mr := zm_m233) rfl rfl (zh_iald (v := f k) hA hin (by rw [ek.2])) ?_
    refine zy_n 1 (mr := zm_m233) rfl (show _ = some (19, [(0, .ref 55), (1, .int y), (2, .int (xact f y k)), (3, .int (Int32.ofNat k))], [.int y, .int (f k)]) from rfl) ?_
    refine zy_b (mr := zm_m233) rfl rfl (show _ = some (zm_ic .gt (f k) y 44 22, []) from rfl) ?_
    refine zc_gt (fun hgt => no (fun e => absurd e.1 (Int32.not_le.mpr hgt))) (fun hgt => ?_)
    have hle := Int32.not_lt.mp hgt
    refine zy_n 2 (mr := zm_m233) rfl (show _ = some (24, [(0, .ref 55), (1, .int y), (2, .int (xact f y k)), (3, .int (Int32.ofNat k))], [.int (-1), .int (xact f y k)]) from rfl) ?_
    refine zy_b (mr := zm_m233) rfl rfl (show _ = some (zm_ic .eq (xact f y k) (-1) 42 27, []) from rfl) ?_
    refine zc_eq (fun e => yes ⟨hle, Or.inl e⟩) (fun hne => ?_)
    have hr := hr.resolve_left hne
    have hin2 := xin_ok (j := xact f y k) (n := 12) hr.1 (by omega)
    refine zy_n 1 (mr := zm_m233) rfl (show _ = some (28, [(0, .ref 55), (1, .int y), (2, .int (xact f y k)), (3, .int (Int32.ofNat k))], [.ref 55]) from rfl) ?_
    refine zy_h (mr := zm_m233) rfl rfl (zh_gm hH a97) ?_
    refine zy_n 1 (mr := zm_m233) rfl (show _ = some (32, [(0, .ref 55), (1, .int y), (2, .int (xact f y k)), (3, .int (Int32.ofNat k))], [.int (Int32.ofNat k), .ref 97]) from rfl) ?_
    refine zy_h (mr := zm_m233) rfl rfl (zh_iald (v := f k) hA hin (by rw [ek.2])) ?_
    refine zy_n 1 (mr := zm_m233) rfl (show _ = some (34, [(0, .ref 55), (1, .int y), (2, .int (xact f y k)), (3, .int (Int32.ofNat k))], [.ref 55, .int (f k)]) from rfl) ?_
    refine zy_h (mr := zm_m233) rfl rfl (zh_gm hH a97) ?_
    refine zy_n 1 (mr := zm_m233) rfl (show _ = some (38, [(0, .ref 55), (1, .int y), (2, .int (xact f y k)), (3, .int (Int32.ofNat k))], [.int (xact f y k), .ref 97, .int (f k)]) from rfl) ?_
    refine zy_h (mr := zm_m233) rfl rfl (zh_iald (v := f (xact f y k).toNatClampNeg) hA hin2.1 rfl) ?_
    refine zy_b (mr := zm_m233) rfl rfl (show _ = some (zm_ic .le (f k) (f (xact f y k).toNatClampNeg) 44 42, []) from rfl) ?_
    exact zc_le (fun e => no (fun z => z.2.elim hne (fun w => absurd e (Int32.not_le.mpr w)))) (fun e => yes ⟨hle, Or.inr (Int32.not_le.mp e)⟩)
/-- the ACT of a YEAR, as it is -/
theorem zh_act {d : Nat} {y : Int32} (hH : xHI xKT xSG τ h) : ∃ v : Int32, (v = -1 ∨ 0 ≤ v.toInt ∧ v.toInt ≤ 11) ∧ zm_Y og d 233 0 [(0, .ref 55), (1, .int y)] [] h (fun r h' => h' = h ∧ r = some (.int v)) := by
  obtain ⟨c, f9, c0, c12⟩ := xfo_int (k := 55) (f := 9) hH rfl rfl rfl
  have c0 : 0 ≤ c.toInt := c0
  have c12 : c.toInt ≤ 12 := c12
  obtain ⟨kA, hA, hkA, -⟩ := xcf_a (ad := 97) hH (hH.2.2 97 rfl) (show xKT 97 = some (.inr _) from rfl)
  obtain ⟨f, rfl⟩ := hkA
  have hcN : c = Int32.ofNat c.toInt.toNat := xeqn (by omega) (by omega)
  have hr := xact_rng (f := f) (y := y) c.toInt.toNat (by omega)
  refine ⟨xact f y c.toInt.toNat, ?_, ?_⟩
  · rcases hr with e | e
    · exact Or.inl e
    · right; omega
  · have go := zh_a4 (og := og) (d := d) (y := y) hH f9 hA hcN (by omega) c.toInt.toNat 0 (by omega)
    refine zy_n 4 (mr := zm_m233) rfl (show _ = some (4, [(3, .int 0), (2, .int (-1)), (0, .ref 55), (1, .int y)], []) from rfl) ?_
    exact zy_sub _ (by simp) (fun q hq => by simp only [List.mem_cons, List.not_mem_nil, or_false] at hq; rcases hq with rfl | rfl | rfl | rfl <;> rfl) go
theorem zh_acall {k : Nat} {y : Int32} {w : Value} {ps : List Nat} {rest : List Value} (hH : xHI xKT xSG τ h) (hr : Nat.ble (zm_cat rest) 16 = true) : zm_call (.invokevirtual k) (233, 1, 11, w, ps) (.int y :: .ref 55 :: rest) h = some (233, [.ref 55, .int y], rest) := by
  obtain ⟨fs, h1⟩ := xo55 hH
  show (match h[55]? with
    | some (.inr (ci, _)) => bif Nat.beq ci 11 && Nat.ble (zm_cat rest) 16 then some ((233 : Nat), Value.ref 55 :: [.int y], rest) else none
    | _ => none) = _
  rw [h1]
  simp only [Nat.beq_refl, hr, Bool.and_self, cond_true]
theorem zh_c129 {d : Nat} (hH : xHI xKT xSG τ h) (hX : xX τ h) : zm_Y og (d + 1) 284 129 [(0, .ref 55)] [] h (xWQ xVV xX xW [(55, 0)] 0 τ h) := by
  have fin : ∀ i : Int32, xWQ xVV xX xW [(55, 0)] 0 τ h (some (.int i)) h := fun i => ⟨⟨i, rfl⟩, τ, hH, hX, xF_refl _ _ _, Nat.le_refl _⟩
  obtain ⟨y, f5, -⟩ := xfo_int (k := 55) (f := 5) hH rfl rfl rfl
  obtain ⟨v, hv, hy⟩ := zh_act (og := og) (d := d) (y := y) hH
  obtain ⟨kR, hR, hkR, -⟩ := xcf_a (ad := 98) hH (hH.2.2 98 rfl) (show xKT 98 = some (.inr _) from rfl)
  obtain ⟨g, rfl⟩ := hkR
  refine zy_n 2 (mr := zm_m284) rfl (show _ = some (131, [(0, .ref 55)], [.ref 55, .ref 55]) from rfl) ?_
  refine zy_h (mr := zm_m284) rfl rfl (zh_gm hH f5) ?_
  refine zy_c (mr := zm_m284) (mc := zm_m233) rfl rfl (zh_acall hH rfl) rfl rfl ?_
  refine hy.mono (fun r h' hq => ?_)
  obtain ⟨rfl, rfl⟩ := hq
  refine zy_n 1 (mr := zm_m284) rfl (show _ = some (138, [(0, .ref 55)], [.int (-1), .int v]) from rfl) ?_
  refine zy_b (mr := zm_m284) rfl rfl (show _ = some (zm_ic .ne v (-1) 145 141, []) from rfl) ?_
  refine zc_ne (fun hne => ?_) (fun _ => ?_)
  · have hv := hv.resolve_left hne
    have hin := (xin_ok (j := v) (n := 12) hv.1 (by omega)).1
    refine zy_n 1 (mr := zm_m284) rfl (show _ = some (146, [(0, .ref 55)], [.ref 55]) from rfl) ?_
    refine zy_h (mr := zm_m284) rfl rfl (zh_gm hH (xfo_ref (k := 55) (f := 55) (a := 98) hH rfl rfl rfl)) ?_
    refine zy_n 2 (mr := zm_m284) rfl (show _ = some (151, [(0, .ref 55)], [.ref 55, .ref 55, .ref 98]) from rfl) ?_
    refine zy_h (mr := zm_m284) rfl rfl (zh_gm hH f5) ?_
    refine zy_c (mr := zm_m284) (mc := zm_m233) rfl rfl (zh_acall hH rfl) rfl rfl ?_
    refine hy.mono (fun r h2 hq => ?_)
    obtain ⟨rfl, rfl⟩ := hq
    refine zy_h (mr := zm_m284) rfl rfl (zh_iald (v := g v.toNatClampNeg) hR hin rfl) ?_
    exact zy_r (mr := zm_m284) rfl rfl (show _ = some (some (.int (g v.toNatClampNeg))) from rfl) (fin _)
  · refine zy_n 2 (mr := zm_m284) rfl (show _ = some (158, [(0, .ref 55)], [.int 0]) from rfl) ?_
    exact zy_r (mr := zm_m284) rfl rfl (show _ = some (some (.int 0)) from rfl) (fin _)
theorem xv_258 : xV xVV xX xW og xc_258 := by
  intro ρ σ τ h lc hH hX hD hl
  have hlen : ρ.length = 1 := hD.1.2.symm
  have hσ : σ.length = 0 := hD.2.1.1
  have hσ := List.length_eq_zero_iff.mp hσ
  subst hσ
  obtain ⟨a, rfl⟩ : ∃ a, ρ = [a] := by
    match ρ, hlen with
    | [a], _ => exact ⟨a, rfl⟩
  obtain ⟨v1, g1, w, rfl, e1⟩ := hl _ (List.mem_cons_of_mem _ List.mem_cons_self)
  have e1 : some ((0 : Int) + (1 * a + 0)) = some w.toInt := e1
  have f1 : a = w.toInt := by have := Option.some.inj e1; omega
  subst f1
  have hb := xb_rng w
  have hcut : ∀ lo hi : Int, lo ≤ w.toInt → w.toInt ≤ hi → xdok [w.toInt] [] τ h ((([(0, lo, hi)], []), 1), [], [], [], 0) := fun lo hi a b => ⟨⟨⟨fun q hq => by have hq := List.mem_singleton.mp hq; subst hq; exact ⟨_, rfl, a, b⟩, fun q hq => by cases hq⟩, rfl⟩, hD.2.1, (fun q hq => by cases hq), (fun q hq => by cases hq)⟩
  by_cases h6 : w.toInt ≤ 6
  · exact ((xv_302 (og := og) [w.toInt] [] τ h lc hH hX (hcut _ _ hb.1 h6) hl).deep (Nat.zero_le 12)).mono (fun r h' hq => xQc_of (c := xc_258) (np := 1) rfl rfl (xWQ_of (c := xc_302) (np := 1) rfl hq))
  · by_cases h8 : 8 ≤ w.toInt
    · exact ((xv_303 (og := og) [w.toInt] [] τ h lc hH hX (hcut _ _ h8 hb.2) hl).deep (Nat.zero_le 12)).mono (fun r h' hq => xQc_of (c := xc_258) (np := 1) rfl rfl (xWQ_of (c := xc_303) (np := 1) rfl hq))
    · refine (xseg_ok (V := xVV) (X := xX) (W := xW) (og := og) (E := []) (Eo := xs_c0_o) (c := xs_c0) (s := xs_c0_s) (MT := xs_c0_m) (CT := xs_c0_u) (by
        simp only [xs_c0_m, List.forall_mem_cons]
        exact ⟨rfl, fun _ h => by cases h⟩) (fun _ h => by cases h) xFl_good xXW_ok xs_c0_ok (fun e he => by cases he) rfl (ρ := [w.toInt]) (r0 := []) (σ := []) (s0 := []) (τ := τ) (h := h) (lc := lc) (sc := []) rfl rfl ?_ hH hX (hcut 7 7 (by omega) (by omega)) hl trivial).mono (fun r h' hq => xQc_of (c := xc_258) (np := 1) rfl rfl (xWQ_of (c := xs_c0) (np := 1) rfl hq))
      intro e he r s' τ1 h' lc sc hH1 hX1 hF1 hW1 hD1 hl1 hs1
      have he := List.mem_singleton.mp he
      subst he
      have hs1 := xsk_nil hs1
      subst hs1
      refine zy_sub [(0, .ref 55)] (by simp) (fun q hq => ?_) ((zh_c129 (og := og) (d := 11) hH1 hX1).mono (fun r2 h2 hq => xQc_of (np := 1) rfl rfl (xWQ_tr hF1 hW1 hq)))
      have hq := List.mem_singleton.mp hq
      subst hq
      exact xl_ref hl1 List.mem_cons_self
end XCT
end
section
/-! Pieces of match, as data (made by a program) -/
def xs_m0 : xCo := (276, ([], [], ((([(0, .negSucc 2147483647, .ofNat 2147483647), (1, .negSucc 2147483647, .ofNat 2147483647), (2, .negSucc 2147483647, .ofNat 2147483647)], []), 3), [], [], [], 0)), [xip 3], [(55, 0), (55, 108), (115, 0), (116, 0)], 0, 12)
def xs_m0_s : xS := (276, 0, [(0, (3, xk 0, 55)), (1, (0, (.ofNat 0, [(0, .ofNat 1)]), 0)), (2, (0, (.ofNat 0, [(1, .ofNat 1)]), 0)), (3, (0, (.ofNat 0, [(2, .ofNat 1)]), 0))], [], ((([(0, .negSucc 2147483647, .ofNat 2147483647), (1, .negSucc 2147483647, .ofNat 2147483647), (2, .negSucc 2147483647, .ofNat 2147483647)], []), 3), [], [], [], 0), [])
def xs_m0_o : List xEn := [(143, ([(0, (3, xk 0, 55)), (1, (0, (.ofNat 0, [(0, .ofNat 1)]), 0)), (2, (0, (.ofNat 0, [(1, .ofNat 1)]), 0)), (3, (0, (.ofNat 0, [(2, .ofNat 1)]), 0)), (4, (0, (.ofNat 0, [(3, .ofNat 1)]), 0))], [], ((([(0, .ofNat 0, .ofNat 3), (1, .ofNat 0, .ofNat 3), (2, .ofNat 0, .ofNat 1000), (3, .ofNat 0, .ofNat 60)], []), 4), [], [], [((3, xk 0, 57), (.ofNat 0, [(0, .ofNat 1)]), (0, (.ofNat 0, [(3, .ofNat 1)]), 0))], 0)), (.ofNat 0, []))]
def xs_m0_m : List (Nat × zm_M) := [(182, zm_m182), (183, zm_m183), (276, zm_m276), (277, zm_m277)]
def xs_m0_u : List xCo := []
def xs_m0_e : List xEn := [(58, ([(0, (3, xk 0, 55)), (1, (0, (.ofNat 0, [(0, .ofNat 1)]), 0)), (2, (0, (.ofNat 0, [(1, .ofNat 1)]), 0)), (3, (0, (.ofNat 0, [(2, .ofNat 1)]), 0)), (4, (0, (.ofNat 0, [(3, .ofNat 1)]), 0))], [], ((([(0, .ofNat 0, .ofNat 3), (1, .ofNat 0, .ofNat 3), (2, .ofNat 0, .ofNat 1000), (3, .ofNat 0, .ofNat 60)], []), 4), [], [], [], 0)), (.ofNat 200, [(3, .negSucc 0)])),
  (98, ([(0, (3, xk 0, 55)), (1, (0, (.ofNat 0, [(0, .ofNat 1)]), 0)), (2, (0, (.ofNat 0, [(1, .ofNat 1)]), 0)), (3, (0, (.ofNat 0, [(2, .ofNat 1)]), 0)), (4, (0, (.ofNat 0, [(3, .ofNat 1)]), 0))], [], ((([(0, .ofNat 0, .ofNat 3), (1, .ofNat 0, .ofNat 3), (2, .ofNat 0, .ofNat 1000), (3, .ofNat 0, .ofNat 60)], []), 4), [], [], [], 0)), (.ofNat 100, [(3, .negSucc 0)]))]
theorem xs_m0_ok : xwl (xVV, xs_m0_m, xs_m0_u, xs_m0, xs_m0_e ++ xs_m0_o, none) 259 [xs_m0_s] = true := by decide +kernel
theorem xs_m0_ok1 : xs_m0_e.all (xchk1 xVV xs_m0_m xs_m0_u xs_m0 (xs_m0_e ++ xs_m0_o) 259) = true := by decide +kernel
def xs_m1 : xCo := (276, ([], [], ((([(0, .ofNat 0, .ofNat 3), (1, .ofNat 0, .ofNat 3), (2, .ofNat 0, .ofNat 1000), (3, .ofNat 0, .ofNat 60), (4, .ofNat 0, .ofNat 60), (5, .ofNat 0, .ofNat 60), (6, .ofNat 0, .ofNat 60)], []), 7), [], [], [], 0)), [], [], 0, 12)
def xs_m1_s : xS := (276, 161, [(0, (3, xk 0, 55)), (1, (0, (.ofNat 0, [(0, .ofNat 1)]), 0)), (2, (0, (.ofNat 0, [(1, .ofNat 1)]), 0)), (3, (0, (.ofNat 0, [(2, .ofNat 1)]), 0)), (4, (0, (.ofNat 0, [(3, .ofNat 1)]), 0)), (5, (0, (.ofNat 0, [(4, .ofNat 1)]), 0))], [], ((([(0, .ofNat 0, .ofNat 3), (1, .ofNat 0, .ofNat 3), (2, .ofNat 0, .ofNat 1000), (3, .ofNat 0, .ofNat 60), (4, .ofNat 0, .ofNat 60), (5, .ofNat 0, .ofNat 60), (6, .ofNat 0, .ofNat 60)], [(.ofNat 0, [(5, .ofNat 1), (3, .negSucc 0)]), (.ofNat 0, [(6, .ofNat 1), (4, .negSucc 0)])]), 7), [], [], [((3, xk 0, 57), (.ofNat 0, [(0, .ofNat 1)]), (0, (.ofNat 0, [(5, .ofNat 1)]), 0)), ((3, xk 0, 57), (.ofNat 0, [(1, .ofNat 1)]), (0, (.ofNat 0, [(6, .ofNat 1)]), 0))], 0), [])
def xs_m1_o : List xEn := [(328, ([(0, (3, xk 0, 55)), (1, (0, (.ofNat 0, [(0, .ofNat 1)]), 0)), (2, (0, (.ofNat 0, [(1, .ofNat 1)]), 0)), (3, (0, (.ofNat 0, [(2, .ofNat 1)]), 0)), (4, (0, (.ofNat 0, [(3, .ofNat 1)]), 0)), (5, (0, (.ofNat 0, [(4, .ofNat 1)]), 0)), (6, (0, (.ofNat 0, [(7, .ofNat 1)]), 0))], [], ((([(0, .ofNat 0, .ofNat 3), (1, .ofNat 0, .ofNat 3), (2, .ofNat 0, .ofNat 1000), (3, .ofNat 0, .ofNat 60), (4, .ofNat 0, .ofNat 60), (5, .ofNat 0, .ofNat 60), (6, .ofNat 0, .ofNat 60), (7, .negSucc 2147483647, .ofNat 2147483647)], []), 8), [], [], [], 0)), (.ofNat 0, []))]
def xs_m1_m : List (Nat × zm_M) := [(257, zm_m257), (276, zm_m276), (277, zm_m277)]
def xs_m1_u : List xCo := []
theorem xs_m1_ok : xwl (xVV, xs_m1_m, xs_m1_u, xs_m1, [] ++ xs_m1_o, none) 315 [xs_m1_s] = true := by decide +kernel
def xs_m2 : xCo := (276, ([], [], ((([(0, .ofNat 0, .ofNat 3), (1, .ofNat 0, .ofNat 3), (2, .ofNat 0, .ofNat 1000), (3, .ofNat 0, .ofNat 60), (4, .ofNat 0, .ofNat 60)], []), 5), [], [], [], 0)), [], [], 0, 12)
def xs_m2_s : xS := (276, 161, [(0, (3, xk 0, 55)), (1, (0, (.ofNat 0, [(0, .ofNat 1)]), 0)), (2, (0, (.ofNat 0, [(1, .ofNat 1)]), 0)), (3, (0, (.ofNat 0, [(2, .ofNat 1)]), 0)), (4, (0, (.ofNat 0, [(3, .ofNat 1)]), 0)), (5, (0, (.ofNat 0, [(4, .ofNat 1)]), 0))], [], ((([(0, .ofNat 0, .ofNat 3), (1, .ofNat 0, .ofNat 3), (2, .ofNat 0, .ofNat 1000), (3, .ofNat 0, .ofNat 60), (4, .ofNat 0, .ofNat 60)], []), 5), [], [], [((3, xk 0, 57), (.ofNat 0, [(0, .ofNat 1)]), (0, (.ofNat 0, [(3, .ofNat 1)]), 0)), ((3, xk 0, 57), (.ofNat 0, [(1, .ofNat 1)]), (0, (.ofNat 0, [(4, .ofNat 1)]), 0))], 0), [])
def xs_m2_o : List xEn := [(328, ([(0, (3, xk 0, 55)), (1, (0, (.ofNat 0, [(0, .ofNat 1)]), 0)), (2, (0, (.ofNat 0, [(1, .ofNat 1)]), 0)), (3, (0, (.ofNat 0, [(2, .ofNat 1)]), 0)), (4, (0, (.ofNat 0, [(3, .ofNat 1)]), 0)), (5, (0, (.ofNat 0, [(4, .ofNat 1)]), 0)), (6, (0, (.ofNat 0, []), 0))], [], ((([(0, .ofNat 0, .ofNat 3), (1, .ofNat 0, .ofNat 3), (2, .ofNat 0, .ofNat 1000), (3, .ofNat 0, .ofNat 60), (4, .ofNat 0, .ofNat 60)], []), 5), [], [], [], 0)), (.ofNat 0, []))]
def xs_m2_m : List (Nat × zm_M) := [(276, zm_m276)]
def xs_m2_u : List xCo := []
theorem xs_m2_ok : xwl (xVV, xs_m2_m, xs_m2_u, xs_m2, [] ++ xs_m2_o, none) 83 [xs_m2_s] = true := by decide +kernel
def xs_m3 : xCo := (276, ([], [], ((([(0, .ofNat 0, .ofNat 3), (1, .ofNat 0, .ofNat 3), (2, .ofNat 0, .ofNat 1000), (3, .ofNat 0, .ofNat 59), (4, .ofNat 0, .ofNat 60), (5, .ofNat 0, .ofNat 60), (6, .ofNat 0, .ofNat 60000)], []), 7), [], [], [], 0)), [], [], 0, 12)
def xs_m3_s : xS := (276, 161, [(0, (3, xk 0, 55)), (1, (0, (.ofNat 0, [(0, .ofNat 1)]), 0)), (2, (0, (.ofNat 0, [(1, .ofNat 1)]), 0)), (3, (0, (.ofNat 0, [(2, .ofNat 1)]), 0)), (4, (0, (.ofNat 0, [(3, .ofNat 1)]), 0)), (5, (0, (.ofNat 0, [(5, .ofNat 1)]), 0))], [], ((([(0, .ofNat 0, .ofNat 3), (1, .ofNat 0, .ofNat 3), (2, .ofNat 0, .ofNat 1000), (3, .ofNat 0, .ofNat 59), (4, .ofNat 0, .ofNat 60), (5, .ofNat 0, .ofNat 60), (6, .ofNat 0, .ofNat 60000)], [(.negSucc 0, [(4, .ofNat 1), (3, .negSucc 0)])]), 7), [], [], [((3, xk 0, 57), (.ofNat 0, [(0, .ofNat 1)]), (0, (.ofNat 0, [(4, .ofNat 1)]), 0)), ((3, xk 0, 57), (.ofNat 0, [(1, .ofNat 1)]), (0, (.ofNat 0, [(5, .ofNat 1)]), 0)), ((3, xk 0, 115), (.ofNat 61, [(5, .ofNat 1), (3, .ofNat 61)]), (0, (.ofNat 0, [(6, .ofNat 1)]), 0))], 0), [])
def xs_m3_o : List xEn := [(328, ([(0, (3, xk 0, 55)), (1, (0, (.ofNat 0, [(0, .ofNat 1)]), 0)), (2, (0, (.ofNat 0, [(1, .ofNat 1)]), 0)), (3, (0, (.ofNat 0, [(2, .ofNat 1)]), 0)), (4, (0, (.ofNat 0, [(3, .ofNat 1)]), 0)), (5, (0, (.ofNat 0, [(5, .ofNat 1)]), 0)), (6, (0, (.ofNat 0, [(6, .ofNat 1), (2, .ofNat 1)]), 0))], [], ((([(0, .ofNat 0, .ofNat 3), (1, .ofNat 0, .ofNat 3), (2, .ofNat 0, .ofNat 1000), (3, .ofNat 0, .ofNat 59), (4, .ofNat 0, .ofNat 60), (5, .ofNat 0, .ofNat 60), (6, .ofNat 0, .ofNat 60000)], []), 7), [], [], [], 0)), (.ofNat 0, []))]
def xs_m3_m : List (Nat × zm_M) := [(276, zm_m276)]
def xs_m3_u : List xCo := []
theorem xs_m3_ok : xwl (xVV, xs_m3_m, xs_m3_u, xs_m3, [] ++ xs_m3_o, none) 97 [xs_m3_s] = true := by decide +kernel
def xs_m4 : xCo := (276, ([], [], ((([(0, .ofNat 0, .ofNat 3), (1, .ofNat 0, .ofNat 3), (2, .ofNat 0, .ofNat 1000)], []), 3), [], [], [], 0)), [], [(55, 108)], 0, 12)
def xs_m4_s : xS := (276, 355, [(0, (3, xk 0, 55)), (1, (0, (.ofNat 0, [(0, .ofNat 1)]), 0)), (2, (0, (.ofNat 0, [(1, .ofNat 1)]), 0)), (3, (0, (.ofNat 0, [(2, .ofNat 1)]), 0))], [], ((([(0, .ofNat 0, .ofNat 3), (1, .ofNat 0, .ofNat 3), (2, .ofNat 0, .ofNat 1000)], []), 3), [], [], [], 0), [])
def xs_m4_o : List xEn := [(371, ([(0, (3, xk 0, 55)), (1, (0, (.ofNat 0, [(0, .ofNat 1)]), 0)), (2, (0, (.ofNat 0, [(1, .ofNat 1)]), 0)), (3, (0, (.ofNat 0, [(2, .ofNat 1)]), 0)), (4, (0, (.ofNat 0, []), 0)), (5, (0, (.ofNat 0, []), 0))], [], ((([(0, .ofNat 0, .ofNat 3), (1, .ofNat 0, .ofNat 3), (2, .ofNat 0, .ofNat 1000)], []), 3), [], [], [], 0)), (.ofNat 0, []))]
def xs_m4_m : List (Nat × zm_M) := [(276, zm_m276)]
def xs_m4_u : List xCo := []
theorem xs_m4_ok : xwl (xVV, xs_m4_m, xs_m4_u, xs_m4, [] ++ xs_m4_o, none) 60 [xs_m4_s] = true := by decide +kernel
def xs_m5 : xCo := (276, ([], [], ((([(0, .ofNat 0, .ofNat 3), (1, .ofNat 0, .ofNat 3), (2, .ofNat 0, .ofNat 1000), (3, .ofNat 0, .ofNat 59), (4, .ofNat 0, .ofNat 59), (5, .ofNat 0, .ofNat 60), (6, .ofNat 0, .ofNat 60)], []), 7), [], [], [], 0)), [], [(116, 0)], 0, 12)
def xs_m5_s : xS := (276, 382, [(0, (3, xk 0, 55)), (1, (0, (.ofNat 0, [(0, .ofNat 1)]), 0)), (2, (0, (.ofNat 0, [(1, .ofNat 1)]), 0)), (3, (0, (.ofNat 0, [(2, .ofNat 1)]), 0)), (4, (0, (.ofNat 0, [(3, .ofNat 1)]), 0)), (5, (0, (.ofNat 0, [(4, .ofNat 1)]), 0))], [], ((([(0, .ofNat 0, .ofNat 3), (1, .ofNat 0, .ofNat 3), (2, .ofNat 0, .ofNat 1000), (3, .ofNat 0, .ofNat 59), (4, .ofNat 0, .ofNat 59), (5, .ofNat 0, .ofNat 60), (6, .ofNat 0, .ofNat 60)], [(.negSucc 0, [(5, .ofNat 1), (3, .negSucc 0)]), (.negSucc 0, [(6, .ofNat 1), (4, .negSucc 0)])]), 7), [], [], [((3, xk 0, 57), (.ofNat 0, [(0, .ofNat 1)]), (0, (.ofNat 0, [(5, .ofNat 1)]), 0)), ((3, xk 0, 57), (.ofNat 0, [(1, .ofNat 1)]), (0, (.ofNat 0, [(6, .ofNat 1)]), 0))], 0), [])
def xs_m5_o : List xEn := [(371, ([(0, (3, xk 0, 55)), (1, (0, (.ofNat 0, [(0, .ofNat 1)]), 0)), (2, (0, (.ofNat 0, [(1, .ofNat 1)]), 0)), (3, (0, (.ofNat 0, [(2, .ofNat 1)]), 0)), (4, (0, (.ofNat 1, [(3, .ofNat 1)]), 0)), (5, (0, (.ofNat 1, [(4, .ofNat 1)]), 0))], [], ((([(0, .ofNat 0, .ofNat 3), (1, .ofNat 0, .ofNat 3), (2, .ofNat 0, .ofNat 1000), (3, .ofNat 0, .ofNat 59), (4, .ofNat 0, .ofNat 59), (5, .ofNat 0, .ofNat 60), (6, .ofNat 0, .ofNat 60)], []), 7), [], [], [], 0)), (.ofNat 0, [])),
  (371, ([(0, (3, xk 0, 55)), (1, (0, (.ofNat 0, [(0, .ofNat 1)]), 0)), (2, (0, (.ofNat 0, [(1, .ofNat 1)]), 0)), (3, (0, (.ofNat 0, [(2, .ofNat 1)]), 0)), (4, (0, (.ofNat 1, [(3, .ofNat 1)]), 0)), (5, (0, (.ofNat 0, [(4, .ofNat 1)]), 0))], [], ((([(0, .ofNat 0, .ofNat 3), (1, .ofNat 0, .ofNat 3), (2, .ofNat 0, .ofNat 1000), (3, .ofNat 0, .ofNat 59), (4, .ofNat 0, .ofNat 59), (5, .ofNat 0, .ofNat 60), (6, .ofNat 0, .ofNat 60)], []), 7), [], [], [], 0)), (.ofNat 0, [])),
  (371, ([(0, (3, xk 0, 55)), (1, (0, (.ofNat 0, [(0, .ofNat 1)]), 0)), (2, (0, (.ofNat 0, [(1, .ofNat 1)]), 0)), (3, (0, (.ofNat 0, [(2, .ofNat 1)]), 0)), (4, (0, (.ofNat 0, [(3, .ofNat 1)]), 0)), (5, (0, (.ofNat 1, [(4, .ofNat 1)]), 0))], [], ((([(0, .ofNat 0, .ofNat 3), (1, .ofNat 0, .ofNat 3), (2, .ofNat 0, .ofNat 1000), (3, .ofNat 0, .ofNat 59), (4, .ofNat 0, .ofNat 59), (5, .ofNat 0, .ofNat 60), (6, .ofNat 0, .ofNat 60)], []), 7), [], [], [], 0)), (.ofNat 0, []))]
def xs_m5_m : List (Nat × zm_M) := [(257, zm_m257), (276, zm_m276), (277, zm_m277)]
def xs_m5_u : List xCo := []
theorem xs_m5_ok : xwl (xVV, xs_m5_m, xs_m5_u, xs_m5, [] ++ xs_m5_o, none) 257 [xs_m5_s] = true := by decide +kernel
def xs_m6 : xCo := (276, ([], [], ((([(0, .ofNat 0, .ofNat 3), (1, .ofNat 0, .ofNat 3), (2, .ofNat 0, .ofNat 1000), (3, .ofNat 0, .ofNat 59), (4, .ofNat 0, .ofNat 60), (5, .ofNat 0, .ofNat 60), (6, .ofNat 0, .ofNat 60000)], []), 7), [], [], [], 0)), [], [(116, 0)], 0, 12)
def xs_m6_s : xS := (276, 382, [(0, (3, xk 0, 55)), (1, (0, (.ofNat 0, [(0, .ofNat 1)]), 0)), (2, (0, (.ofNat 0, [(1, .ofNat 1)]), 0)), (3, (0, (.ofNat 0, [(2, .ofNat 1)]), 0)), (4, (0, (.ofNat 0, [(3, .ofNat 1)]), 0)), (5, (0, (.ofNat 0, [(5, .ofNat 1)]), 0))], [], ((([(0, .ofNat 0, .ofNat 3), (1, .ofNat 0, .ofNat 3), (2, .ofNat 0, .ofNat 1000), (3, .ofNat 0, .ofNat 59), (4, .ofNat 0, .ofNat 60), (5, .ofNat 0, .ofNat 60), (6, .ofNat 0, .ofNat 60000)], [(.negSucc 0, [(4, .ofNat 1), (3, .negSucc 0)])]), 7), [], [], [((3, xk 0, 57), (.ofNat 0, [(0, .ofNat 1)]), (0, (.ofNat 0, [(4, .ofNat 1)]), 0)), ((3, xk 0, 57), (.ofNat 0, [(1, .ofNat 1)]), (0, (.ofNat 0, [(5, .ofNat 1)]), 0)), ((3, xk 0, 115), (.ofNat 0, [(5, .ofNat 1), (3, .ofNat 61)]), (0, (.ofNat 0, [(6, .ofNat 1), (2, .ofNat 1)]), 0)), ((3, xk 0, 115), (.ofNat 61, [(5, .ofNat 1), (3, .ofNat 61)]), (0, (.ofNat 0, [(6, .ofNat 1)]), 0))], 0), [])
def xs_m6_o : List xEn := [(371, ([(0, (3, xk 0, 55)), (1, (0, (.ofNat 0, [(0, .ofNat 1)]), 0)), (2, (0, (.ofNat 0, [(1, .ofNat 1)]), 0)), (3, (0, (.ofNat 0, [(2, .ofNat 1)]), 0)), (4, (0, (.ofNat 1, [(3, .ofNat 1)]), 0)), (5, (0, (.ofNat 0, [(5, .ofNat 1)]), 0))], [], ((([(0, .ofNat 0, .ofNat 3), (1, .ofNat 0, .ofNat 3), (2, .ofNat 0, .ofNat 1000), (3, .ofNat 0, .ofNat 59), (4, .ofNat 0, .ofNat 60), (5, .ofNat 0, .ofNat 60), (6, .ofNat 0, .ofNat 60000)], []), 7), [], [], [], 0)), (.ofNat 0, []))]
def xs_m6_m : List (Nat × zm_M) := [(276, zm_m276)]
def xs_m6_u : List xCo := []
theorem xs_m6_ok : xwl (xVV, xs_m6_m, xs_m6_u, xs_m6, [] ++ xs_m6_o, none) 87 [xs_m6_s] = true := by decide +kernel
end
section
/-! The pieces of match, about Int32s (made by a program) -/
theorem xq_xs_m1 {og : Nat → Option zm_C} {τ : List Nat} {h : zm_H} {Q : Option Value → zm_H → Prop} {a b g i j sa sb : Int32} (hH : xHI xKT xSG τ h) (hX : xX τ h) (i0 : 0 ≤ a.toInt ∧ a.toInt ≤ 3) (i1 : 0 ≤ b.toInt ∧ b.toInt ≤ 3) (i2 : 0 ≤ g.toInt ∧ g.toInt ≤ 1000) (i3 : 0 ≤ i.toInt ∧ i.toInt ≤ 60) (i4 : 0 ≤ j.toInt ∧ j.toInt ≤ 60) (i5 : 0 ≤ sa.toInt ∧ sa.toInt ≤ 60) (i6 : 0 ≤ sb.toInt ∧ sb.toInt ≤ 60) (c0 : 0 ≤ (0 : Int) + (1 * sa.toInt + ((-1) * i.toInt + 0))) (c1 : 0 ≤ (0 : Int) + (1 * sb.toInt + ((-1) * j.toInt + 0))) (m0 : ∃ (n : Nat) (v : Int32), (0 : Int) + (1 * a.toInt + 0) = (n : Int) ∧ xar h 57 n = some (.int v) ∧ (0 : Int) + (1 * sa.toInt + 0) = v.toInt) (m1 : ∃ (n : Nat) (v : Int32), (0 : Int) + (1 * b.toInt + 0) = (n : Int) ∧ xar h 57 n = some (.int v) ∧ (0 : Int) + (1 * sb.toInt + 0) = v.toInt)
    (k0 : ∀ (τ1 : List Nat) (h1 : zm_H) (x7 : Int) (v6 : Int32), xHI xKT xSG τ1 h1 → xX τ1 h1 → xF (xms []) τ h τ1 h1 → xW h1 ≤ xW h → (-2147483648) ≤ x7 → x7 ≤ 2147483647 → (0 : Int) + (1 * x7 + 0) = v6.toInt → zm_Y og 12 276 328 [(0, .ref 55), (1, .int a), (2, .int b), (3, .int g), (4, .int i), (5, .int j), (6, .int v6)] [] h1 Q) : zm_Y og 12 276 161 [(0, .ref 55), (1, .int a), (2, .int b), (3, .int g), (4, .int i), (5, .int j)] [] h Q := by
  refine xsegq_ok (V := xVV) (X := xX) (W := xW) (og := og) (E := []) (Eo := xs_m1_o) (c := xs_m1) (s := xs_m1_s) (MT := xs_m1_m) (CT := xs_m1_u) (by
    simp only [xs_m1_m, List.forall_mem_cons]
    exact ⟨rfl, rfl, rfl, fun _ h => by cases h⟩) (fun _ h => by cases h) xFl_good xXW_ok xs_m1_ok (fun e he => by cases he) rfl (ρ := [a.toInt, b.toInt, g.toInt, i.toInt, j.toInt, sa.toInt, sb.toInt]) (r0 := []) (σ := []) (s0 := []) (τ := τ) (h := h) (lc := [(0, .ref 55), (1, .int a), (2, .int b), (3, .int g), (4, .int i), (5, .int j)]) (sc := []) (fun r h' hq => by
    obtain ⟨_, _, _, _, _, p, hp, _⟩ := hq
    cases hp) rfl rfl ?_ hH hX ?_ ?_ trivial
  · intro e he r s' τ1 h1 lc sc hH1 hX1 hF1 hW1 hD1 hl1 hs1
    have he := List.mem_singleton.mp he
    subst he
    have hs1 := xsk_nil hs1
    subst hs1
    have hlen : ([a.toInt, b.toInt, g.toInt, i.toInt, j.toInt, sa.toInt, sb.toInt] ++ r).length = 8 := hD1.1.2.symm
    obtain ⟨x7, rfl⟩ : ∃ x7, r = [x7] := by
      match r, hlen with
      | [x7], _ => exact ⟨x7, rfl⟩
    obtain ⟨y7, z7, l7, u7⟩ := hD1.1.1.1 _ (List.mem_cons_of_mem _ (List.mem_cons_of_mem _ (List.mem_cons_of_mem _ (List.mem_cons_of_mem _ (List.mem_cons_of_mem _ (List.mem_cons_of_mem _ (List.mem_cons_of_mem _ List.mem_cons_self)))))))
    have z7 : some x7 = some y7 := z7
    cases z7
    obtain ⟨w6, g6, v6, rfl, e6⟩ := hl1 _ (List.mem_cons_of_mem _ (List.mem_cons_of_mem _ (List.mem_cons_of_mem _ (List.mem_cons_of_mem _ (List.mem_cons_of_mem _ (List.mem_cons_of_mem _ List.mem_cons_self))))))
    have e6 : some ((0 : Int) + (1 * x7 + 0)) = some v6.toInt := e6
    refine zy_sub _ (by simp) (fun q hq => ?_) (k0 τ1 h1 x7 v6 hH1 hX1 hF1 hW1 l7 u7 (Option.some.inj e6))
    simp only [List.mem_cons, List.not_mem_nil, or_false] at hq
    rcases hq with rfl | rfl | rfl | rfl | rfl | rfl | rfl
    · exact xl_ref hl1 List.mem_cons_self
    · exact xl_int hl1 (List.mem_cons_of_mem _ List.mem_cons_self) (xe_sym (s := 0) rfl)
    · exact xl_int hl1 (List.mem_cons_of_mem _ (List.mem_cons_of_mem _ List.mem_cons_self)) (xe_sym (s := 1) rfl)
    · exact xl_int hl1 (List.mem_cons_of_mem _ (List.mem_cons_of_mem _ (List.mem_cons_of_mem _ List.mem_cons_self))) (xe_sym (s := 2) rfl)
    · exact xl_int hl1 (List.mem_cons_of_mem _ (List.mem_cons_of_mem _ (List.mem_cons_of_mem _ (List.mem_cons_of_mem _ List.mem_cons_self)))) (xe_sym (s := 3) rfl)
    · exact xl_int hl1 (List.mem_cons_of_mem _ (List.mem_cons_of_mem _ (List.mem_cons_of_mem _ (List.mem_cons_of_mem _ (List.mem_cons_of_mem _ List.mem_cons_self))))) (xe_sym (s := 4) rfl)
    · exact g6
  · refine ⟨⟨⟨?_, ?_⟩, rfl⟩, ⟨rfl, fun k kd hk => by simp [xs_m1_s] at hk⟩, ?_, ?_⟩
    · intro q hq
      simp only [xs_m1_s, List.mem_cons, List.not_mem_nil, or_false] at hq
      rcases hq with rfl | rfl | rfl | rfl | rfl | rfl | rfl
      · exact ⟨_, rfl, i0.1, i0.2⟩
      · exact ⟨_, rfl, i1.1, i1.2⟩
      · exact ⟨_, rfl, i2.1, i2.2⟩
      · exact ⟨_, rfl, i3.1, i3.2⟩
      · exact ⟨_, rfl, i4.1, i4.2⟩
      · exact ⟨_, rfl, i5.1, i5.2⟩
      · exact ⟨_, rfl, i6.1, i6.2⟩
    · intro q hq
      simp only [xs_m1_s, List.mem_cons, List.not_mem_nil, or_false] at hq
      rcases hq with rfl | rfl
      · exact ⟨_, rfl, c0⟩
      · exact ⟨_, rfl, c1⟩
    · intro q hq; cases hq
    · intro q hq
      simp only [xs_m1_s, List.mem_cons, List.not_mem_nil, or_false] at hq
      rcases hq with rfl | rfl
      · obtain ⟨n, v, a1, a2, a3⟩ := m0
        exact ⟨57, n, _, rfl, congrArg some a1, a2, v, rfl, congrArg some a3⟩
      · obtain ⟨n, v, a1, a2, a3⟩ := m1
        exact ⟨57, n, _, rfl, congrArg some a1, a2, v, rfl, congrArg some a3⟩
  · intro q hq
    simp only [xs_m1_s, List.mem_cons, List.not_mem_nil, or_false] at hq
    rcases hq with rfl | rfl | rfl | rfl | rfl | rfl
    · exact ⟨_, rfl, rfl⟩
    · exact ⟨_, rfl, a, rfl, xe_sym (s := 0) rfl⟩
    · exact ⟨_, rfl, b, rfl, xe_sym (s := 1) rfl⟩
    · exact ⟨_, rfl, g, rfl, xe_sym (s := 2) rfl⟩
    · exact ⟨_, rfl, i, rfl, xe_sym (s := 3) rfl⟩
    · exact ⟨_, rfl, j, rfl, xe_sym (s := 4) rfl⟩
theorem xq_xs_m2 {og : Nat → Option zm_C} {τ : List Nat} {h : zm_H} {Q : Option Value → zm_H → Prop} {a b g sa sb : Int32} (hH : xHI xKT xSG τ h) (hX : xX τ h) (i0 : 0 ≤ a.toInt ∧ a.toInt ≤ 3) (i1 : 0 ≤ b.toInt ∧ b.toInt ≤ 3) (i2 : 0 ≤ g.toInt ∧ g.toInt ≤ 1000) (i3 : 0 ≤ sa.toInt ∧ sa.toInt ≤ 60) (i4 : 0 ≤ sb.toInt ∧ sb.toInt ≤ 60) (m0 : ∃ (n : Nat) (v : Int32), (0 : Int) + (1 * a.toInt + 0) = (n : Int) ∧ xar h 57 n = some (.int v) ∧ (0 : Int) + (1 * sa.toInt + 0) = v.toInt) (m1 : ∃ (n : Nat) (v : Int32), (0 : Int) + (1 * b.toInt + 0) = (n : Int) ∧ xar h 57 n = some (.int v) ∧ (0 : Int) + (1 * sb.toInt + 0) = v.toInt)
    (k0 : ∀ (τ1 : List Nat) (h1 : zm_H) (v6 : Int32), xHI xKT xSG τ1 h1 → xX τ1 h1 → xF (xms []) τ h τ1 h1 → xW h1 ≤ xW h → (0 : Int) + 0 = v6.toInt → zm_Y og 12 276 328 [(0, .ref 55), (1, .int a), (2, .int b), (3, .int g), (4, .int sa), (5, .int sb), (6, .int v6)] [] h1 Q) : zm_Y og 12 276 161 [(0, .ref 55), (1, .int a), (2, .int b), (3, .int g), (4, .int sa), (5, .int sb)] [] h Q := by
  refine xsegq_ok (V := xVV) (X := xX) (W := xW) (og := og) (E := []) (Eo := xs_m2_o) (c := xs_m2) (s := xs_m2_s) (MT := xs_m2_m) (CT := xs_m2_u) (by
    simp only [xs_m2_m, List.forall_mem_cons]
    exact ⟨rfl, fun _ h => by cases h⟩) (fun _ h => by cases h) xFl_good xXW_ok xs_m2_ok (fun e he => by cases he) rfl (ρ := [a.toInt, b.toInt, g.toInt, sa.toInt, sb.toInt]) (r0 := []) (σ := []) (s0 := []) (τ := τ) (h := h) (lc := [(0, .ref 55), (1, .int a), (2, .int b), (3, .int g), (4, .int sa), (5, .int sb)]) (sc := []) (fun r h' hq => by
    obtain ⟨_, _, _, _, _, p, hp, _⟩ := hq
    cases hp) rfl rfl ?_ hH hX ?_ ?_ trivial
  · intro e he r s' τ1 h1 lc sc hH1 hX1 hF1 hW1 hD1 hl1 hs1
    have he := List.mem_singleton.mp he
    subst he
    have hs1 := xsk_nil hs1
    subst hs1
    have hlen : ([a.toInt, b.toInt, g.toInt, sa.toInt, sb.toInt] ++ r).length = 5 := hD1.1.2.symm
    obtain rfl : r = [] := by
      match r, hlen with
      | [], _ => rfl
    obtain ⟨w6, g6, v6, rfl, e6⟩ := hl1 _ (List.mem_cons_of_mem _ (List.mem_cons_of_mem _ (List.mem_cons_of_mem _ (List.mem_cons_of_mem _ (List.mem_cons_of_mem _ (List.mem_cons_of_mem _ List.mem_cons_self))))))
    have e6 : some ((0 : Int) + 0) = some v6.toInt := e6
    refine zy_sub _ (by simp) (fun q hq => ?_) (k0 τ1 h1 v6 hH1 hX1 hF1 hW1 (Option.some.inj e6))
    simp only [List.mem_cons, List.not_mem_nil, or_false] at hq
    rcases hq with rfl | rfl | rfl | rfl | rfl | rfl | rfl
    · exact xl_ref hl1 List.mem_cons_self
    · exact xl_int hl1 (List.mem_cons_of_mem _ List.mem_cons_self) (xe_sym (s := 0) rfl)
    · exact xl_int hl1 (List.mem_cons_of_mem _ (List.mem_cons_of_mem _ List.mem_cons_self)) (xe_sym (s := 1) rfl)
    · exact xl_int hl1 (List.mem_cons_of_mem _ (List.mem_cons_of_mem _ (List.mem_cons_of_mem _ List.mem_cons_self))) (xe_sym (s := 2) rfl)
    · exact xl_int hl1 (List.mem_cons_of_mem _ (List.mem_cons_of_mem _ (List.mem_cons_of_mem _ (List.mem_cons_of_mem _ List.mem_cons_self)))) (xe_sym (s := 3) rfl)
    · exact xl_int hl1 (List.mem_cons_of_mem _ (List.mem_cons_of_mem _ (List.mem_cons_of_mem _ (List.mem_cons_of_mem _ (List.mem_cons_of_mem _ List.mem_cons_self))))) (xe_sym (s := 4) rfl)
    · exact g6
  · refine ⟨⟨⟨?_, ?_⟩, rfl⟩, ⟨rfl, fun k kd hk => by simp [xs_m2_s] at hk⟩, ?_, ?_⟩
    · intro q hq
      simp only [xs_m2_s, List.mem_cons, List.not_mem_nil, or_false] at hq
      rcases hq with rfl | rfl | rfl | rfl | rfl
      · exact ⟨_, rfl, i0.1, i0.2⟩
      · exact ⟨_, rfl, i1.1, i1.2⟩
      · exact ⟨_, rfl, i2.1, i2.2⟩
      · exact ⟨_, rfl, i3.1, i3.2⟩
      · exact ⟨_, rfl, i4.1, i4.2⟩
    · intro q hq; cases hq
    · intro q hq; cases hq
    · intro q hq
      simp only [xs_m2_s, List.mem_cons, List.not_mem_nil, or_false] at hq
      rcases hq with rfl | rfl
      · obtain ⟨n, v, a1, a2, a3⟩ := m0
        exact ⟨57, n, _, rfl, congrArg some a1, a2, v, rfl, congrArg some a3⟩
      · obtain ⟨n, v, a1, a2, a3⟩ := m1
        exact ⟨57, n, _, rfl, congrArg some a1, a2, v, rfl, congrArg some a3⟩
  · intro q hq
    simp only [xs_m2_s, List.mem_cons, List.not_mem_nil, or_false] at hq
    rcases hq with rfl | rfl | rfl | rfl | rfl | rfl
    · exact ⟨_, rfl, rfl⟩
    · exact ⟨_, rfl, a, rfl, xe_sym (s := 0) rfl⟩
    · exact ⟨_, rfl, b, rfl, xe_sym (s := 1) rfl⟩
    · exact ⟨_, rfl, g, rfl, xe_sym (s := 2) rfl⟩
    · exact ⟨_, rfl, sa, rfl, xe_sym (s := 3) rfl⟩
    · exact ⟨_, rfl, sb, rfl, xe_sym (s := 4) rfl⟩
theorem xq_xs_m3 {og : Nat → Option zm_C} {τ : List Nat} {h : zm_H} {Q : Option Value → zm_H → Prop} {a b g i sa sb c : Int32} (hH : xHI xKT xSG τ h) (hX : xX τ h) (i0 : 0 ≤ a.toInt ∧ a.toInt ≤ 3) (i1 : 0 ≤ b.toInt ∧ b.toInt ≤ 3) (i2 : 0 ≤ g.toInt ∧ g.toInt ≤ 1000) (i3 : 0 ≤ i.toInt ∧ i.toInt ≤ 59) (i4 : 0 ≤ sa.toInt ∧ sa.toInt ≤ 60) (i5 : 0 ≤ sb.toInt ∧ sb.toInt ≤ 60) (i6 : 0 ≤ c.toInt ∧ c.toInt ≤ 60000) (c0 : 0 ≤ ((-1) : Int) + (1 * sa.toInt + ((-1) * i.toInt + 0))) (m0 : ∃ (n : Nat) (v : Int32), (0 : Int) + (1 * a.toInt + 0) = (n : Int) ∧ xar h 57 n = some (.int v) ∧ (0 : Int) + (1 * sa.toInt + 0) = v.toInt) (m1 : ∃ (n : Nat) (v : Int32), (0 : Int) + (1 * b.toInt + 0) = (n : Int) ∧ xar h 57 n = some (.int v) ∧ (0 : Int) + (1 * sb.toInt + 0) = v.toInt) (m2 : ∃ (n : Nat) (v : Int32), (61 : Int) + (1 * sb.toInt + (61 * i.toInt + 0)) = (n : Int) ∧ xar h 115 n = some (.int v) ∧ (0 : Int) + (1 * c.toInt + 0) = v.toInt)
    (k0 : ∀ (τ1 : List Nat) (h1 : zm_H) (v6 : Int32), xHI xKT xSG τ1 h1 → xX τ1 h1 → xF (xms []) τ h τ1 h1 → xW h1 ≤ xW h → (0 : Int) + (1 * c.toInt + (1 * g.toInt + 0)) = v6.toInt → zm_Y og 12 276 328 [(0, .ref 55), (1, .int a), (2, .int b), (3, .int g), (4, .int i), (5, .int sb), (6, .int v6)] [] h1 Q) : zm_Y og 12 276 161 [(0, .ref 55), (1, .int a), (2, .int b), (3, .int g), (4, .int i), (5, .int sb)] [] h Q := by
  refine xsegq_ok (V := xVV) (X := xX) (W := xW) (og := og) (E := []) (Eo := xs_m3_o) (c := xs_m3) (s := xs_m3_s) (MT := xs_m3_m) (CT := xs_m3_u) (by
    simp only [xs_m3_m, List.forall_mem_cons]
    exact ⟨rfl, fun _ h => by cases h⟩) (fun _ h => by cases h) xFl_good xXW_ok xs_m3_ok (fun e he => by cases he) rfl (ρ := [a.toInt, b.toInt, g.toInt, i.toInt, sa.toInt, sb.toInt, c.toInt]) (r0 := []) (σ := []) (s0 := []) (τ := τ) (h := h) (lc := [(0, .ref 55), (1, .int a), (2, .int b), (3, .int g), (4, .int i), (5, .int sb)]) (sc := []) (fun r h' hq => by
    obtain ⟨_, _, _, _, _, p, hp, _⟩ := hq
    cases hp) rfl rfl ?_ hH hX ?_ ?_ trivial
  · intro e he r s' τ1 h1 lc sc hH1 hX1 hF1 hW1 hD1 hl1 hs1
    have he := List.mem_singleton.mp he
    subst he
    have hs1 := xsk_nil hs1
    subst hs1
    have hlen : ([a.toInt, b.toInt, g.toInt, i.toInt, sa.toInt, sb.toInt, c.toInt] ++ r).length = 7 := hD1.1.2.symm
    obtain rfl : r = [] := by
      match r, hlen with
      | [], _ => rfl
    obtain ⟨w6, g6, v6, rfl, e6⟩ := hl1 _ (List.mem_cons_of_mem _ (List.mem_cons_of_mem _ (List.mem_cons_of_mem _ (List.mem_cons_of_mem _ (List.mem_cons_of_mem _ (List.mem_cons_of_mem _ List.mem_cons_self))))))
    have e6 : some ((0 : Int) + (1 * c.toInt + (1 * g.toInt + 0))) = some v6.toInt := e6
    refine zy_sub _ (by simp) (fun q hq => ?_) (k0 τ1 h1 v6 hH1 hX1 hF1 hW1 (Option.some.inj e6))
    simp only [List.mem_cons, List.not_mem_nil, or_false] at hq
    rcases hq with rfl | rfl | rfl | rfl | rfl | rfl | rfl
    · exact xl_ref hl1 List.mem_cons_self
    · exact xl_int hl1 (List.mem_cons_of_mem _ List.mem_cons_self) (xe_sym (s := 0) rfl)
    · exact xl_int hl1 (List.mem_cons_of_mem _ (List.mem_cons_of_mem _ List.mem_cons_self)) (xe_sym (s := 1) rfl)
    · exact xl_int hl1 (List.mem_cons_of_mem _ (List.mem_cons_of_mem _ (List.mem_cons_of_mem _ List.mem_cons_self))) (xe_sym (s := 2) rfl)
    · exact xl_int hl1 (List.mem_cons_of_mem _ (List.mem_cons_of_mem _ (List.mem_cons_of_mem _ (List.mem_cons_of_mem _ List.mem_cons_self)))) (xe_sym (s := 3) rfl)
    · exact xl_int hl1 (List.mem_cons_of_mem _ (List.mem_cons_of_mem _ (List.mem_cons_of_mem _ (List.mem_cons_of_mem _ (List.mem_cons_of_mem _ List.mem_cons_self))))) (xe_sym (s := 5) rfl)
    · exact g6
  · refine ⟨⟨⟨?_, ?_⟩, rfl⟩, ⟨rfl, fun k kd hk => by simp [xs_m3_s] at hk⟩, ?_, ?_⟩
    · intro q hq
      simp only [xs_m3_s, List.mem_cons, List.not_mem_nil, or_false] at hq
      rcases hq with rfl | rfl | rfl | rfl | rfl | rfl | rfl
      · exact ⟨_, rfl, i0.1, i0.2⟩
      · exact ⟨_, rfl, i1.1, i1.2⟩
      · exact ⟨_, rfl, i2.1, i2.2⟩
      · exact ⟨_, rfl, i3.1, i3.2⟩
      · exact ⟨_, rfl, i4.1, i4.2⟩
      · exact ⟨_, rfl, i5.1, i5.2⟩
      · exact ⟨_, rfl, i6.1, i6.2⟩
    · intro q hq
      simp only [xs_m3_s, List.mem_cons, List.not_mem_nil, or_false] at hq
      subst hq
      exact ⟨_, rfl, c0⟩
    · intro q hq; cases hq
    · intro q hq
      simp only [xs_m3_s, List.mem_cons, List.not_mem_nil, or_false] at hq
      rcases hq with rfl | rfl | rfl
      · obtain ⟨n, v, a1, a2, a3⟩ := m0
        exact ⟨57, n, _, rfl, congrArg some a1, a2, v, rfl, congrArg some a3⟩
      · obtain ⟨n, v, a1, a2, a3⟩ := m1
        exact ⟨57, n, _, rfl, congrArg some a1, a2, v, rfl, congrArg some a3⟩
      · obtain ⟨n, v, a1, a2, a3⟩ := m2
        exact ⟨115, n, _, rfl, congrArg some a1, a2, v, rfl, congrArg some a3⟩
  · intro q hq
    simp only [xs_m3_s, List.mem_cons, List.not_mem_nil, or_false] at hq
    rcases hq with rfl | rfl | rfl | rfl | rfl | rfl
    · exact ⟨_, rfl, rfl⟩
    · exact ⟨_, rfl, a, rfl, xe_sym (s := 0) rfl⟩
    · exact ⟨_, rfl, b, rfl, xe_sym (s := 1) rfl⟩
    · exact ⟨_, rfl, g, rfl, xe_sym (s := 2) rfl⟩
    · exact ⟨_, rfl, i, rfl, xe_sym (s := 3) rfl⟩
    · exact ⟨_, rfl, sb, rfl, xe_sym (s := 5) rfl⟩
theorem xq_xs_m4 {og : Nat → Option zm_C} {τ : List Nat} {h : zm_H} {Q : Option Value → zm_H → Prop} {a b g : Int32} (hH : xHI xKT xSG τ h) (hX : xX τ h) (i0 : 0 ≤ a.toInt ∧ a.toInt ≤ 3) (i1 : 0 ≤ b.toInt ∧ b.toInt ≤ 3) (i2 : 0 ≤ g.toInt ∧ g.toInt ≤ 1000)
    (k0 : ∀ (τ1 : List Nat) (h1 : zm_H) (v4 : Int32) (v5 : Int32), xHI xKT xSG τ1 h1 → xX τ1 h1 → xF (xms [(55, 108)]) τ h τ1 h1 → xW h1 ≤ xW h → (0 : Int) + 0 = v4.toInt → (0 : Int) + 0 = v5.toInt → zm_Y og 12 276 371 [(0, .ref 55), (1, .int a), (2, .int b), (3, .int g), (4, .int v4), (5, .int v5)] [] h1 Q) : zm_Y og 12 276 355 [(0, .ref 55), (1, .int a), (2, .int b), (3, .int g)] [] h Q := by
  refine xsegq_ok (V := xVV) (X := xX) (W := xW) (og := og) (E := []) (Eo := xs_m4_o) (c := xs_m4) (s := xs_m4_s) (MT := xs_m4_m) (CT := xs_m4_u) (by
    simp only [xs_m4_m, List.forall_mem_cons]
    exact ⟨rfl, fun _ h => by cases h⟩) (fun _ h => by cases h) xFl_good xXW_ok xs_m4_ok (fun e he => by cases he) rfl (ρ := [a.toInt, b.toInt, g.toInt]) (r0 := []) (σ := []) (s0 := []) (τ := τ) (h := h) (lc := [(0, .ref 55), (1, .int a), (2, .int b), (3, .int g)]) (sc := []) (fun r h' hq => by
    obtain ⟨_, _, _, _, _, p, hp, _⟩ := hq
    cases hp) rfl rfl ?_ hH hX ?_ ?_ trivial
  · intro e he r s' τ1 h1 lc sc hH1 hX1 hF1 hW1 hD1 hl1 hs1
    have he := List.mem_singleton.mp he
    subst he
    have hs1 := xsk_nil hs1
    subst hs1
    have hlen : ([a.toInt, b.toInt, g.toInt] ++ r).length = 3 := hD1.1.2.symm
    obtain rfl : r = [] := by
      match r, hlen with
      | [], _ => rfl
    obtain ⟨w4, g4, v4, rfl, e4⟩ := hl1 _ (List.mem_cons_of_mem _ (List.mem_cons_of_mem _ (List.mem_cons_of_mem _ (List.mem_cons_of_mem _ List.mem_cons_self))))
    have e4 : some ((0 : Int) + 0) = some v4.toInt := e4
    obtain ⟨w5, g5, v5, rfl, e5⟩ := hl1 _ (List.mem_cons_of_mem _ (List.mem_cons_of_mem _ (List.mem_cons_of_mem _ (List.mem_cons_of_mem _ (List.mem_cons_of_mem _ List.mem_cons_self)))))
    have e5 : some ((0 : Int) + 0) = some v5.toInt := e5
    refine zy_sub _ (by simp) (fun q hq => ?_) (k0 τ1 h1 v4 v5 hH1 hX1 hF1 hW1 (Option.some.inj e4) (Option.some.inj e5))
    simp only [List.mem_cons, List.not_mem_nil, or_false] at hq
    rcases hq with rfl | rfl | rfl | rfl | rfl | rfl
    · exact xl_ref hl1 List.mem_cons_self
    · exact xl_int hl1 (List.mem_cons_of_mem _ List.mem_cons_self) (xe_sym (s := 0) rfl)
    · exact xl_int hl1 (List.mem_cons_of_mem _ (List.mem_cons_of_mem _ List.mem_cons_self)) (xe_sym (s := 1) rfl)
    · exact xl_int hl1 (List.mem_cons_of_mem _ (List.mem_cons_of_mem _ (List.mem_cons_of_mem _ List.mem_cons_self))) (xe_sym (s := 2) rfl)
    · exact g4
    · exact g5
  · refine ⟨⟨⟨?_, ?_⟩, rfl⟩, ⟨rfl, fun k kd hk => by simp [xs_m4_s] at hk⟩, ?_, ?_⟩
    · intro q hq
      simp only [xs_m4_s, List.mem_cons, List.not_mem_nil, or_false] at hq
      rcases hq with rfl | rfl | rfl
      · exact ⟨_, rfl, i0.1, i0.2⟩
      · exact ⟨_, rfl, i1.1, i1.2⟩
      · exact ⟨_, rfl, i2.1, i2.2⟩
    · intro q hq; cases hq
    · intro q hq; cases hq
    · intro q hq; cases hq
  · intro q hq
    simp only [xs_m4_s, List.mem_cons, List.not_mem_nil, or_false] at hq
    rcases hq with rfl | rfl | rfl | rfl
    · exact ⟨_, rfl, rfl⟩
    · exact ⟨_, rfl, a, rfl, xe_sym (s := 0) rfl⟩
    · exact ⟨_, rfl, b, rfl, xe_sym (s := 1) rfl⟩
    · exact ⟨_, rfl, g, rfl, xe_sym (s := 2) rfl⟩
theorem xq_xs_m5 {og : Nat → Option zm_C} {τ : List Nat} {h : zm_H} {Q : Option Value → zm_H → Prop} {a b g i j sa sb : Int32} (hH : xHI xKT xSG τ h) (hX : xX τ h) (i0 : 0 ≤ a.toInt ∧ a.toInt ≤ 3) (i1 : 0 ≤ b.toInt ∧ b.toInt ≤ 3) (i2 : 0 ≤ g.toInt ∧ g.toInt ≤ 1000) (i3 : 0 ≤ i.toInt ∧ i.toInt ≤ 59) (i4 : 0 ≤ j.toInt ∧ j.toInt ≤ 59) (i5 : 0 ≤ sa.toInt ∧ sa.toInt ≤ 60) (i6 : 0 ≤ sb.toInt ∧ sb.toInt ≤ 60) (c0 : 0 ≤ ((-1) : Int) + (1 * sa.toInt + ((-1) * i.toInt + 0))) (c1 : 0 ≤ ((-1) : Int) + (1 * sb.toInt + ((-1) * j.toInt + 0))) (m0 : ∃ (n : Nat) (v : Int32), (0 : Int) + (1 * a.toInt + 0) = (n : Int) ∧ xar h 57 n = some (.int v) ∧ (0 : Int) + (1 * sa.toInt + 0) = v.toInt) (m1 : ∃ (n : Nat) (v : Int32), (0 : Int) + (1 * b.toInt + 0) = (n : Int) ∧ xar h 57 n = some (.int v) ∧ (0 : Int) + (1 * sb.toInt + 0) = v.toInt)
    (k0 : ∀ (τ1 : List Nat) (h1 : zm_H) (v4 : Int32) (v5 : Int32), xHI xKT xSG τ1 h1 → xX τ1 h1 → xF (xms [(116, 0)]) τ h τ1 h1 → xW h1 ≤ xW h → (1 : Int) + (1 * i.toInt + 0) = v4.toInt → (1 : Int) + (1 * j.toInt + 0) = v5.toInt → zm_Y og 12 276 371 [(0, .ref 55), (1, .int a), (2, .int b), (3, .int g), (4, .int v4), (5, .int v5)] [] h1 Q)
    (k1 : ∀ (τ1 : List Nat) (h1 : zm_H) (v4 : Int32), xHI xKT xSG τ1 h1 → xX τ1 h1 → xF (xms [(116, 0)]) τ h τ1 h1 → xW h1 ≤ xW h → (1 : Int) + (1 * i.toInt + 0) = v4.toInt → zm_Y og 12 276 371 [(0, .ref 55), (1, .int a), (2, .int b), (3, .int g), (4, .int v4), (5, .int j)] [] h1 Q)
    (k2 : ∀ (τ1 : List Nat) (h1 : zm_H) (v5 : Int32), xHI xKT xSG τ1 h1 → xX τ1 h1 → xF (xms [(116, 0)]) τ h τ1 h1 → xW h1 ≤ xW h → (1 : Int) + (1 * j.toInt + 0) = v5.toInt → zm_Y og 12 276 371 [(0, .ref 55), (1, .int a), (2, .int b), (3, .int g), (4, .int i), (5, .int v5)] [] h1 Q) : zm_Y og 12 276 382 [(0, .ref 55), (1, .int a), (2, .int b), (3, .int g), (4, .int i), (5, .int j)] [] h Q := by
  refine xsegq_ok (V := xVV) (X := xX) (W := xW) (og := og) (E := []) (Eo := xs_m5_o) (c := xs_m5) (s := xs_m5_s) (MT := xs_m5_m) (CT := xs_m5_u) (by
    simp only [xs_m5_m, List.forall_mem_cons]
    exact ⟨rfl, rfl, rfl, fun _ h => by cases h⟩) (fun _ h => by cases h) xFl_good xXW_ok xs_m5_ok (fun e he => by cases he) rfl (ρ := [a.toInt, b.toInt, g.toInt, i.toInt, j.toInt, sa.toInt, sb.toInt]) (r0 := []) (σ := []) (s0 := []) (τ := τ) (h := h) (lc := [(0, .ref 55), (1, .int a), (2, .int b), (3, .int g), (4, .int i), (5, .int j)]) (sc := []) (fun r h' hq => by
    obtain ⟨_, _, _, _, _, p, hp, _⟩ := hq
    cases hp) rfl rfl ?_ hH hX ?_ ?_ trivial
  · intro e he r s' τ1 h1 lc sc hH1 hX1 hF1 hW1 hD1 hl1 hs1
    simp only [xs_m5_o, List.mem_cons, List.not_mem_nil, or_false] at he
    rcases he with rfl | rfl | rfl
    · have hs1 := xsk_nil hs1
      subst hs1
      have hlen : ([a.toInt, b.toInt, g.toInt, i.toInt, j.toInt, sa.toInt, sb.toInt] ++ r).length = 7 := hD1.1.2.symm
      obtain rfl : r = [] := by
        match r, hlen with
        | [], _ => rfl
      obtain ⟨w4, g4, v4, rfl, e4⟩ := hl1 _ (List.mem_cons_of_mem _ (List.mem_cons_of_mem _ (List.mem_cons_of_mem _ (List.mem_cons_of_mem _ List.mem_cons_self))))
      have e4 : some ((1 : Int) + (1 * i.toInt + 0)) = some v4.toInt := e4
      obtain ⟨w5, g5, v5, rfl, e5⟩ := hl1 _ (List.mem_cons_of_mem _ (List.mem_cons_of_mem _ (List.mem_cons_of_mem _ (List.mem_cons_of_mem _ (List.mem_cons_of_mem _ List.mem_cons_self)))))
      have e5 : some ((1 : Int) + (1 * j.toInt + 0)) = some v5.toInt := e5
      refine zy_sub _ (by simp) (fun q hq => ?_) (k0 τ1 h1 v4 v5 hH1 hX1 hF1 hW1 (Option.some.inj e4) (Option.some.inj e5))
      simp only [List.mem_cons, List.not_mem_nil, or_false] at hq
      rcases hq with rfl | rfl | rfl | rfl | rfl | rfl
      · exact xl_ref hl1 List.mem_cons_self
      · exact xl_int hl1 (List.mem_cons_of_mem _ List.mem_cons_self) (xe_sym (s := 0) rfl)
      · exact xl_int hl1 (List.mem_cons_of_mem _ (List.mem_cons_of_mem _ List.mem_cons_self)) (xe_sym (s := 1) rfl)
      · exact xl_int hl1 (List.mem_cons_of_mem _ (List.mem_cons_of_mem _ (List.mem_cons_of_mem _ List.mem_cons_self))) (xe_sym (s := 2) rfl)
      · exact g4
      · exact g5
    · have hs1 := xsk_nil hs1
      subst hs1
      have hlen : ([a.toInt, b.toInt, g.toInt, i.toInt, j.toInt, sa.toInt, sb.toInt] ++ r).length = 7 := hD1.1.2.symm
      obtain rfl : r = [] := by
        match r, hlen with
        | [], _ => rfl
      obtain ⟨w4, g4, v4, rfl, e4⟩ := hl1 _ (List.mem_cons_of_mem _ (List.mem_cons_of_mem _ (List.mem_cons_of_mem _ (List.mem_cons_of_mem _ List.mem_cons_self))))
      have e4 : some ((1 : Int) + (1 * i.toInt + 0)) = some v4.toInt := e4
      refine zy_sub _ (by simp) (fun q hq => ?_) (k1 τ1 h1 v4 hH1 hX1 hF1 hW1 (Option.some.inj e4))
      simp only [List.mem_cons, List.not_mem_nil, or_false] at hq
      rcases hq with rfl | rfl | rfl | rfl | rfl | rfl
      · exact xl_ref hl1 List.mem_cons_self
      · exact xl_int hl1 (List.mem_cons_of_mem _ List.mem_cons_self) (xe_sym (s := 0) rfl)
      · exact xl_int hl1 (List.mem_cons_of_mem _ (List.mem_cons_of_mem _ List.mem_cons_self)) (xe_sym (s := 1) rfl)
      · exact xl_int hl1 (List.mem_cons_of_mem _ (List.mem_cons_of_mem _ (List.mem_cons_of_mem _ List.mem_cons_self))) (xe_sym (s := 2) rfl)
      · exact g4
      · exact xl_int hl1 (List.mem_cons_of_mem _ (List.mem_cons_of_mem _ (List.mem_cons_of_mem _ (List.mem_cons_of_mem _ (List.mem_cons_of_mem _ List.mem_cons_self))))) (xe_sym (s := 4) rfl)
    · have hs1 := xsk_nil hs1
      subst hs1
      have hlen : ([a.toInt, b.toInt, g.toInt, i.toInt, j.toInt, sa.toInt, sb.toInt] ++ r).length = 7 := hD1.1.2.symm
      obtain rfl : r = [] := by
        match r, hlen with
        | [], _ => rfl
      obtain ⟨w5, g5, v5, rfl, e5⟩ := hl1 _ (List.mem_cons_of_mem _ (List.mem_cons_of_mem _ (List.mem_cons_of_mem _ (List.mem_cons_of_mem _ (List.mem_cons_of_mem _ List.mem_cons_self)))))
      have e5 : some ((1 : Int) + (1 * j.toInt + 0)) = some v5.toInt := e5
      refine zy_sub _ (by simp) (fun q hq => ?_) (k2 τ1 h1 v5 hH1 hX1 hF1 hW1 (Option.some.inj e5))
      simp only [List.mem_cons, List.not_mem_nil, or_false] at hq
      rcases hq with rfl | rfl | rfl | rfl | rfl | rfl
      · exact xl_ref hl1 List.mem_cons_self
      · exact xl_int hl1 (List.mem_cons_of_mem _ List.mem_cons_self) (xe_sym (s := 0) rfl)
      · exact xl_int hl1 (List.mem_cons_of_mem _ (List.mem_cons_of_mem _ List.mem_cons_self)) (xe_sym (s := 1) rfl)
      · exact xl_int hl1 (List.mem_cons_of_mem _ (List.mem_cons_of_mem _ (List.mem_cons_of_mem _ List.mem_cons_self))) (xe_sym (s := 2) rfl)
      · exact xl_int hl1 (List.mem_cons_of_mem _ (List.mem_cons_of_mem _ (List.mem_cons_of_mem _ (List.mem_cons_of_mem _ List.mem_cons_self)))) (xe_sym (s := 3) rfl)
      · exact g5
  · refine ⟨⟨⟨?_, ?_⟩, rfl⟩, ⟨rfl, fun k kd hk => by simp [xs_m5_s] at hk⟩, ?_, ?_⟩
    · intro q hq
      simp only [xs_m5_s, List.mem_cons, List.not_mem_nil, or_false] at hq
      rcases hq with rfl | rfl | rfl | rfl | rfl | rfl | rfl
      · exact ⟨_, rfl, i0.1, i0.2⟩
      · exact ⟨_, rfl, i1.1, i1.2⟩
      · exact ⟨_, rfl, i2.1, i2.2⟩
      · exact ⟨_, rfl, i3.1, i3.2⟩
      · exact ⟨_, rfl, i4.1, i4.2⟩
      · exact ⟨_, rfl, i5.1, i5.2⟩
      · exact ⟨_, rfl, i6.1, i6.2⟩
    · intro q hq
      simp only [xs_m5_s, List.mem_cons, List.not_mem_nil, or_false] at hq
      rcases hq with rfl | rfl
      · exact ⟨_, rfl, c0⟩
      · exact ⟨_, rfl, c1⟩
    · intro q hq; cases hq
    · intro q hq
      simp only [xs_m5_s, List.mem_cons, List.not_mem_nil, or_false] at hq
      rcases hq with rfl | rfl
      · obtain ⟨n, v, a1, a2, a3⟩ := m0
        exact ⟨57, n, _, rfl, congrArg some a1, a2, v, rfl, congrArg some a3⟩
      · obtain ⟨n, v, a1, a2, a3⟩ := m1
        exact ⟨57, n, _, rfl, congrArg some a1, a2, v, rfl, congrArg some a3⟩
  · intro q hq
    simp only [xs_m5_s, List.mem_cons, List.not_mem_nil, or_false] at hq
    rcases hq with rfl | rfl | rfl | rfl | rfl | rfl
    · exact ⟨_, rfl, rfl⟩
    · exact ⟨_, rfl, a, rfl, xe_sym (s := 0) rfl⟩
    · exact ⟨_, rfl, b, rfl, xe_sym (s := 1) rfl⟩
    · exact ⟨_, rfl, g, rfl, xe_sym (s := 2) rfl⟩
    · exact ⟨_, rfl, i, rfl, xe_sym (s := 3) rfl⟩
    · exact ⟨_, rfl, j, rfl, xe_sym (s := 4) rfl⟩
theorem xq_xs_m6 {og : Nat → Option zm_C} {τ : List Nat} {h : zm_H} {Q : Option Value → zm_H → Prop} {a b g i sa sb c : Int32} (hH : xHI xKT xSG τ h) (hX : xX τ h) (i0 : 0 ≤ a.toInt ∧ a.toInt ≤ 3) (i1 : 0 ≤ b.toInt ∧ b.toInt ≤ 3) (i2 : 0 ≤ g.toInt ∧ g.toInt ≤ 1000) (i3 : 0 ≤ i.toInt ∧ i.toInt ≤ 59) (i4 : 0 ≤ sa.toInt ∧ sa.toInt ≤ 60) (i5 : 0 ≤ sb.toInt ∧ sb.toInt ≤ 60) (i6 : 0 ≤ c.toInt ∧ c.toInt ≤ 60000) (c0 : 0 ≤ ((-1) : Int) + (1 * sa.toInt + ((-1) * i.toInt + 0))) (m0 : ∃ (n : Nat) (v : Int32), (0 : Int) + (1 * a.toInt + 0) = (n : Int) ∧ xar h 57 n = some (.int v) ∧ (0 : Int) + (1 * sa.toInt + 0) = v.toInt) (m1 : ∃ (n : Nat) (v : Int32), (0 : Int) + (1 * b.toInt + 0) = (n : Int) ∧ xar h 57 n = some (.int v) ∧ (0 : Int) + (1 * sb.toInt + 0) = v.toInt) (m2 : ∃ (n : Nat) (v : Int32), (0 : Int) + (1 * sb.toInt + (61 * i.toInt + 0)) = (n : Int) ∧ xar h 115 n = some (.int v) ∧ (0 : Int) + (1 * c.toInt + (1 * g.toInt + 0)) = v.toInt) (m3 : ∃ (n : Nat) (v : Int32), (61 : Int) + (1 * sb.toInt + (61 * i.toInt + 0)) = (n : Int) ∧ xar h 115 n = some (.int v) ∧ (0 : Int) + (1 * c.toInt + 0) = v.toInt)
    (k0 : ∀ (τ1 : List Nat) (h1 : zm_H) (v4 : Int32), xHI xKT xSG τ1 h1 → xX τ1 h1 → xF (xms [(116, 0)]) τ h τ1 h1 → xW h1 ≤ xW h → (1 : Int) + (1 * i.toInt + 0) = v4.toInt → zm_Y og 12 276 371 [(0, .ref 55), (1, .int a), (2, .int b), (3, .int g), (4, .int v4), (5, .int sb)] [] h1 Q) : zm_Y og 12 276 382 [(0, .ref 55), (1, .int a), (2, .int b), (3, .int g), (4, .int i), (5, .int sb)] [] h Q := by
  refine xsegq_ok (V := xVV) (X := xX) (W := xW) (og := og) (E := []) (Eo := xs_m6_o) (c := xs_m6) (s := xs_m6_s) (MT := xs_m6_m) (CT := xs_m6_u) (by
    simp only [xs_m6_m, List.forall_mem_cons]
    exact ⟨rfl, fun _ h => by cases h⟩) (fun _ h => by cases h) xFl_good xXW_ok xs_m6_ok (fun e he => by cases he) rfl (ρ := [a.toInt, b.toInt, g.toInt, i.toInt, sa.toInt, sb.toInt, c.toInt]) (r0 := []) (σ := []) (s0 := []) (τ := τ) (h := h) (lc := [(0, .ref 55), (1, .int a), (2, .int b), (3, .int g), (4, .int i), (5, .int sb)]) (sc := []) (fun r h' hq => by
    obtain ⟨_, _, _, _, _, p, hp, _⟩ := hq
    cases hp) rfl rfl ?_ hH hX ?_ ?_ trivial
  · intro e he r s' τ1 h1 lc sc hH1 hX1 hF1 hW1 hD1 hl1 hs1
    have he := List.mem_singleton.mp he
    subst he
    have hs1 := xsk_nil hs1
    subst hs1
    have hlen : ([a.toInt, b.toInt, g.toInt, i.toInt, sa.toInt, sb.toInt, c.toInt] ++ r).length = 7 := hD1.1.2.symm
    obtain rfl : r = [] := by
      match r, hlen with
      | [], _ => rfl
    obtain ⟨w4, g4, v4, rfl, e4⟩ := hl1 _ (List.mem_cons_of_mem _ (List.mem_cons_of_mem _ (List.mem_cons_of_mem _ (List.mem_cons_of_mem _ List.mem_cons_self))))
    have e4 : some ((1 : Int) + (1 * i.toInt + 0)) = some v4.toInt := e4
    refine zy_sub _ (by simp) (fun q hq => ?_) (k0 τ1 h1 v4 hH1 hX1 hF1 hW1 (Option.some.inj e4))
    simp only [List.mem_cons, List.not_mem_nil, or_false] at hq
    rcases hq with rfl | rfl | rfl | rfl | rfl | rfl
    · exact xl_ref hl1 List.mem_cons_self
    · exact xl_int hl1 (List.mem_cons_of_mem _ List.mem_cons_self) (xe_sym (s := 0) rfl)
    · exact xl_int hl1 (List.mem_cons_of_mem _ (List.mem_cons_of_mem _ List.mem_cons_self)) (xe_sym (s := 1) rfl)
    · exact xl_int hl1 (List.mem_cons_of_mem _ (List.mem_cons_of_mem _ (List.mem_cons_of_mem _ List.mem_cons_self))) (xe_sym (s := 2) rfl)
    · exact g4
    · exact xl_int hl1 (List.mem_cons_of_mem _ (List.mem_cons_of_mem _ (List.mem_cons_of_mem _ (List.mem_cons_of_mem _ (List.mem_cons_of_mem _ List.mem_cons_self))))) (xe_sym (s := 5) rfl)
  · refine ⟨⟨⟨?_, ?_⟩, rfl⟩, ⟨rfl, fun k kd hk => by simp [xs_m6_s] at hk⟩, ?_, ?_⟩
    · intro q hq
      simp only [xs_m6_s, List.mem_cons, List.not_mem_nil, or_false] at hq
      rcases hq with rfl | rfl | rfl | rfl | rfl | rfl | rfl
      · exact ⟨_, rfl, i0.1, i0.2⟩
      · exact ⟨_, rfl, i1.1, i1.2⟩
      · exact ⟨_, rfl, i2.1, i2.2⟩
      · exact ⟨_, rfl, i3.1, i3.2⟩
      · exact ⟨_, rfl, i4.1, i4.2⟩
      · exact ⟨_, rfl, i5.1, i5.2⟩
      · exact ⟨_, rfl, i6.1, i6.2⟩
    · intro q hq
      simp only [xs_m6_s, List.mem_cons, List.not_mem_nil, or_false] at hq
      subst hq
      exact ⟨_, rfl, c0⟩
    · intro q hq; cases hq
    · intro q hq
      simp only [xs_m6_s, List.mem_cons, List.not_mem_nil, or_false] at hq
      rcases hq with rfl | rfl | rfl | rfl
      · obtain ⟨n, v, a1, a2, a3⟩ := m0
        exact ⟨57, n, _, rfl, congrArg some a1, a2, v, rfl, congrArg some a3⟩
      · obtain ⟨n, v, a1, a2, a3⟩ := m1
        exact ⟨57, n, _, rfl, congrArg some a1, a2, v, rfl, congrArg some a3⟩
      · obtain ⟨n, v, a1, a2, a3⟩ := m2
        exact ⟨115, n, _, rfl, congrArg some a1, a2, v, rfl, congrArg some a3⟩
      · obtain ⟨n, v, a1, a2, a3⟩ := m3
        exact ⟨115, n, _, rfl, congrArg some a1, a2, v, rfl, congrArg some a3⟩
  · intro q hq
    simp only [xs_m6_s, List.mem_cons, List.not_mem_nil, or_false] at hq
    rcases hq with rfl | rfl | rfl | rfl | rfl | rfl
    · exact ⟨_, rfl, rfl⟩
    · exact ⟨_, rfl, a, rfl, xe_sym (s := 0) rfl⟩
    · exact ⟨_, rfl, b, rfl, xe_sym (s := 1) rfl⟩
    · exact ⟨_, rfl, g, rfl, xe_sym (s := 2) rfl⟩
    · exact ⟨_, rfl, i, rfl, xe_sym (s := 3) rfl⟩
    · exact ⟨_, rfl, sb, rfl, xe_sym (s := 5) rfl⟩
end
section
/-! By hand: the model's match -/
def xMM : List (Nat × Nat) := [(55, 0), (55, 108), (115, 0), (116, 0)]
set_option maxRecDepth 20000 in
theorem xm106 {τ : List Nat} {h : zm_H} (hH : xHI xKT xSG τ h) : xfd h 55 106 = some (.ref 115) := xfo_ref (k := 55) (f := 106) (a := 115) hH rfl rfl rfl
section XMT
variable {og : Nat → Option zm_C} {τ0 τ : List Nat} {h0 h : zm_H} {fZ f : Nat → Int32}
def xmI (τ0 : List Nat) (h0 : zm_H) (τ : List Nat) (h : zm_H) (fZ f : Nat → Int32) : Prop := xHI xKT xSG τ h ∧ xX τ h ∧ xF (xms xMM) τ0 h0 τ h ∧ xW h ≤ xW h0 ∧ h[57]? = some (.inl (0, 4, .inl fZ)) ∧ h[115]? = some (.inl (0, 3721, .inl f))
theorem xmI_seg {ms : List (Nat × Nat)} {τ1 : List Nat} {h1 : zm_H} (hI : xmI τ0 h0 τ h fZ f) (hm : ∀ k g, xms ms k g = true → xms xMM k g = true) (m1 : xms ms 57 0 = false) (m2 : xms ms 115 0 = false) (hH1 : xHI xKT xSG τ1 h1) (hX1 : xX τ1 h1) (hF : xF (xms ms) τ h τ1 h1) (hW : xW h1 ≤ xW h) : xmI τ0 h0 τ1 h1 fZ f := by
  obtain ⟨a, b, c, d, e, g⟩ := hI
  exact ⟨hH1, hX1, xF_trans c (xF_weak hF hm), by omega, xkeep_a a rfl hF m1 e, xkeep_a a rfl hF m2 g⟩
theorem xmI_set {i : Nat} {v : Int32} (hI : xmI τ0 h0 τ h fZ f) : xmI τ0 h0 τ (h.set 115 (.inl (0, 3721, .inl (upd f i v)))) fZ (upd f i v) := by
  obtain ⟨a, b, c, d, e, g⟩ := hI
  obtain ⟨hX', hW⟩ := xXW_ok.2.1 τ h 115 115 0 3721 (.inl f) (.inl (upd f i v)) b (a.2.2 115 rfl) rfl g
  refine ⟨xHI_set a g (a.2.2 115 rfl) (show xKT 115 = some (.inr _) from rfl) ⟨_, rfl, ⟨_, rfl⟩, fun j hj => ⟨_, List.mem_singleton.mpr rfl, ⟨upd f i v j, rfl, (xb_rng _).1, (xb_rng _).2⟩, ?_⟩⟩, hX', xF_trans c ?_, by omega, ?_, ?_⟩
  · have hj : j < 3721 := hj
    refine ⟨?_, ?_, Or.inl rfl⟩
    · show (0 : Int) ≤ (j : Int); omega
    · show (j : Int) ≤ 3720; omega
  · refine ⟨⟨[], (List.append_nil τ).symm⟩, fun x kd y w h1 h2 h3 => by rw [xfd_seta g]; exact h3, fun x kd y h1 h2 h3 => ?_⟩
    rw [xgs g]
    by_cases ex : 115 = x
    · subst ex
      rw [a.2.2 115 rfl] at h1
      cases h1
      cases h2
    · rw [if_neg ex]; exact h3
  · rw [xgs g, if_neg (by decide)]; exact e
  · rw [xgs g, if_pos rfl]
/-- the last column: gap for each row to the end -/
def xcol (f : Nat → Int32) (SA SB : Nat) (g : Int) (lo : Nat) : Prop := ∀ i : Nat, lo ≤ i → i ≤ SA → (f (61 * i + SB)).toInt = g * ((SA : Int) - (i : Int))
theorem xcol_bnd {SA SB lo i : Nat} {g : Int} (hg : 0 ≤ g ∧ g ≤ 1000) (hSA : SA ≤ 60) (hc : xcol f SA SB g lo) (h1 : lo ≤ i) (h2 : i ≤ SA) : 0 ≤ (f (61 * i + SB)).toInt ∧ (f (61 * i + SB)).toInt ≤ 60000 := by
  rw [hc i h1 h2]
  have hk : 0 ≤ (SA : Int) - (i : Int) := by omega
  have hk2 : (SA : Int) - (i : Int) ≤ 60 := by omega
  refine ⟨Int.mul_nonneg hg.1 hk, ?_⟩
  have := Int.mul_le_mul hg.2 hk2 hk (by omega : (0 : Int) ≤ 1000)
  omega
theorem xcol_upd {SA SB n m : Nat} {g : Int} {v : Int32} (hSB : SB ≤ 60) (hm : m < SB) (hc : xcol f SA SB g n) : xcol (upd f (61 * n + m) v) SA SB g n := by
  intro i h1 h2
  have hne : ¬ 61 * i + SB = 61 * n + m := by omega
  show (if 61 * i + SB = 61 * n + m then v else f (61 * i + SB)).toInt = _
  rw [if_neg hne]
  exact hc i h1 h2
theorem xsub1 {y : Int32} {m : Nat} (hy : y.toInt = (m : Int)) (hm : m ≤ 100) : (y + -1).toInt = (m : Int) - 1 := by
  rw [Int32.toInt_add]
  have e1 : (-1 : Int32).toInt = -1 := rfl
  have ea : xI32a = -2147483648 := rfl
  have eb : xI32b = 2147483647 := rfl
  rw [e1, hy, xb_bm32 (by omega) (by omega)]
  omega
theorem xidx {x y : Int32} {n m : Nat} (hx : x.toInt = (n : Int)) (hy : y.toInt = (m : Int)) (hn : n ≤ 60) (hm : m ≤ 60) : (61 * x + y).toInt = ((61 * n + m : Nat) : Int) := by
  have ea : xI32a = -2147483648 := rfl
  have eb : xI32b = 2147483647 := rfl
  have e1 : (61 : Int32).toInt = 61 := rfl
  have e2 : (61 * x).toInt = 61 * (n : Int) := by
    rw [Int32.toInt_mul, e1, hx, xb_bm32 (by omega) (by omega)]
  rw [Int32.toInt_add, e2, hy, xb_bm32 (by omega) (by omega)]
  omega
set_option maxRecDepth 20000 in
theorem zh_m328 {Q : Option Value → zm_H → Prop} {a b g x y v : Int32} {n m : Nat} (hI : xmI τ0 h0 τ h fZ f) (hx : x.toInt = (n : Int)) (hy : y.toInt = (m : Int)) (hn : n ≤ 60) (hm : m ≤ 60) (kk : zm_Y og 12 276 156 [(0, .ref 55), (1, .int a), (2, .int b), (3, .int g), (4, .int x), (5, .int (y + -1))] [] (h.set 115 (.inl (0, 3721, .inl (upd f (61 * n + m) v)))) Q) : zm_Y og 12 276 328 [(0, .ref 55), (1, .int a), (2, .int b), (3, .int g), (4, .int x), (5, .int y), (6, .int v)] [] h Q := by
  have hix := xidx hx hy hn hm
  have hin := xin_ok (j := 61 * x + y) (n := 3721) (by omega) (by omega)
  have hnn : (61 * x + y).toNatClampNeg = 61 * n + m := by
    have := hin.2.1
    omega
  refine zy_n 1 (mr := zm_m276) rfl (show _ = some (329, [(0, .ref 55), (1, .int a), (2, .int b), (3, .int g), (4, .int x), (5, .int y), (6, .int v)], [.ref 55]) from rfl) ?_
  refine zy_h (mr := zm_m276) rfl rfl (zh_gm hI.1 (xm106 hI.1)) ?_
  refine zy_n 6 (mr := zm_m276) rfl (show _ = some (342, [(0, .ref 55), (1, .int a), (2, .int b), (3, .int g), (4, .int x), (5, .int y), (6, .int v)], [.int v, .int (61 * x + y), .ref 115]) from rfl) ?_
  refine zy_h (mr := zm_m276) rfl rfl (zh_iast hI.2.2.2.2.2 hin.1) ?_
  rw [hnn]
  refine zy_n 2 (mr := zm_m276) rfl (show _ = some (156, [(5, .int (y + -1)), (0, .ref 55), (1, .int a), (2, .int b), (3, .int g), (4, .int x), (6, .int v)], []) from rfl) ?_
  exact zy_sub _ (by simp) (fun q hq => by simp only [List.mem_cons, List.not_mem_nil, or_false] at hq; rcases hq with rfl | rfl | rfl | rfl | rfl | rfl <;> rfl) kk
theorem xmsz {a : Int32} {S : Nat} (hI : xmI τ0 h0 τ h fZ f) (ha : 0 ≤ a.toInt ∧ a.toInt ≤ 3) (hs : fZ a.toNatClampNeg = Int32.ofNat S) (hS : S ≤ 60) : ∃ (n : Nat) (v : Int32), (0 : Int) + (1 * a.toInt + 0) = (n : Int) ∧ xar h 57 n = some (.int v) ∧ (0 : Int) + (1 * (Int32.ofNat S).toInt + 0) = v.toInt := by
  have h1 := xin_ok (j := a) (n := 4) ha.1 (by omega)
  refine ⟨a.toNatClampNeg, Int32.ofNat S, by have := h1.2.1; omega, ?_, by omega⟩
  simp only [xar, hI.2.2.2.2.1, if_pos h1.2.2, zm_kv, hs]
set_option maxRecDepth 20000 in
/-- below the last column -/
theorem zh_m156 {Q : Option Value → zm_H → Prop} {a b g x : Int32} {n SA SB : Nat} (ha : 0 ≤ a.toInt ∧ a.toInt ≤ 3) (hb : 0 ≤ b.toInt ∧ b.toInt ≤ 3) (hg : 0 ≤ g.toInt ∧ g.toInt ≤ 1000) (hsa : fZ a.toNatClampNeg = Int32.ofNat SA) (hsb : fZ b.toNatClampNeg = Int32.ofNat SB) (hSA : SA ≤ 60) (hSB : SB ≤ 60) (hx : x.toInt = (n : Int)) (hn : n ≤ SA)
    (kk : ∀ (τ1 : List Nat) (h1 : zm_H) (f1 : Nat → Int32), xmI τ0 h0 τ1 h1 fZ f1 → xcol f1 SA SB g.toInt n → zm_Y og 12 276 143 [(0, .ref 55), (1, .int a), (2, .int b), (3, .int g), (4, .int (x + -1))] [] h1 Q) : ∀ (m : Nat) (y : Int32) (τ : List Nat) (h : zm_H) (f : Nat → Int32), y.toInt = (m : Int) - 1 → m ≤ SB → xmI τ0 h0 τ h fZ f → xcol f SA SB g.toInt n → zm_Y og 12 276 156 [(0, .ref 55), (1, .int a), (2, .int b), (3, .int g), (4, .int x), (5, .int y)] [] h Q
  | 0, y, τ, h, f, hy, hm, hI, hc => by
    refine zy_n 1 (mr := zm_m276) rfl (show _ = some (158, [(0, .ref 55), (1, .int a), (2, .int b), (3, .int g), (4, .int x), (5, .int y)], [.int y]) from rfl) ?_
    refine zy_b (mr := zm_m276) rfl rfl (show _ = some (zm_if .lt y 349 161, []) from rfl) ?_
    refine zi_lt (fun _ => ?_) (fun e => absurd (Int32.lt_iff_toInt_lt.mpr (by rw [hy]; decide)) e)
    refine zy_n 2 (mr := zm_m276) rfl (show _ = some (143, [(4, .int (x + -1)), (0, .ref 55), (1, .int a), (2, .int b), (3, .int g), (5, .int y)], []) from rfl) ?_
    exact zy_sub _ (by simp) (fun q hq => by simp only [List.mem_cons, List.not_mem_nil, or_false] at hq; rcases hq with rfl | rfl | rfl | rfl | rfl <;> rfl) (kk τ h f hI hc)
  | m + 1, y, τ, h, f, hy, hm, hI, hc => by
    have hy1 : y.toInt = (m : Int) := by omega
    have eA := (xofn (k := SA) (by omega)).1
    have eB := (xofn (k := SB) (by omega)).1
    refine zy_n 1 (mr := zm_m276) rfl (show _ = some (158, [(0, .ref 55), (1, .int a), (2, .int b), (3, .int g), (4, .int x), (5, .int y)], [.int y]) from rfl) ?_
    refine zy_b (mr := zm_m276) rfl rfl (show _ = some (zm_if .lt y 349 161, []) from rfl) ?_
    refine zi_lt (fun e => absurd e (xnng (by omega)).1) (fun _ => ?_)
    refine xq_xs_m1 (sa := Int32.ofNat SA) (sb := Int32.ofNat SB) hI.1 hI.2.1 ha hb hg (by omega) (by omega) (by omega) (by omega) (by omega) (by omega) (xmsz hI ha hsa hSA) (xmsz hI hb hsb hSB) (fun τ1 h1 x7 v6 p1 p2 p3 p4 _ _ _ => ?_)
    have hI1 := xmI_seg hI (fun k g hk => by cases hk) rfl rfl p1 p2 p3 p4
    refine zh_m328 hI1 hx hy1 (by omega) (by omega) ?_
    exact zh_m156 ha hb hg hsa hsb hSA hSB hx hn kk m (y + -1) _ _ _ (xsub1 hy1 (by omega)) (by omega) (xmI_set hI1) (xcol_upd hSB (by omega) hc)
end XMT
end
section
/-! By hand: the model's match, the tables and the way back -/
section XMT2
variable {og : Nat → Option zm_C} {τ0 : List Nat} {h0 : zm_H} {fZ : Nat → Int32} {a b g : Int32} {SA SB : Nat}
theorem xmul_s {g : Int} {S n : Nat} : g * ((S : Int) - (n : Int)) = g * ((S : Int) - ((n + 1 : Nat) : Int)) + g := by
  have e : (S : Int) - (n : Int) = ((S : Int) - ((n + 1 : Nat) : Int)) + 1 := by omega
  rw [e, Int.mul_add, Int.mul_one]
theorem xcol_new {f : Nat → Int32} {n : Nat} {v : Int32} {g : Int} (hn : n ≤ SA) (hSB : SB ≤ 60) (hv : v.toInt = g * ((SA : Int) - (n : Int))) (hc : xcol f SA SB g (n + 1)) : xcol (upd f (61 * n + SB) v) SA SB g n := by
  intro i h1 h2
  show (if 61 * i + SB = 61 * n + SB then v else f (61 * i + SB)).toInt = _
  by_cases e : i = n
  · subst e
    rw [if_pos rfl]
    exact hv
  · rw [if_neg (by omega)]
    exact hc i (by omega) h2
set_option maxRecDepth 20000 in
/-- the whole table, then the rest -/
theorem zh_m143 {Q : Option Value → zm_H → Prop} (ha : 0 ≤ a.toInt ∧ a.toInt ≤ 3) (hb : 0 ≤ b.toInt ∧ b.toInt ≤ 3) (hg : 0 ≤ g.toInt ∧ g.toInt ≤ 1000) (hsa : fZ a.toNatClampNeg = Int32.ofNat SA) (hsb : fZ b.toNatClampNeg = Int32.ofNat SB) (hSA : SA ≤ 60) (hSB : SB ≤ 60)
    (kk : ∀ (τ1 : List Nat) (h1 : zm_H) (f1 : Nat → Int32), xmI τ0 h0 τ1 h1 fZ f1 → xcol f1 SA SB g.toInt 0 → zm_Y og 12 276 355 [(0, .ref 55), (1, .int a), (2, .int b), (3, .int g)] [] h1 Q) : ∀ (n : Nat) (x : Int32) (τ : List Nat) (h : zm_H) (f : Nat → Int32), x.toInt = (n : Int) - 1 → n ≤ SA + 1 → xmI τ0 h0 τ h fZ f → xcol f SA SB g.toInt n → zm_Y og 12 276 143 [(0, .ref 55), (1, .int a), (2, .int b), (3, .int g), (4, .int x)] [] h Q
  | 0, x, τ, h, f, hx, hn, hI, hc => by
    refine zy_n 1 (mr := zm_m276) rfl (show _ = some (145, [(0, .ref 55), (1, .int a), (2, .int b), (3, .int g), (4, .int x)], [.int x]) from rfl) ?_
    refine zy_b (mr := zm_m276) rfl rfl (show _ = some (zm_if .lt x 355 148, []) from rfl) ?_
    refine zi_lt (fun _ => ?_) (fun e => absurd (Int32.lt_iff_toInt_lt.mpr (by rw [hx]; decide)) e)
    exact zy_sub _ (by simp) (fun q hq => by simp only [List.mem_cons, List.not_mem_nil, or_false] at hq; rcases hq with rfl | rfl | rfl | rfl <;> rfl) (kk τ h f hI hc)
  | n + 1, x, τ, h, f, hx, hn, hI, hc => by
    have hx1 : x.toInt = (n : Int) := by omega
    have eA := (xofn (k := SA) (by omega)).1
    have eB := (xofn (k := SB) (by omega)).1
    have hb4 := xin_ok (j := b) (n := 4) hb.1 (by omega)
    have next : ∀ (τ1 : List Nat) (h1 : zm_H) (f1 : Nat → Int32), xmI τ0 h0 τ1 h1 fZ f1 → xcol f1 SA SB g.toInt n → zm_Y og 12 276 143 [(0, .ref 55), (1, .int a), (2, .int b), (3, .int g), (4, .int (x + -1))] [] h1 Q := fun τ1 h1 f1 p q => zh_m143 ha hb hg hsa hsb hSA hSB kk n (x + -1) τ1 h1 f1 (xsub1 hx1 (by omega)) (by omega) p q
    have back : ∀ (τ1 : List Nat) (h1 : zm_H) (v : Int32), xmI τ0 h0 τ1 h1 fZ f → v.toInt = g.toInt * ((SA : Int) - (n : Int)) → zm_Y og 12 276 328 [(0, .ref 55), (1, .int a), (2, .int b), (3, .int g), (4, .int x), (5, .int (Int32.ofNat SB)), (6, .int v)] [] h1 Q := by
      intro τ1 h1 v hI1 hv
      refine zh_m328 hI1 hx1 eB (by omega) (by omega) ?_
      exact zh_m156 ha hb hg hsa hsb hSA hSB hx1 (by omega) next SB (Int32.ofNat SB + -1) _ _ _ (xsub1 eB (by omega)) (Nat.le_refl _) (xmI_set hI1) (xcol_new (by omega) hSB hv hc)
    refine zy_n 1 (mr := zm_m276) rfl (show _ = some (145, [(0, .ref 55), (1, .int a), (2, .int b), (3, .int g), (4, .int x)], [.int x]) from rfl) ?_
    refine zy_b (mr := zm_m276) rfl rfl (show _ = some (zm_if .lt x 355 148, []) from rfl) ?_
    refine zi_lt (fun e => absurd e (xnng (by omega)).1) (fun _ => ?_)
    refine zy_n 1 (mr := zm_m276) rfl (show _ = some (149, [(0, .ref 55), (1, .int a), (2, .int b), (3, .int g), (4, .int x)], [.ref 55]) from rfl) ?_
    refine zy_h (mr := zm_m276) rfl rfl (zh_gm hI.1 (xfo_ref (k := 55) (f := 2) (a := 57) hI.1 rfl rfl rfl)) ?_
    refine zy_n 1 (mr := zm_m276) rfl (show _ = some (153, [(0, .ref 55), (1, .int a), (2, .int b), (3, .int g), (4, .int x)], [.int b, .ref 57]) from rfl) ?_
    refine zy_h (mr := zm_m276) rfl rfl (zh_iald (v := Int32.ofNat SB) hI.2.2.2.2.1 hb4.1 hsb) ?_
    refine zy_n 2 (mr := zm_m276) rfl (show _ = some (158, [(5, .int (Int32.ofNat SB)), (0, .ref 55), (1, .int a), (2, .int b), (3, .int g), (4, .int x)], [.int (Int32.ofNat SB)]) from rfl) ?_
    refine zy_b (mr := zm_m276) rfl rfl (show _ = some (zm_if .lt (Int32.ofNat SB) 349 161, []) from rfl) ?_
    refine zi_lt (fun e => absurd e (xnng (by omega)).1) (fun _ => ?_)
    refine zy_sub [(0, .ref 55), (1, .int a), (2, .int b), (3, .int g), (4, .int x), (5, .int (Int32.ofNat SB))] (by simp) (fun q hq => by simp only [List.mem_cons, List.not_mem_nil, or_false] at hq; rcases hq with rfl | rfl | rfl | rfl | rfl | rfl <;> rfl) ?_
    by_cases hnS : n = SA
    · subst hnS
      have ex : x = Int32.ofNat n := xeqn hx1 (by omega)
      subst ex
      refine xq_xs_m2 (sa := Int32.ofNat n) (sb := Int32.ofNat SB) hI.1 hI.2.1 ha hb hg (by omega) (by omega) (xmsz hI ha hsa hSA) (xmsz hI hb hsb hSB) (fun τ1 h1 v6 p1 p2 p3 p4 p5 => ?_)
      exact back τ1 h1 v6 (xmI_seg hI (fun k g hk => by cases hk) rfl rfl p1 p2 p3 p4) (by rw [← p5, Int.sub_self, Int.mul_zero]; rfl)
    · have hnl : n + 1 ≤ SA := by omega
      have hbd := xcol_bnd hg hSA hc (Nat.le_refl (n + 1)) hnl
      have hv1 := hc (n + 1) (Nat.le_refl _) hnl
      have hlt : 61 * (n + 1) + SB < 3721 := by omega
      refine xq_xs_m3 (sa := Int32.ofNat SA) (sb := Int32.ofNat SB) (c := f (61 * (n + 1) + SB)) hI.1 hI.2.1 ha hb hg (by omega) (by omega) (by omega) hbd (by omega) (xmsz hI ha hsa hSA) (xmsz hI hb hsb hSB) ⟨61 * (n + 1) + SB, f (61 * (n + 1) + SB), by rw [eB, hx1]; omega, by simp only [xar, hI.2.2.2.2.2, if_pos hlt, zm_kv], by omega⟩ (fun τ1 h1 v6 p1 p2 p3 p4 p5 => ?_)
      refine back τ1 h1 v6 (xmI_seg hI (fun k g hk => by cases hk) rfl rfl p1 p2 p3 p4) ?_
      rw [← p5, hv1, xmul_s (n := n)]
      omega
set_option maxRecDepth 20000 in
/-- the way back -/
theorem zh_m371 {f : Nat → Int32} (ha : 0 ≤ a.toInt ∧ a.toInt ≤ 3) (hb : 0 ≤ b.toInt ∧ b.toInt ≤ 3) (hg : 0 ≤ g.toInt ∧ g.toInt ≤ 1000) (hsa : fZ a.toNatClampNeg = Int32.ofNat SA) (hsb : fZ b.toNatClampNeg = Int32.ofNat SB) (hSA : SA ≤ 60) (hSB : SB ≤ 60) (hc : xcol f SA SB g.toInt 0) : ∀ (k i j : Nat) (τ : List Nat) (h : zm_H), (SA - i) + (SB - j) = k → i ≤ SA → j ≤ SB → xmI τ0 h0 τ h fZ f → zm_Y og 12 276 371 [(0, .ref 55), (1, .int a), (2, .int b), (3, .int g), (4, .int (Int32.ofNat i)), (5, .int (Int32.ofNat j))] [] h (xWQ xVV xX xW xMM 0 τ0 h0) := by
  intro k
  induction k using Nat.strongRecOn with
  | ind k ih =>
    intro i j τ h hk hi hj hI
    have eA := (xofn (k := SA) (by omega)).1
    have eB := (xofn (k := SB) (by omega)).1
    have ei := (xofn (k := i) (by omega)).1
    have ej := (xofn (k := j) (by omega)).1
    have ha4 := xin_ok (j := a) (n := 4) ha.1 (by omega)
    refine zy_n 2 (mr := zm_m276) rfl (show _ = some (374, [(0, .ref 55), (1, .int a), (2, .int b), (3, .int g), (4, .int (Int32.ofNat i)), (5, .int (Int32.ofNat j))], [.ref 55, .int (Int32.ofNat i)]) from rfl) ?_
    refine zy_h (mr := zm_m276) rfl rfl (zh_gm hI.1 (xfo_ref (k := 55) (f := 2) (a := 57) hI.1 rfl rfl rfl)) ?_
    refine zy_n 1 (mr := zm_m276) rfl (show _ = some (378, [(0, .ref 55), (1, .int a), (2, .int b), (3, .int g), (4, .int (Int32.ofNat i)), (5, .int (Int32.ofNat j))], [.int a, .ref 57, .int (Int32.ofNat i)]) from rfl) ?_
    refine zy_h (mr := zm_m276) rfl rfl (zh_iald (v := Int32.ofNat SA) hI.2.2.2.2.1 ha4.1 hsa) ?_
    refine zy_b (mr := zm_m276) rfl rfl (show _ = some (zm_ic .ge (Int32.ofNat i) (Int32.ofNat SA) 510 382, []) from rfl) ?_
    refine zc_ge (fun _ => ?_) (fun hlt => ?_)
    · refine zy_n 1 (mr := zm_m276) rfl (show _ = some (511, [(0, .ref 55), (1, .int a), (2, .int b), (3, .int g), (4, .int (Int32.ofNat i)), (5, .int (Int32.ofNat j))], [.ref 55]) from rfl) ?_
      refine zy_h (mr := zm_m276) rfl rfl (zh_gm hI.1 (xm106 hI.1)) ?_
      refine zy_n 1 (mr := zm_m276) rfl (show _ = some (515, [(0, .ref 55), (1, .int a), (2, .int b), (3, .int g), (4, .int (Int32.ofNat i)), (5, .int (Int32.ofNat j))], [.int 0, .ref 115]) from rfl) ?_
      refine zy_h (mr := zm_m276) rfl rfl (zh_iald (v := f 0) hI.2.2.2.2.2 rfl rfl) ?_
      exact zy_r (mr := zm_m276) rfl rfl (show _ = some (some (.int (f 0))) from rfl) ⟨⟨_, rfl⟩, τ, hI.1, hI.2.1, hI.2.2.1, hI.2.2.2.1⟩
    · have hiS : i < SA := by
        rcases Nat.lt_or_ge i SA with z | z
        · exact z
        · exact absurd (Int32.le_iff_toInt_le.mpr (by rw [eA, ei]; omega)) hlt
      have m116 : ∀ k g, xms [(116, 0)] k g = true → xms xMM k g = true := fun k g hk => xms_sub (a := [(116, 0)]) (b := xMM) rfl k g hk
      by_cases hjS : j < SB
      · refine xq_xs_m5 (sa := Int32.ofNat SA) (sb := Int32.ofNat SB) hI.1 hI.2.1 ha hb hg (by omega) (by omega) (by omega) (by omega) (by omega) (by omega) (xmsz hI ha hsa hSA) (xmsz hI hb hsb hSB) (fun τ1 h1 v4 v5 p1 p2 p3 p4 p5 p6 => ?_) (fun τ1 h1 v4 p1 p2 p3 p4 p5 => ?_) (fun τ1 h1 v5 p1 p2 p3 p4 p5 => ?_)
        · rw [xeqn (c := v4) (k := i + 1) (by omega) (by omega), xeqn (c := v5) (k := j + 1) (by omega) (by omega)]
          exact ih _ (by omega) (i + 1) (j + 1) τ1 h1 rfl (by omega) (by omega) (xmI_seg hI m116 rfl rfl p1 p2 p3 p4)
        · rw [xeqn (c := v4) (k := i + 1) (by omega) (by omega)]
          exact ih _ (by omega) (i + 1) j τ1 h1 rfl (by omega) (by omega) (xmI_seg hI m116 rfl rfl p1 p2 p3 p4)
        · rw [xeqn (c := v5) (k := j + 1) (by omega) (by omega)]
          exact ih _ (by omega) i (j + 1) τ1 h1 rfl (by omega) (by omega) (xmI_seg hI m116 rfl rfl p1 p2 p3 p4)
      · have ejS : j = SB := by omega
        subst ejS
        have hbd := xcol_bnd hg hSA hc (Nat.zero_le (i + 1)) hiS
        have v1 := hc (i + 1) (Nat.zero_le _) hiS
        have v0 := hc i (Nat.zero_le _) (by omega)
        rw [xmul_s (n := i)] at v0
        have hl0 : 61 * i + j < 3721 := by omega
        have hl1 : 61 * (i + 1) + j < 3721 := by omega
        refine xq_xs_m6 (sa := Int32.ofNat SA) (sb := Int32.ofNat j) (c := f (61 * (i + 1) + j)) hI.1 hI.2.1 ha hb hg (by omega) (by omega) (by omega) hbd (by omega) (xmsz hI ha hsa hSA) (xmsz hI hb hsb hSB) ⟨61 * i + j, f (61 * i + j), by rw [ej, ei]; omega, by simp only [xar, hI.2.2.2.2.2, if_pos hl0, zm_kv], by rw [v0, v1]; omega⟩ ⟨61 * (i + 1) + j, f (61 * (i + 1) + j), by rw [ej, ei]; omega, by simp only [xar, hI.2.2.2.2.2, if_pos hl1, zm_kv], by omega⟩ (fun τ1 h1 v4 p1 p2 p3 p4 p5 => ?_)
        rw [xeqn (c := v4) (k := i + 1) (by omega) (by omega)]
        exact ih _ (by omega) (i + 1) j τ1 h1 rfl (by omega) (by omega) (xmI_seg hI m116 rfl rfl p1 p2 p3 p4)
set_option maxRecDepth 20000 in
theorem zh_m355 {f : Nat → Int32} {τ : List Nat} {h : zm_H} (ha : 0 ≤ a.toInt ∧ a.toInt ≤ 3) (hb : 0 ≤ b.toInt ∧ b.toInt ≤ 3) (hg : 0 ≤ g.toInt ∧ g.toInt ≤ 1000) (hsa : fZ a.toNatClampNeg = Int32.ofNat SA) (hsb : fZ b.toNatClampNeg = Int32.ofNat SB) (hSA : SA ≤ 60) (hSB : SB ≤ 60) (hI : xmI τ0 h0 τ h fZ f) (hc : xcol f SA SB g.toInt 0) : zm_Y og 12 276 355 [(0, .ref 55), (1, .int a), (2, .int b), (3, .int g)] [] h (xWQ xVV xX xW xMM 0 τ0 h0) := by
  have m108 : ∀ k g, xms [(55, 108)] k g = true → xms xMM k g = true := fun k g hk => xms_sub (a := [(55, 108)]) (b := xMM) rfl k g hk
  refine xq_xs_m4 hI.1 hI.2.1 ha hb hg (fun τ1 h1 v4 v5 p1 p2 p3 p4 p5 p6 => ?_)
  rw [xeqn (c := v4) (k := 0) (by omega) (by omega), xeqn (c := v5) (k := 0) (by omega) (by omega)]
  exact zh_m371 ha hb hg hsa hsb hSA hSB hc _ 0 0 τ1 h1 rfl (by omega) (by omega) (xmI_seg hI m108 rfl rfl p1 p2 p3 p4)
theorem xv_257 : xV xVV xX xW og xc_257 := by
  intro ρ σ τ h lc hH hX hD hl
  have hlen : ρ.length = 3 := hD.1.2.symm
  have hσ : σ.length = 0 := hD.2.1.1
  have hσ := List.length_eq_zero_iff.mp hσ
  subst hσ
  obtain ⟨a', b', g', rfl⟩ : ∃ a b g, ρ = [a, b, g] := by
    match ρ, hlen with
    | [a, b, g], _ => exact ⟨a, b, g, rfl⟩
  obtain ⟨v1, q1, a, rfl, e1⟩ := hl _ (List.mem_cons_of_mem _ List.mem_cons_self)
  obtain ⟨v2, q2, b, rfl, e2⟩ := hl _ (List.mem_cons_of_mem _ (List.mem_cons_of_mem _ List.mem_cons_self))
  obtain ⟨v3, q3, g, rfl, e3⟩ := hl _ (List.mem_cons_of_mem _ (List.mem_cons_of_mem _ (List.mem_cons_of_mem _ List.mem_cons_self)))
  have e1 : some ((0 : Int) + (1 * a' + 0)) = some a.toInt := e1
  have e2 : some ((0 : Int) + (1 * b' + 0)) = some b.toInt := e2
  have e3 : some ((0 : Int) + (1 * g' + 0)) = some g.toInt := e3
  have f1 : a' = a.toInt := by have := Option.some.inj e1; omega
  have f2 : b' = b.toInt := by have := Option.some.inj e2; omega
  have f3 : g' = g.toInt := by have := Option.some.inj e3; omega
  subst f1
  subst f2
  subst f3
  refine (xseg_ok (V := xVV) (X := xX) (W := xW) (og := og) (E := xs_m0_e) (Eo := xs_m0_o) (c := xs_m0) (s := xs_m0_s) (MT := xs_m0_m) (CT := xs_m0_u) (by
    simp only [xs_m0_m, List.forall_mem_cons]
    exact ⟨rfl, rfl, rfl, rfl, fun _ h => by cases h⟩) (fun _ h => by cases h) xFl_good xXW_ok xs_m0_ok (List.all_eq_true.mp xs_m0_ok1) rfl (ρ := [a.toInt, b.toInt, g.toInt]) (r0 := []) (σ := []) (s0 := []) (τ := τ) (h := h) (lc := lc) (sc := []) rfl rfl ?_ hH hX hD hl trivial).mono (fun r h' hq => xQc_of (c := xc_257) (np := 3) rfl rfl (xWQ_of (c := xs_m0) (np := 3) rfl hq))
  intro e he r s' τ1 h' lc sc hH1 hX1 hF1 hW1 hD1 hl1 hs1
  have he := List.mem_singleton.mp he
  subst he
  have hs1 := xsk_nil hs1
  subst hs1
  have hlen : ([a.toInt, b.toInt, g.toInt] ++ r).length = 4 := hD1.1.2.symm
  obtain ⟨x3, rfl⟩ : ∃ x3, r = [x3] := by
    match r, hlen with
    | [x3], _ => exact ⟨x3, rfl⟩
  obtain ⟨y0, z0, l0, u0⟩ := hD1.1.1.1 _ List.mem_cons_self
  have z0 : some a.toInt = some y0 := z0
  cases z0
  obtain ⟨y1, z1, l1, u1⟩ := hD1.1.1.1 _ (List.mem_cons_of_mem _ List.mem_cons_self)
  have z1 : some b.toInt = some y1 := z1
  cases z1
  obtain ⟨y2, z2, l2, u2⟩ := hD1.1.1.1 _ (List.mem_cons_of_mem _ (List.mem_cons_of_mem _ List.mem_cons_self))
  have z2 : some g.toInt = some y2 := z2
  cases z2
  obtain ⟨ad, j, w, p1, p2, p3, z, rfl, p4⟩ := hD1.2.2.2 _ List.mem_cons_self
  have p1 : some 57 = some ad := p1
  cases p1
  have p2 : some ((0 : Int) + (1 * a.toInt + 0)) = some (j : Int) := p2
  have p2 := Option.some.inj p2
  have p4 : some ((0 : Int) + (1 * x3 + 0)) = some z.toInt := p4
  have p4 := Option.some.inj p4
  have la : 0 ≤ a.toInt ∧ a.toInt ≤ 3 := ⟨l0, u0⟩
  have lb : 0 ≤ b.toInt ∧ b.toInt ≤ 3 := ⟨l1, u1⟩
  have lg : 0 ≤ g.toInt ∧ g.toInt ≤ 1000 := ⟨l2, u2⟩
  obtain ⟨kZ, hZ, hkZ, hel⟩ := xcf_a (ad := 57) hH1 (hH1.2.2 57 rfl) (show xKT 57 = some (.inr _) from rfl)
  obtain ⟨fZ, rfl⟩ := hkZ
  obtain ⟨kC, hC, hkC, -⟩ := xcf_a (ad := 115) hH1 (hH1.2.2 115 rfl) (show xKT 115 = some (.inr _) from rfl)
  obtain ⟨f, rfl⟩ := hkC
  have siz : ∀ c : Int32, 0 ≤ c.toInt ∧ c.toInt ≤ 3 → fZ c.toNatClampNeg = Int32.ofNat (fZ c.toNatClampNeg).toInt.toNat ∧ (fZ c.toNatClampNeg).toInt.toNat ≤ 60 := by
    intro c hc
    have h1 := xin_ok (j := c) (n := 4) hc.1 (by omega)
    obtain ⟨q, hq, hs, -⟩ := hel c.toNatClampNeg h1.2.2
    have hq := List.mem_singleton.mp hq
    subst hq
    obtain ⟨i, hi, hi1, hi2⟩ := hs
    have hi : Value.int (fZ c.toNatClampNeg) = .int i := hi
    have hi := Value.int.inj hi
    have hi1 : (0 : Int) ≤ i.toInt := hi1
    have hi2 : i.toInt ≤ (60 : Int) := hi2
    rw [hi]
    exact ⟨xeqn (by omega) (by omega), by omega⟩
  obtain ⟨sA, sA6⟩ := siz a la
  obtain ⟨sB, sB6⟩ := siz b lb
  have hI : xmI τ h τ1 h' fZ f := ⟨hH1, hX1, hF1, hW1, hZ, hC⟩
  have hja : j = a.toNatClampNeg := by
    have := (xin_ok (j := a) (n := 4) la.1 (by omega)).2.1
    omega
  have hza : z = fZ a.toNatClampNeg := by
    have h4 : a.toNatClampNeg < 4 := (xin_ok (j := a) (n := 4) la.1 (by omega)).2.2
    rw [hja] at p3
    simp only [xar, hZ, if_pos h4, zm_kv] at p3
    exact (Value.int.inj (Option.some.inj p3)).symm
  have hzS : z.toInt = ((fZ a.toNatClampNeg).toInt.toNat : Int) := by
    rw [hza]
    have := congrArg Int32.toInt sA
    rw [(xofn (k := (fZ a.toNatClampNeg).toInt.toNat) (by omega)).1] at this
    exact this
  have go := zh_m143 (og := og) (τ0 := τ) (h0 := h) la lb lg sA sB sA6 sB6 (fun τ2 h2 f2 r1 r2 => zh_m355 la lb lg sA sB sA6 sB6 r1 r2) ((fZ a.toNatClampNeg).toInt.toNat + 1) z τ1 h' f (by omega) (Nat.le_refl _) hI (fun i h1 h2 => by omega)
  refine zy_sub _ (by simp) (fun q hq => ?_) (go.mono (fun r2 h2 hq => xQc_of (c := xs_m0) (np := 3) rfl rfl hq))
  simp only [List.mem_cons, List.not_mem_nil, or_false] at hq
  rcases hq with rfl | rfl | rfl | rfl | rfl
  · exact xl_ref hl1 List.mem_cons_self
  · exact xl_int hl1 (List.mem_cons_of_mem _ List.mem_cons_self) (xe_sym (s := 0) rfl)
  · exact xl_int hl1 (List.mem_cons_of_mem _ (List.mem_cons_of_mem _ List.mem_cons_self)) (xe_sym (s := 1) rfl)
  · exact xl_int hl1 (List.mem_cons_of_mem _ (List.mem_cons_of_mem _ (List.mem_cons_of_mem _ List.mem_cons_self))) (xe_sym (s := 2) rfl)
  · exact xl_int hl1 (List.mem_cons_of_mem _ (List.mem_cons_of_mem _ (List.mem_cons_of_mem _ (List.mem_cons_of_mem _ List.mem_cons_self)))) (congrArg some p4)
end XMT2
end
