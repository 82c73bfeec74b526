/-! The run again, with any end -/
section XSP
variable {V : xEnv} {X : List Nat → zm_H → Prop} {W : zm_H → Nat} {og : Nat → Option zm_C} {MT : List (Nat × zm_M)} {CT : List xCo} {c : xCo} {E : List xEn} {R : Option xl} {ρ0 r0 : List Int} {σ0 s0 τ0 : List Nat} {h0 : zm_H}
theorem xstep_okq {s : xS} {l : List xS} {Q : Option Value → zm_H → Prop} (hQ : ∀ r h', xQc V X W c ρ0 σ0 τ0 h0 r h' → Q r h') (hMT : ∀ q ∈ MT, zm_P q.1 = some q.2) (hCT : ∀ c' ∈ CT, xV V X W og c') (hFl : xFl_ok V X) (hX2 : xXW V X W) (hρ : ρ0.length = c.2.1.2.2.1.2) (hσ : σ0.length = c.2.1.2.2.2.1.length) (hx : xstep (V, MT, CT, c, E, R) s = some l) (hG : ∀ t ∈ l, xgd V X W og c (ρ0 ++ r0) (σ0 ++ s0) τ0 h0 Q t) : xgd V X W og c (ρ0 ++ r0) (σ0 ++ s0) τ0 h0 Q s := by
  intro ρ σ τ h lc sc frc d hd hH hX hF hW hD hl hs hf
  unfold xstep at hx
  split at hx
  · cases hx
  · rename_i mr hmr
    have hP : zm_P s.1 = some mr := hMT _ (xmt_mem hmr)
    split at hx
    · cases hx
    · rename_i i hat
      split at hx
      · rename_i q hq
        cases hx
        obtain ⟨r, lc', sc', h1, h2, h3, h4⟩ := xp_ok hD.1 hl hs hq
        refine zy_p hP hat h1 ?_
        have eσ : σ0 ++ s0 ++ σ ++ [] = σ0 ++ s0 ++ σ := List.append_nil _
        refine hG _ (List.mem_singleton.mpr rfl) (ρ ++ r) σ τ h lc' sc' frc d hd hH hX hF hW ?_ ?_ ?_ ?_
        · rw [← List.append_assoc]
          refine ⟨h2, hD.2.1, ?_, ?_⟩
          · have := xmo_mono (r := r) (s := []) hD.2.2.1
            rwa [eσ] at this
          · have := xmao_mono (r := r) (s := []) hD.2.2.2
            rwa [eσ] at this
        · rw [← List.append_assoc]; exact h3
        · rw [← List.append_assoc]; exact h4
        · rw [← List.append_assoc]
          have := xfok_mono (r := r) (s := []) hf
          rwa [eσ] at this
      · split at hx
        · rename_i l0 hb
          cases hx
          obtain ⟨pc', sc', h1, b, hbm, h2, h3, h4⟩ := xb_ok hD.1 hs hb
          refine zy_b hP hat h1 ?_
          have := hG _ (List.mem_map.mpr ⟨b, hbm, rfl⟩) ρ σ τ h lc sc' frc d hd hH hX hF hW ⟨h3, hD.2⟩ hl h4 hf
          rw [← h2]
          exact this
        · split at hx
          · rename_i l0 hh
            cases hx
            obtain ⟨sc', h', τ', h1, hH', hX', hF', z, hz, r, s', hDz, hsz, hWz⟩ := xh_ok (df := zm_df) (og := og) hFl hX2 hH hX hD hs hh
            refine zy_h hP hat h1 ?_
            refine hG _ (List.mem_map.mpr ⟨z, hz, rfl⟩) (ρ ++ r) (σ ++ s') τ' h' lc sc' frc d hd hH' hX' (xF_trans hF hF') ?_ ?_ ?_ ?_ ?_
            · show W h' ≤ W h0 + z.1.2.2.2.2
              omega
            · rw [← List.append_assoc, ← List.append_assoc]; exact hDz
            · rw [← List.append_assoc, ← List.append_assoc]; exact xlk_mono hl
            · rw [← List.append_assoc, ← List.append_assoc]; exact hsz
            · rw [← List.append_assoc, ← List.append_assoc]; exact xfok_mono hf
          · split at hx
            · rename_i o ho
              obtain ⟨r, h1, h2⟩ := xretv_ok hD.1.1 hs ho
              refine zy_r hP hat h1 ?_
              split at hx
              · rename_i hfr
                rw [hfr] at hf
                cases frc with
                | cons g u => cases hf
                | nil =>
                  refine hQ r h ?_
                  show xQc V X W c ρ0 σ0 τ0 h0 r h
                  cases hfi : xfin (V, MT, CT, c, E, R) o s.2.2.2.2.1 with
                  | false => rw [hfi] at hx; cases hx
                  | true =>
                    rw [List.append_assoc, List.append_assoc] at hD h2
                    exact xfin_ok hρ hσ hH hX hF hW hD h2 hfi
              · rename_i f fr hfr
                cases hx
                rw [hfr] at hf
                cases frc with
                | nil => cases hf
                | cons g u =>
                  obtain ⟨⟨e1, e2, e3, e4⟩, e5⟩ := hf
                  show zm_Y og (d + 1) g.1 g.2.1 g.2.2.1 (r.toList ++ g.2.2.2) h (xQ og (d + 1) u _)
                  have := hG _ (List.mem_singleton.mpr rfl) ρ σ τ h g.2.2.1 (r.toList ++ g.2.2.2) u (d + 1) (by rw [List.length_cons] at hd; omega) hH hX hF hW hD e3 (xsk_app (xrs_sk h2) e4) e5
                  rw [e1, e2]
                  exact this
            · split at hx
              · cases hx
              · rename_i q hq
                obtain ⟨ac, rc, h1, h2, h3⟩ := xcall_ok hH hD hs hq
                unfold xgo at hx
                split at hx
                · cases hx
                · rename_i mc hmc
                  have hPc : zm_P q.1 = some mc := hMT _ (xmt_mem hmc)
                  rcases xbif hx with ⟨h4, hx⟩ | ⟨-, hx⟩
                  · have hcat : Nat.ble (zm_cat ac) mc.1.2.2.1 = true := by rw [xcat_ok h2]; exact h4
                    split at hx
                    · rename_i o ho
                      exact xby_ok hP hat hPc hcat h1 hd hH hX hF hW hD hl h2 h3 hf hCT ho hx hG
                    · rcases xbif hx with ⟨h5, hx⟩ | ⟨-, hx⟩
                      · cases hx
                        have h5 : s.2.2.2.2.2.length < c.2.2.2.2.2 := by
                          have := (Nat.blt_eq).mp h5
                          exact this
                        have hfl := xfok_len hf
                        obtain ⟨d', rfl⟩ : ∃ d', d = d' + 1 := ⟨d - 1, by omega⟩
                        refine zy_c hP hat h1 hPc hcat ?_
                        exact hG _ (List.mem_singleton.mpr rfl) ρ σ τ h (lv_args 0 ac) [] ((s.1, s.2.1 + 3, lc, rc) :: frc) d' (by rw [List.length_cons]; omega) hH hX hF hW hD (xargs_lk h2) trivial ⟨⟨rfl, rfl, hl, h3⟩, hf⟩
                      · cases hx
                  · cases hx
theorem xent_okq {s : xS} {Q : Option Value → zm_H → Prop} (hρ : ρ0.length = c.2.1.2.2.1.2) (hσ : σ0.length = c.2.1.2.2.2.1.length) (hI : ∀ e ∈ E, ∀ (r : List Int) (s' τ : List Nat) (h : zm_H) (lc : zm_L) (sc : List Value) (n : Nat), xe (ρ0 ++ r) e.2.2 = some (n : Int) → (∀ Rl z, R = some Rl → xe (ρ0 ++ r0) Rl = some z → (n : Int) < z) → xHI V.1 V.2.1 τ h → X τ h → xF (xms c.2.2.2.1) τ0 h0 τ h → W h ≤ W h0 + e.2.1.2.2.2.2.2.2 → xdok (ρ0 ++ r) (σ0 ++ s') τ h e.2.1.2.2 → xlk (ρ0 ++ r) (σ0 ++ s') e.2.1.1 lc → xsk (ρ0 ++ r) (σ0 ++ s') e.2.1.2.1 sc → zm_Y og c.2.2.2.2.2 c.1 e.1 lc sc h Q) (hR : ∀ Rl, R = some Rl → ∃ z, xe (ρ0 ++ r0) Rl = some z) (hx : xent (V, MT, CT, c, E, R) s = true) : xgd V X W og c (ρ0 ++ r0) (σ0 ++ s0) τ0 h0 Q s := by
  intro ρ σ τ h lc sc frc d hd hH hX hF hW hD hl hs hf
  unfold xent at hx
  split at hx
  · rename_i hfr
    rw [hfr] at hf
    cases frc with
    | cons g u => cases hf
    | nil =>
      obtain ⟨h1, h2⟩ := Bool.and_eq_true_iff.mp hx
      have h1 : s.1 = c.1 := Nat.eq_of_beq_eq_true h1
      obtain ⟨e, he, he1⟩ := List.any_eq_true.mp h2
      unfold xent1 at he1
      rcases xbif he1 with ⟨h3, he1⟩ | ⟨-, he1⟩
      · have h3 : e.1 = s.2.1 := Nat.eq_of_beq_eq_true h3
        obtain ⟨a1, a2⟩ := Bool.and_eq_true_iff.mp he1
        obtain ⟨a3, a4⟩ := Bool.and_eq_true_iff.mp a2
        obtain ⟨a5, a6⟩ := Bool.and_eq_true_iff.mp a3
        obtain ⟨a7, a8⟩ := Bool.and_eq_true_iff.mp a4
        have a7 := Nat.le_of_ble_eq_true a7
        obtain ⟨r1, s1, hD1, hg1⟩ := xprel_ok hH (M := e.2.1.2.2.2.2.1) hD
        obtain ⟨ρc, σc, hb, hDc, hlc, hsc⟩ := xinst_ok hD1 (xlk_mono (r := r1) (s := s1) hl) (xsk_mono (r := r1) (s := s1) hs) a1
        have hb2 := hb
        rw [List.append_assoc, List.append_assoc, List.append_assoc, List.append_assoc] at hb
        obtain ⟨⟨ra, rfl⟩, ⟨sa, rfl⟩⟩ := xpfx hb (by rw [hρ]; exact a5) (by rw [hσ]; exact a6)
        split at a8
        · rename_i ee hee
          obtain ⟨z, z1, z2⟩ := xsub_ok hb2 hee
          obtain ⟨b1, b2⟩ := Bool.and_eq_true_iff.mp a8
          have hz0 := xpv_ok hD1.1.1.1 hD1.1.1.2 8 z2 b1
          have hd : d = c.2.2.2.2.2 := by simpa using hd
          show zm_Y og d s.1 s.2.1 lc sc h Q
          rw [hd, h1, ← h3]
          refine hI e he ra sa τ h lc sc z.toNat ?_ ?_ hH hX hF ?_ hDc hlc hsc
          · rw [z1]; congr 1; omega
          · intro Rl y hRl hy
            subst hRl
            have b3 : xpv (xprel V e.2.1.2.2.2.2.1 s.2.2.2.2.1).1.1.1 (xprel V e.2.1.2.2.2.2.1 s.2.2.2.2.1).1.1.2 8 (xm1 (xadd (.negSucc 0) Rl ee)) = true := b2
            have hy2 : xe (ρ0 ++ r0 ++ ρ ++ r1) Rl = some y := xe_mono (xe_mono hy)
            have := xpv_ok hD1.1.1.1 hD1.1.1.2 8 (xe_m1 (xe_add (k := .negSucc 0) hy2 z2)) b3
            have e2 : y + Int.negSucc 0 * z = y - z := by show y + (-1) * z = _; omega
            omega
          · show W h ≤ W h0 + e.2.1.2.2.2.2.2.2
            omega
        · cases a8
      · cases he1
  · cases hx
theorem xwl_okq {Q : Option Value → zm_H → Prop} (hQ : ∀ r h', xQc V X W c ρ0 σ0 τ0 h0 r h' → Q r h') (hMT : ∀ q ∈ MT, zm_P q.1 = some q.2) (hCT : ∀ c' ∈ CT, xV V X W og c') (hFl : xFl_ok V X) (hX2 : xXW V X W) (hρ : ρ0.length = c.2.1.2.2.1.2) (hσ : σ0.length = c.2.1.2.2.2.1.length) (hE : ∀ t, xent (V, MT, CT, c, E, R) t = true → xgd V X W og c (ρ0 ++ r0) (σ0 ++ s0) τ0 h0 Q t) : ∀ {n : Nat} {l : List xS}, xwl (V, MT, CT, c, E, R) n l = true → ∀ t ∈ l, xgd V X W og c (ρ0 ++ r0) (σ0 ++ s0) τ0 h0 Q t
  | 0, l, hx, _, _ => by cases hx
  | n + 1, [], _, t, ht => by cases ht
  | n + 1, s :: r, hx, t, ht => by
    simp only [xwl] at hx
    split at hx
    · cases hx
    · rename_i l hl
      have ih := xwl_okq hQ hMT hCT hFl hX2 hρ hσ hE hx
      rcases List.mem_cons.mp ht with rfl | ht
      · refine xstep_okq hQ hMT hCT hFl hX2 hρ hσ hl (fun u hu => ?_)
        rcases xpsh_mem (K := (V, MT, CT, c, E, R)) (r := r) hu with h1 | h1
        · exact hE u h1
        · exact ih u h1
      · exact ih t (xpsh_r ht)
end XSP
section XSG2
variable {V : xEnv} {X : List Nat → zm_H → Prop} {W : zm_H → Nat} {og : Nat → Option zm_C} {MT : List (Nat × zm_M)} {CT : List xCo} {c : xCo} {E Eo : List xEn}
theorem xsegq_ok {n : Nat} {s : xS} {Q : Option Value → zm_H → Prop} (hMT : ∀ q ∈ MT, zm_P q.1 = some q.2) (hCT : ∀ c' ∈ CT, xV V X W og c') (hFl : xFl_ok V X) (hX2 : xXW V X W) (h0 : xwl (V, MT, CT, c, E ++ Eo, none) n [s] = true) (h1 : ∀ e ∈ E, xchk1 V MT CT c (E ++ Eo) n e = true) (hfr : s.2.2.2.2.2 = [])
    {ρ r0 : List Int} {σ s0 τ : List Nat} {h : zm_H} {lc : zm_L} {sc : List Value} (hQ : ∀ r h', xQc V X W c ρ σ τ h r h' → Q r h') (hρ : ρ.length = c.2.1.2.2.1.2) (hσ : σ.length = c.2.1.2.2.2.1.length)
    (hI : ∀ e ∈ Eo, ∀ (r : List Int) (s' τ1 : List Nat) (h' : zm_H) (lc : zm_L) (sc : List Value), xHI V.1 V.2.1 τ1 h' → X τ1 h' → xF (xms c.2.2.2.1) τ h τ1 h' → W h' ≤ W h + e.2.1.2.2.2.2.2.2 → xdok (ρ ++ r) (σ ++ s') τ1 h' e.2.1.2.2 → xlk (ρ ++ r) (σ ++ s') e.2.1.1 lc → xsk (ρ ++ r) (σ ++ s') e.2.1.2.1 sc → zm_Y og c.2.2.2.2.2 c.1 e.1 lc sc h' Q)
    (hH : xHI V.1 V.2.1 τ h) (hX : X τ h) (hD : xdok (ρ ++ r0) (σ ++ s0) τ h s.2.2.2.2.1) (hl : xlk (ρ ++ r0) (σ ++ s0) s.2.2.1 lc) (hs : xsk (ρ ++ r0) (σ ++ s0) s.2.2.2.1 sc) : zm_Y og c.2.2.2.2.2 s.1 s.2.1 lc sc h Q := by
  have eρ : ρ ++ [] = ρ := List.append_nil ρ
  have eσ : σ ++ [] = σ := List.append_nil σ
  have main : ∀ (N : Nat), ∀ e ∈ E ++ Eo, ∀ (r : List Int) (s' τ1 : List Nat) (h' : zm_H) (lc : zm_L) (sc : List Value) (m : Nat), m < N → xe (ρ ++ r) e.2.2 = some (m : Int) → xHI V.1 V.2.1 τ1 h' → X τ1 h' → xF (xms c.2.2.2.1) τ h τ1 h' → W h' ≤ W h + e.2.1.2.2.2.2.2.2 → xdok (ρ ++ r) (σ ++ s') τ1 h' e.2.1.2.2 → xlk (ρ ++ r) (σ ++ s') e.2.1.1 lc → xsk (ρ ++ r) (σ ++ s') e.2.1.2.1 sc → zm_Y og c.2.2.2.2.2 c.1 e.1 lc sc h' Q := by
    intro N
    induction N with
    | zero => intro e he r s' τ1 h' lc sc m hm; omega
    | succ N ih =>
      intro e he r s' τ1 h' lc sc m hm hr hH1 hX1 hF1 hW1 hD1 hl1 hs1
      rcases List.mem_append.mp he with he | he
      · have hg := xwl_okq (Q := Q) (r0 := r) (s0 := s') (τ0 := τ) (h0 := h) hQ hMT hCT hFl hX2 hρ hσ (fun t ht => xent_okq hρ hσ (fun e2 he2 r2 s2 τ2 h2 lc2 sc2 m2 hm2 hlt hH2 hX2 hF2 hW2 hD2 hl2 hs2 => ih e2 he2 r2 s2 τ2 h2 lc2 sc2 m2 (by have := hlt e.2.2 (m : Int) rfl hr; omega) hm2 hH2 hX2 hF2 hW2 hD2 hl2 hs2) (fun Rl hRl => by cases hRl; exact ⟨_, hr⟩) ht) (h1 e he) _ (List.mem_singleton.mpr rfl)
        refine hg [] [] τ1 h' lc sc [] c.2.2.2.2.2 rfl hH1 hX1 hF1 hW1 ?_ ?_ ?_ trivial
        · rw [List.append_nil, List.append_nil]; exact hD1
        · rw [List.append_nil, List.append_nil]; exact hl1
        · rw [List.append_nil, List.append_nil]; exact hs1
      · exact hI e he r s' τ1 h' lc sc hH1 hX1 hF1 hW1 hD1 hl1 hs1
  have hg := xwl_okq (Q := Q) (r0 := []) (s0 := []) (τ0 := τ) (h0 := h) hQ hMT hCT hFl hX2 hρ hσ (fun t ht => xent_okq hρ hσ (fun e2 he2 r2 s2 τ2 h2 lc2 sc2 m2 hm2 _ hH2 hX2 hF2 hW2 hD2 hl2 hs2 => main (m2 + 1) e2 he2 r2 s2 τ2 h2 lc2 sc2 m2 (by omega) hm2 hH2 hX2 hF2 hW2 hD2 hl2 hs2) (fun Rl hRl => by cases hRl) ht) h0 _ (List.mem_singleton.mpr rfl)
  refine hg r0 s0 τ h lc sc [] c.2.2.2.2.2 rfl hH hX (xF_refl _ _ _) (Nat.le_add_right _ _) ?_ ?_ ?_ ?_
  · rw [eρ, eσ]; exact hD
  · rw [eρ, eσ]; exact hl
  · rw [eρ, eσ]; exact hs
  · rw [hfr]; trivial
end XSG2
