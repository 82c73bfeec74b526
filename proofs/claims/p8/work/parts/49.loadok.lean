/-! What is read is read rightly -/
def xFl_ok (V : xEnv) (X : List Nat → zm_H → Prop) : Prop := ∀ (ρ : List Int) (σ τ : List Nat) (h : zm_H) (D : xD) (b : xv) (kd : Nat) (e : xl) (a : xA) (ad j : Nat) (v : Value), xHI V.1 V.2.1 τ h → X τ h → xdok ρ σ τ h D → xad σ b = some ad → τ[ad]? = some kd → xe ρ e = some (j : Int) → xar h ad j = some v → xsat τ a v → ∃ a', V.2.2.2.1 D b kd e a = some a' ∧ xsat τ a' v
def xLR (ρ : List Int) (σ τ : List Nat) (h : zm_H) (g : Nat) (l : List xHS) (z : Option (List Value × zm_H)) : Prop := ∃ sc, z = some (sc, h) ∧ ∃ s ∈ l, ∃ r s', xdok (ρ ++ r) (σ ++ s') τ h s.1 ∧ xsk (ρ ++ r) (σ ++ s') s.2 sc ∧ s.1.2.2.2.2 = g
section XLK
variable {ρ : List Int} {σ τ : List Nat} {h : zm_H} {V : xEnv} {X : List Nat → zm_H → Prop} {D : xD} {st : List xv} {sc : List Value} {l : List xHS} {df : Nat → List Value} {og : Nat → Option zm_C}
theorem xLR_id {s : xHS} {sc' : List Value} (hD : xdok ρ σ τ h s.1) (hs : xsk ρ σ s.2 sc') (hg : s.1.2.2.2.2 = D.2.2.2.2) (hm : s ∈ l) : xLR ρ σ τ h D.2.2.2.2 l (some (sc', h)) := ⟨sc', rfl, s, hm, [], [], by rw [List.append_nil, List.append_nil]; exact hD, by rw [List.append_nil, List.append_nil]; exact hs, hg⟩
theorem xcf_o {KT : Nat → Option xKD} {SG : Nat → Bool} {ad kd : Nat} {d : Nat × List (List xA)} (hH : xHI KT SG τ h) (ht : τ[ad]? = some kd) (hk : KT kd = some (.inl d)) : ∃ fs, h[ad]? = some (.inr (d.1, fs)) ∧ fs.length = d.2.length ∧ ∀ (f : Nat) (sp : List xA) (v : Value), d.2[f]? = some sp → fs[f]? = some v → ∃ a ∈ sp, xsat τ a v := by
  obtain ⟨D, c, h1, h2, h3⟩ := hH.2.1 ad kd ht
  rw [hk] at h1
  cases h1
  obtain ⟨fs, rfl, h4, h5⟩ := h3
  exact ⟨fs, h2, h4, h5⟩
theorem xcf_a {KT : Nat → Option xKD} {SG : Nat → Bool} {ad kd : Nat} {d : Nat × Nat × List xJ} (hH : xHI KT SG τ h) (ht : τ[ad]? = some kd) (hk : KT kd = some (.inr d)) : ∃ k, h[ad]? = some (.inl (d.1, d.2.1, k)) ∧ xka d.1 k ∧ ∀ j : Nat, j < d.2.1 → ∃ q ∈ d.2.2, xsat τ q.1 (zm_kv k j) ∧ xjok q j := by
  obtain ⟨D, c, h1, h2, h3⟩ := hH.2.1 ad kd ht
  rw [hk] at h1
  cases h1
  obtain ⟨k, rfl, h4, h5⟩ := h3
  exact ⟨k, h2, h4, h5⟩
theorem xLR_r {q : xC × xl} {z : Int} {f : xl → xv} {t : List xv} {s : List Value} {w : Value} {D0 : xD} (hD : xdok ρ σ τ h D0) (hg : D0.2.2.2.2 = D.2.2.2.2) (hq : xR ρ q z) (hs : xsk ρ σ t s) (hw : ∀ r, xe (ρ ++ r) q.2 = some z → xc (ρ ++ r) σ (f q.2) w) (hm : (xwC D0 q.1, f q.2 :: t) ∈ l) : xLR ρ σ τ h D.2.2.2.2 l (some (w :: s, h)) := by
  obtain ⟨r, h1, h2⟩ := hq
  have e : σ ++ [] = σ := List.append_nil σ
  refine ⟨_, rfl, _, hm, r, [], ?_, ?_, hg⟩
  · rw [e]
    refine ⟨h1, hD.2.1, ?_, ?_⟩
    · have := xmo_mono (r := r) (s := []) hD.2.2.1
      rwa [e] at this
    · have := xmao_mono (r := r) (s := []) hD.2.2.2
      rwa [e] at this
  · rw [e]
    exact ⟨hw r h2, xsk_m hs⟩
theorem xdok_C {C : xC} (hD : xdok ρ σ τ h D) (hC : xCok ρ C) : xdok ρ σ τ h (xwC D C) := ⟨hC, hD.2⟩
theorem xw17_ok {C : xC} {e : xl} {y : Nat} {f g : xC → xHS} (hC : xCok ρ C) (he : xe ρ e = some (y : Int)) : (y ≤ 16 → ∃ C', xCok ρ C' ∧ f C' ∈ xw17 C e f g) ∧ (17 ≤ y → ∃ C', xCok ρ C' ∧ g C' ∈ xw17 C e f g) := by
  constructor
  · intro hy
    obtain ⟨n, h1, h2⟩ := xas_ok hC.1 (xe_pl 16 (xe_ng he)) (by omega)
    refine ⟨(n, C.2), ⟨h2, hC.2⟩, ?_⟩
    unfold xw17
    rw [h1]
    exact List.mem_append_left _ (List.mem_singleton.mpr rfl)
  · intro hy
    obtain ⟨n, h1, h2⟩ := xas_ok hC.1 (xe_pl (.negSucc 16) he) (by show 0 ≤ (y : Int) + (-17); omega)
    refine ⟨(n, C.2), ⟨h2, hC.2⟩, ?_⟩
    unfold xw17
    rw [h1]
    exact List.mem_append_right _ (List.mem_singleton.mpr rfl)
theorem xgw_ok {x : zm_X} {i : Nat} {b : xv} {t : List xv} {v : Value} {s : List Value} (hD : xdok ρ σ τ h D) (hb : xc ρ σ b v) (hs : xsk ρ σ t s) (hx : xgw x D b t = some l) : xLR ρ σ τ h D.2.2.2.2 l (zm_hp df og (.getfield i) x (v :: s) h) := by
  obtain ⟨tg, e, n⟩ := b
  unfold xgw at hx
  split at hx
  · rename_i h2; have h2 : tg = 5 := h2; subst h2
    have hb : v = .retAddr n := hb
    subst hb
    split at hx
    · rename_i j hj
      cases hx
      have ez : zm_hp df og (.getfield i) x (.retAddr n :: s) h = some (.int j :: s, h) := by
        have hj : zm_of x.1 n x.2.1 = some (.int j) := hj
        simp only [zm_hp, hj]
      rw [ez]
      exact xLR_id (s := (D, xi (xk j.toInt) :: t)) hD ⟨⟨j, rfl, xe_k _⟩, hs⟩ rfl (List.mem_singleton.mpr rfl)
    · rename_i k hj
      cases hx
      have ez : zm_hp df og (.getfield i) x (.retAddr n :: s) h = some (.retAddr k :: s, h) := by
        have hj : zm_of x.1 n x.2.1 = some (.retAddr k) := hj
        simp only [zm_hp, hj]
      rw [ez]
      exact xLR_id (s := (D, (5, xk 0, k) :: t)) hD ⟨rfl, hs⟩ rfl (List.mem_singleton.mpr rfl)
    · cases hx
  · rename_i h2; have h2 : tg = 7 := h2; subst h2
    obtain ⟨y, j, he, hy, rfl⟩ := hb
    have he : xe ρ e = some (y : Int) := he
    obtain ⟨-, ws, wa, wb, m, g1, g2, g3, g4, g5, g6, g7, g8⟩ := xw_ok hy
    cases h40 : Nat.beq x.1 40 with
    | false => rw [h40] at hx; cases hx
    | true =>
      rw [h40] at hx
      simp only [cond_true] at hx
      have h40 := Nat.eq_of_beq_eq_true h40
      have ez : ∀ (f : Nat) (w : Value), x.2.1 = f → zm_wf j f = some w → zm_hp df og (.getfield i) x (.retAddr j :: s) h = some (w :: s, h) := by
        intro f w hf hw
        have e1 : zm_of x.1 j x.2.1 = some w := by rw [h40, hf]; exact hw
        simp only [zm_hp, e1]
      split at hx
      · rename_i hf
        cases hx
        rw [ez 0 (.retAddr (j + 57)) hf (by simp only [zm_wf, g1])]
        have hR : xR ρ (xfr D.1 2 10) (m : Int) := xR_fr hD.1 (by omega) (by omega)
        have hW : ∀ (r : List Int), xe (ρ ++ r) (xfr D.1 2 10).2 = some (m : Int) → xc (ρ ++ r) σ ((8 : Nat), (xfr D.1 2 10).2, (0 : Nat)) (.retAddr (j + 57)) := fun r hr => by
          show ∃ (x j1 : Nat), xe (ρ ++ r) (xfr D.1 2 10).2 = some (x : Int) ∧ xsl j1 = some x ∧ Value.retAddr (j + 57) = .retAddr j1
          exact ⟨m, j + 57, hr, g6, rfl⟩
        exact xLR_r (D0 := D) (f := fun e => ((8 : Nat), e, (0 : Nat))) hD rfl hR hs hW (List.mem_singleton.mpr rfl)
      · rename_i hf
        cases hx
        rw [ez 1 (.int ws) hf (by simp only [zm_wf, g1])]
        by_cases h16 : y ≤ 16
        · obtain ⟨C', c1, c2⟩ := (xw17_ok (f := fun C => (xwC D C, xi e :: t)) (g := fun C => (xwC D C, xi (xk (.negSucc 0)) :: t)) hD.1 he).1 h16
          exact xLR_id (s := (xwC D C', xi e :: t)) (xdok_C hD c1) ⟨⟨ws, rfl, by rw [g2 h16]; exact he⟩, hs⟩ rfl c2
        · obtain ⟨C', c1, c2⟩ := (xw17_ok (f := fun C => (xwC D C, xi e :: t)) (g := fun C => (xwC D C, xi (xk (.negSucc 0)) :: t)) hD.1 he).2 (by omega)
          exact xLR_id (s := (xwC D C', xi (xk (.negSucc 0)) :: t)) (xdok_C hD c1) ⟨⟨ws, rfl, by rw [(g3 (by omega)).1]; exact xe_k _⟩, hs⟩ rfl c2
      · rename_i hf
        cases hx
        rw [ez 2 (.int wa) hf (by simp only [zm_wf, g1])]
        by_cases h16 : y ≤ 16
        · obtain ⟨C', c1, c2⟩ := (xw17_ok (f := fun C => (xwC D (xfr C 0 1).1, xi (xfr C 0 1).2 :: t)) (g := fun C => (xwC D C, xi (xk 0) :: t)) hD.1 he).1 h16
          exact xLR_r (D0 := xwC D C') (f := xi) (xdok_C hD c1) rfl (xR_fr (x := wa.toInt) c1 g4.1 g4.2) hs (fun r hr => ⟨wa, rfl, hr⟩) c2
        · obtain ⟨C', c1, c2⟩ := (xw17_ok (f := fun C => (xwC D (xfr C 0 1).1, xi (xfr C 0 1).2 :: t)) (g := fun C => (xwC D C, xi (xk 0) :: t)) hD.1 he).2 (by omega)
          exact xLR_id (s := (xwC D C', xi (xk 0) :: t)) (xdok_C hD c1) ⟨⟨wa, rfl, by rw [(g3 (by omega)).2.1]; exact xe_k _⟩, hs⟩ rfl c2
      · rename_i hf
        cases hx
        rw [ez 3 (.int wb) hf (by simp only [zm_wf, g1])]
        by_cases h16 : y ≤ 16
        · obtain ⟨C', c1, c2⟩ := (xw17_ok (f := fun C => (xwC D (xfr C 0 1).1, xi (xfr C 0 1).2 :: t)) (g := fun C => (xwC D C, xi (xk 0) :: t)) hD.1 he).1 h16
          exact xLR_r (D0 := xwC D C') (f := xi) (xdok_C hD c1) rfl (xR_fr (x := wb.toInt) c1 g5.1 g5.2) hs (fun r hr => ⟨wb, rfl, hr⟩) c2
        · obtain ⟨C', c1, c2⟩ := (xw17_ok (f := fun C => (xwC D (xfr C 0 1).1, xi (xfr C 0 1).2 :: t)) (g := fun C => (xwC D C, xi (xk 0) :: t)) hD.1 he).2 (by omega)
          exact xLR_id (s := (xwC D C', xi (xk 0) :: t)) (xdok_C hD c1) ⟨⟨wb, rfl, by rw [(g3 (by omega)).2.2]; exact xe_k _⟩, hs⟩ rfl c2
      · cases hx
  · cases hx
theorem xaw_ok {x : zm_X} {b : xv} {t : List xv} {v : Value} {s : List Value} (hD : xdok ρ σ τ h D) (hb : xc ρ σ b v) (hs : xsk ρ σ t s) (hx : xaw D b t = some l) : xLR ρ σ τ h D.2.2.2.2 l (zm_hp df og .arraylength x (v :: s) h) := by
  obtain ⟨tg, e, n⟩ := b
  unfold xaw at hx
  split at hx
  · rename_i h2; have h2 : tg = 5 := h2; subst h2
    have hb : v = .retAddr n := hb
    subst hb
    split at hx
    · rename_i q hq
      have hq : zm_ba n = some (.inl q) := hq
      cases h1 : Nat.ble q.2.1 60000 with
      | false => rw [h1] at hx; cases hx
      | true =>
        rw [h1] at hx
        cases hx
        have h1 := Nat.le_of_ble_eq_true h1
        have ez : zm_hp df og .arraylength x (.retAddr n :: s) h = some (.int (Int32.ofNat q.2.1) :: s, h) := by
          simp only [zm_hp, zm_rd, hq]
        rw [ez]
        refine xLR_id (s := (D, xi (xk (.ofNat q.2.1)) :: t)) hD ⟨⟨_, rfl, ?_⟩, hs⟩ rfl (List.mem_singleton.mpr rfl)
        show xe ρ (xk (.ofNat q.2.1)) = _
        rw [xe_k, Int32.toInt_ofNat_of_lt (by omega)]
        rfl
    · cases hx
  · cases hx
/-- the loads of arrays -/
def xhld (og : Nat → Option zm_C) (i : Jvm.ClassFile.Instr) (st : List Value) (h : zm_H) : Option (List Value × zm_H) := match i with
  | .aaload => zm_aal og st h
  | i => zm_ald og i st h
theorem xhld_ref {i : Jvm.ClassFile.Instr} {j : Int32} {ad : Nat} {s : List Value} : xhld og i (.int j :: .ref ad :: s) h = zm_ald og i (.int j :: .ref ad :: s) h := by
  cases i <;> rfl
theorem xin_ok {j : Int32} {n : Nat} (h0 : 0 ≤ j.toInt) (h1 : j.toInt ≤ (n : Int) - 1) : zm_in j n = true ∧ ((j.toNatClampNeg : Nat) : Int) = j.toInt ∧ j.toNatClampNeg < n := by
  have e : j.toNatClampNeg = j.toInt.toNat := rfl
  have h2 : j.toNatClampNeg < n := by rw [e]; omega
  have h3 : ¬ j < 0 := fun h => by
    have := Int32.lt_iff_toInt_lt.mp h
    have e0 : (0 : Int32).toInt = 0 := rfl
    omega
  refine ⟨?_, by rw [e]; omega, h2⟩
  unfold zm_in
  rw [decide_eq_false h3, decide_eq_true h2]
  rfl
theorem xao_ok {x : zm_X} {i : Jvm.ClassFile.Instr} {a b : xv} {t : List xv} {v : Value} {j : Int32} {s : List Value} (hi : zm_hp df og i x (.int j :: v :: s) h = xhld og i (.int j :: v :: s) h) (hD : xdok ρ σ τ h D) (he : xe ρ a.2.1 = some j.toInt) (hb : xc ρ σ b v) (hs : xsk ρ σ t s) (hx : xao i D a b t = some l) : xLR ρ σ τ h D.2.2.2.2 l (zm_hp df og i x (.int j :: v :: s) h) := by
  rw [hi]
  obtain ⟨tg, e, n⟩ := b
  have hn := hD.1.1
  unfold xao at hx
  split at hx
  · rename_i h2; have h2 : tg = 5 := h2; subst h2
    have hb : v = .retAddr n := hb
    subst hb
    split at hx
    · cases hc : Nat.beq n 1 && (xpv D.1.1.1 D.1.1.2 8 a.2.1 && xpv D.1.1.1 D.1.1.2 8 (xpl 35 (xng a.2.1))) with
      | false =>
        have hx : (bif Nat.beq n 1 && (xpv D.1.1.1 D.1.1.2 8 a.2.1 && xpv D.1.1.1 D.1.1.2 8 (xpl 35 (xng a.2.1))) then _ else _) = some l := hx
        rw [hc] at hx; cases hx
      | true =>
        have hx : (bif Nat.beq n 1 && (xpv D.1.1.1 D.1.1.2 8 a.2.1 && xpv D.1.1.1 D.1.1.2 8 (xpl 35 (xng a.2.1))) then _ else _) = some l := hx
        rw [hc] at hx
        cases hx
        simp only [Bool.and_eq_true] at hc
        have h1 := Nat.eq_of_beq_eq_true hc.1
        subst h1
        have h0 := xpv_ok hn.1 hn.2 8 he hc.2.1
        have h1 := xpv_ok hn.1 hn.2 8 (xe_pl 35 (xe_ng he)) hc.2.2
        obtain ⟨hin, hjn, hjlt⟩ := xin_ok (n := 36) (j := j) h0 (by omega)
        have ez : xhld og .aaload (.int j :: .retAddr 1 :: s) h = some (.retAddr (zm_wh j.toNatClampNeg) :: s, h) := by
          simp only [xhld, zm_aal, hin, cond_true]
        rw [ez]
        have hw : ∃ y, xwh[j.toNatClampNeg]? = some y := ⟨_, List.getElem?_eq_getElem (show j.toNatClampNeg < xwh.length from hjlt)⟩
        obtain ⟨y, hy⟩ := hw
        rw [(xw_ok hy).1]
        exact xLR_id (s := (D, (7, a.2.1, 0) :: t)) hD ⟨⟨j.toNatClampNeg, y, by show xe ρ a.2.1 = _; rw [hjn]; exact he, hy, rfl⟩, hs⟩ rfl (List.mem_singleton.mpr rfl)
    · cases h100 : Nat.ble 100 n with
      | false =>
        have hx : (bif Nat.ble 100 n then _ else _) = some l := hx
        rw [h100] at hx; cases hx
      | true =>
        have hx : (bif Nat.ble 100 n then (match zm_sb (n - 100) with
          | some l => _
          | none => _) else _) = some l := hx
        rw [h100] at hx
        simp only [cond_true] at hx
        have h100 := Nat.le_of_ble_eq_true h100
        split at hx
        · rename_i bs hbs
          cases hc : xpv D.1.1.1 D.1.1.2 8 a.2.1 && xpv D.1.1.1 D.1.1.2 8 (xpl (.ofNat bs.length) (xm1 (xng a.2.1))) with
          | false => rw [hc] at hx; cases hx
          | true =>
            rw [hc] at hx
            simp only [cond_true] at hx
            simp only [Bool.and_eq_true] at hc
            have h0 := xpv_ok hn.1 hn.2 8 he hc.1
            have h1 := xpv_ok hn.1 hn.2 8 (xe_pl (.ofNat bs.length) (xe_m1 (xe_ng he))) hc.2
            have h1 : 0 ≤ -j.toInt - 1 + (bs.length : Int) := h1
            obtain ⟨hin, hjn, hjlt⟩ := xin_ok (n := bs.length) (j := j) h0 (by omega)
            have hba := xba hbs
            rw [show n - 100 + 100 = n by omega] at hba
            have ez : xhld og .baload (.int j :: .retAddr n :: s) h = some (.int (bs.getD j.toNatClampNeg 0) :: s, h) := by
              simp only [xhld, zm_ald, zm_rd, hba, zm_lds, hin, Nat.beq_refl, Bool.true_or, Bool.and_self, cond_true, zm_kv]
            rw [ez]
            have hr := (xs_ok hbs).2 j.toNatClampNeg
            split at hx
            · rename_i ha
              cases hx
              have ej : j.toNatClampNeg = a.2.1.1.toNat := by
                have e1 : xe ρ a.2.1 = some a.2.1.1 := by
                  have e2 : a.2.1 = xk a.2.1.1 := by
                    obtain ⟨a1, ⟨a2, a3⟩, a4⟩ := a
                    have ha : a3 = [] := ha
                    subst ha
                    rfl
                  rw [e2]
                  exact xe_k _
                rw [e1] at he
                have := Option.some.inj he
                show j.toInt.toNat = _
                rw [this]
              rw [ej]
              exact xLR_id (s := (D, xi (xk (bs.getD a.2.1.1.toNat 0).toInt) :: t)) hD ⟨⟨_, rfl, xe_k _⟩, hs⟩ rfl (List.mem_singleton.mpr rfl)
            · cases hx
              exact xLR_r (D0 := D) (f := xi) hD rfl (xR_fr (x := (bs.getD j.toNatClampNeg 0).toInt) hD.1 hr.1 hr.2) hs (fun r hr => ⟨_, rfl, hr⟩) (List.mem_singleton.mpr rfl)
        · cases hx
    · cases hx
  · cases hx
theorem xgf_ok {x : zm_X} {i : Nat} (hH : xHI V.1 V.2.1 τ h) (hD : xdok ρ σ τ h D) (hs : xsk ρ σ st sc) (hx : xgf V x D st = some l) : xLR ρ σ τ h D.2.2.2.2 l (zm_hp df og (.getfield i) x sc h) := by
  unfold xgf at hx
  split at hx
  · rename_i b t
    obtain ⟨v, s, rfl, hc, hs'⟩ := xsk_cons hs
    split at hx
    · rename_i kd hkd
      obtain ⟨ad, rfl, had, ht⟩ := xkd_ok hH hD.2.1 hc hkd
      split at hx
      · rename_i d hK
        obtain ⟨fs, hh, hl, hsp⟩ := xcf_o hH ht hK
        cases hb : Nat.beq d.1 x.1 with
        | false => rw [hb] at hx; cases hx
        | true =>
          rw [hb] at hx
          simp only [cond_true] at hx
          have hz : ∀ w, fs[x.2.1]? = some w → zm_hp df og (.getfield i) x (.ref ad :: s) h = some (w :: s, h) := by
            intro w hw
            simp only [zm_hp, hh, zm_geto, hb, hw, cond_true]
          have hfd : xfd h ad x.2.1 = fs[x.2.1]? := by simp only [xfd, hh]
          split at hx
          · rename_i v hv
            cases hx
            obtain ⟨w, h1, h2⟩ := xlkf_ok had hD.2.2.1 hv
            rw [hfd] at h1
            rw [hz w h1]
            exact xLR_id (s := (D, v :: t)) hD ⟨h2, hs'⟩ rfl (List.mem_singleton.mpr rfl)
          · split at hx
            · rename_i sp hsp2
              have hlt := (List.getElem?_eq_some_iff.mp hsp2).1
              have hw : fs[x.2.1]? = some fs[x.2.1] := List.getElem?_eq_getElem (by omega)
              obtain ⟨a, ha, hsat⟩ := hsp _ _ _ hsp2 hw
              obtain ⟨q, hq, hm⟩ := xforks_ok hx ha
              obtain ⟨r, s2, h1, h2, h3⟩ := xfa_ok hD.1 hD.2.1 hsat hq
              rw [hz _ hw]
              refine ⟨_, rfl, _, hm, r, s2, ⟨h1, h2, ?_, xmao_mono hD.2.2.2⟩, ⟨h3, xsk_mono hs'⟩, rfl⟩
              intro p hp
              rcases List.mem_cons.mp hp with rfl | hp
              · exact ⟨ad, _, xad_mono had, by rw [hfd]; exact hw, h3⟩
              · exact xmo_mono hD.2.2.1 p hp
            · cases hx
      · cases hx
    · exact xgw_ok hD hc hs' hx
  · cases hx
theorem xalen_ok {x : zm_X} (hH : xHI V.1 V.2.1 τ h) (hD : xdok ρ σ τ h D) (hs : xsk ρ σ st sc) (hx : xalen V D st = some l) : xLR ρ σ τ h D.2.2.2.2 l (zm_hp df og .arraylength x sc h) := by
  unfold xalen at hx
  split at hx
  · rename_i b t
    obtain ⟨v, s, rfl, hc, hs'⟩ := xsk_cons hs
    split at hx
    · rename_i kd hkd
      obtain ⟨ad, rfl, had, ht⟩ := xkd_ok hH hD.2.1 hc hkd
      split at hx
      · rename_i d hK
        obtain ⟨k, hh, -, -⟩ := xcf_a hH ht hK
        cases hb : Nat.ble d.2.1 60000 with
        | false => rw [hb] at hx; cases hx
        | true =>
          rw [hb] at hx
          cases hx
          have hb := Nat.le_of_ble_eq_true hb
          have e : zm_hp df og .arraylength x (.ref ad :: s) h = some (.int (Int32.ofNat d.2.1) :: s, h) := by
            simp only [zm_hp, zm_rd, hh]
          rw [e]
          refine xLR_id (s := (D, xi (xk (.ofNat d.2.1)) :: t)) hD ⟨⟨_, rfl, ?_⟩, hs'⟩ rfl (List.mem_singleton.mpr rfl)
          show xe ρ (xk (.ofNat d.2.1)) = _
          rw [xe_k, Int32.toInt_ofNat_of_lt (by omega)]
          rfl
      · cases hx
    · exact xaw_ok hD hc hs' hx
  · cases hx
theorem xald_ok {kd ad j : Nat} {js : List xJ} {b : xv} {e : xl} {t : List xv} {s : List Value} {C : xC} {w : Value} (hF : xFl_ok V X) (hH : xHI V.1 V.2.1 τ h) (hX : X τ h) (hD : xdok ρ σ τ h D) (hC : xCok ρ C) (had : xad σ b = some ad) (ht : τ[ad]? = some kd) (he : xe ρ e = some (j : Int)) (hw : xar h ad j = some w) (hq : ∃ q ∈ js, xsat τ q.1 w ∧ xjok q j) (hs : xsk ρ σ t s) {l2 : List xHS} (hl2 : ∀ z, z ∈ l → z ∈ l2) (hx : xald V kd js b e t D C = some l) : xLR ρ σ τ h D.2.2.2.2 l2 (some (w :: s, h)) := by
  obtain ⟨q, hq1, hq2, hq3⟩ := hq
  obtain ⟨a', ha, hsat⟩ := hF ρ σ τ h D b kd e q.1 ad j w hH hX hD had ht he hw hq2
  unfold xald at hx
  obtain ⟨C', w', h1, h2, h3⟩ := xjf_ok hC he hq3 ha hx hq1
  obtain ⟨r, s2, h4, h5, h6⟩ := xfa_ok h1 hD.2.1 hsat h2
  refine ⟨_, rfl, _, hl2 _ h3, r, s2, ⟨h4, h5, xmo_mono hD.2.2.1, ?_⟩, ⟨h6, xsk_mono hs⟩, rfl⟩
  intro p hp
  rcases List.mem_cons.mp hp with rfl | hp
  · exact ⟨ad, j, w, xad_mono had, xe_mono he, hw, h6⟩
  · exact xmao_mono hD.2.2.2 p hp
theorem xapp3_ok {a b c : Option (List xHS)} (hx : xapp3 a b c = some l) : ∃ x y z, a = some x ∧ b = some y ∧ c = some z ∧ l = x ++ (y ++ z) := by
  unfold xapp3 at hx
  split at hx
  · cases hx; exact ⟨_, _, _, rfl, rfl, rfl, rfl⟩
  · cases hx
theorem xal_ok {x : zm_X} {mi pc : Nat} {i : Jvm.ClassFile.Instr} (hi : zm_hp df og i x sc h = xhld og i sc h) (hF : xFl_ok V X) (hH : xHI V.1 V.2.1 τ h) (hX : X τ h) (hD : xdok ρ σ τ h D) (hs : xsk ρ σ st sc) (hx : xal V mi pc i D st = some l) : xLR ρ σ τ h D.2.2.2.2 l (zm_hp df og i x sc h) := by
  unfold xal at hx
  split at hx
  · rename_i a b t
    obtain ⟨va, s1, rfl, ha, hs1⟩ := xsk_cons hs
    obtain ⟨vb, s, rfl, hb, hs'⟩ := xsk_cons hs1
    cases ht0 : Nat.beq a.1 0 with
    | false => rw [ht0] at hx; cases hx
    | true =>
      rw [ht0] at hx
      simp only [cond_true] at hx
      obtain ⟨j, rfl, he⟩ := xc_i ha ht0
      split at hx
      · rename_i kd hkd
        obtain ⟨ad, rfl, had, ht⟩ := xkd_ok hH hD.2.1 hb hkd
        split at hx
        · rename_i d hK
          obtain ⟨k, hh, hka, hel⟩ := xcf_a hH ht hK
          cases hc : zm_lds i d.1 && (xpv D.1.1.1 D.1.1.2 8 a.2.1 && xpv D.1.1.1 D.1.1.2 8 (xpl (.ofNat d.2.1) (xm1 (xng a.2.1)))) with
          | false => rw [hc] at hx; cases hx
          | true =>
            rw [hc] at hx
            simp only [cond_true] at hx
            simp only [Bool.and_eq_true] at hc
            have hn := hD.1.1
            have h0 := xpv_ok hn.1 hn.2 8 he hc.2.1
            have h1 := xpv_ok hn.1 hn.2 8 (xe_pl (.ofNat d.2.1) (xe_m1 (xe_ng he))) hc.2.2
            have h1 : 0 ≤ -j.toInt - 1 + (d.2.1 : Int) := h1
            obtain ⟨hin, hjn, hjlt⟩ := xin_ok (n := d.2.1) h0 (by omega)
            have hje : xe ρ a.2.1 = some ((j.toNatClampNeg : Nat) : Int) := by rw [hjn]; exact he
            have hw : xar h ad j.toNatClampNeg = some (zm_kv k j.toNatClampNeg) := by simp only [xar, hh, if_pos hjlt]
            have hz : zm_hp df og i x (.int j :: .ref ad :: s) h = some (zm_kv k j.toNatClampNeg :: s, h) := by
              rw [hi, xhld_ref]
              simp only [zm_ald, zm_rd, hh, hc.1, hin, Bool.and_self, cond_true]
            rw [hz]
            split at hx
            · rename_i v hv
              cases hx
              obtain ⟨j', w, k1, k2, k3⟩ := xlka_ok had hD.2.2.2 hv
              rw [hje] at k1
              have e : j' = j.toNatClampNeg := by
                have := Option.some.inj k1
                omega
              subst e
              rw [hw] at k2
              cases k2
              exact xLR_id (s := (D, v :: t)) hD ⟨k3, hs'⟩ rfl (List.mem_singleton.mpr rfl)
            · have base : ∀ {C : xC} {l1 l2 : List xHS}, xCok ρ C → (∀ z, z ∈ l1 → z ∈ l2) → xald V kd d.2.2 b a.2.1 t D C = some l1 → xLR ρ σ τ h D.2.2.2.2 l2 (some (zm_kv k j.toNatClampNeg :: s, h)) := fun hC hl hx => xald_ok hF hH hX hD hC had ht hje hw (hel _ hjlt) hs' hl hx
              cases hsp : V.2.2.2.2.2 mi pc with
              | false => rw [hsp] at hx; exact base hD.1 (fun z hz => hz) hx
              | true =>
                rw [hsp] at hx
                simp only [cond_true] at hx
                split at hx
                · rename_i p hp
                  obtain ⟨j', w, k1, k2, k3⟩ := xlkb_ok had hD.2.2.2 hp
                  obtain ⟨l1, l2, l3, q1, q2, q3, rfl⟩ := xapp3_ok hx
                  have hd := xe_add (k := .negSucc 0) hje k1
                  have hd : xe ρ (xadd (.negSucc 0) a.2.1 p.1) = some ((j.toNatClampNeg : Int) - (j' : Int)) := by
                    rw [hd]
                    congr 1
                    show _ + (-1) * _ = _
                    omega
                  by_cases heq : j' = j.toNatClampNeg
                  · subst heq
                    obtain ⟨n1, a1, a2⟩ := xas_ok hn hd (by omega)
                    obtain ⟨n2, a3, a4⟩ := xas_ok a2 (xe_ng hd) (by omega)
                    rw [a1] at q1
                    simp only [a3, xopt, Option.some.injEq] at q1
                    subst q1
                    rw [hw] at k2
                    cases k2
                    exact xLR_id (s := (xwC D (n2, D.1.2), p.2 :: t)) ⟨⟨a4, hD.1.2⟩, hD.2⟩ ⟨k3, hs'⟩ rfl (List.mem_append_left _ (List.mem_singleton.mpr rfl))
                  · by_cases hlt : j' < j.toNatClampNeg
                    · obtain ⟨n1, a1, a2⟩ := xas_ok hn (xe_m1 hd) (by omega)
                      rw [a1] at q2
                      exact base (C := (n1, D.1.2)) ⟨a2, hD.1.2⟩ (fun z hz => List.mem_append_right _ (List.mem_append_left _ hz)) q2
                    · obtain ⟨n1, a1, a2⟩ := xas_ok hn (xe_m1 (xe_ng hd)) (by omega)
                      rw [a1] at q3
                      exact base (C := (n1, D.1.2)) ⟨a2, hD.1.2⟩ (fun z hz => List.mem_append_right _ (List.mem_append_right _ hz)) q3
                · exact base hD.1 (fun z hz => hz) hx
        · cases hx
      · exact xao_ok hi hD he hb hs' hx
  · cases hx
end XLK
