/-! By hand: note -/
section XNT
variable {τ : List Nat} {h : zm_H} {og : Nat → Option zm_C}
theorem xone {fs : List Value} {d : Nat × List (List xA)} {f n : Nat} (hl : fs.length = d.2.length) (hsp : ∀ (f : Nat) (sp : List xA) (v : Value), d.2[f]? = some sp → fs[f]? = some v → ∃ a ∈ sp, xsat τ a v) (hf : d.2[f]? = some [(3, n, 0, 0)]) : fs[f]? = some (.ref n) := by
  have hlt := (List.getElem?_eq_some_iff.mp hf).1
  have hg : fs[f]? = some fs[f] := List.getElem?_eq_getElem (by omega)
  obtain ⟨a, ha, hs⟩ := hsp f _ _ hf hg
  have ha := List.mem_singleton.mp ha
  subst ha
  rw [hg]
  congr 1
/-- an int array's place is written -/
theorem xHI_up {a kd n : Nat} {js : List xJ} {f : Nat → Int32} {j : Nat} {v : Int32} {q : xJ} (hH : xHI xKT xSG τ h) (ht : τ[a]? = some kd) (hk : xKT kd = some (.inr (0, n, js))) (hh : h[a]? = some (.inl (0, n, .inl f))) (hq : q ∈ js) (hs : xsat τ q.1 (.int v)) (hj : xjok q j) : xHI xKT xSG τ (h.set a (.inl (0, n, .inl (upd f j v)))) := by
  obtain ⟨k, h1, h2, h3⟩ := xcf_a hH ht hk
  rw [hh] at h1
  cases h1
  refine xHI_set hH hh ht hk ⟨.inl (upd f j v), rfl, ⟨_, rfl⟩, fun i hi => ?_⟩
  by_cases e : i = j
  · subst e
    refine ⟨q, hq, ?_, hj⟩
    show xsat τ q.1 (.int (if i = i then v else f i))
    rw [if_pos rfl]
    exact hs
  · obtain ⟨q2, b1, b2, b3⟩ := h3 i hi
    refine ⟨q2, b1, ?_, b3⟩
    show xsat τ q2.1 (.int (if i = j then v else f i))
    rw [if_neg e]
    exact b2
theorem xPX_k {ak ok fa fc a kd t n : Nat} {k k' : zm_K} (hx : xPX ak ok fa fc τ h) (ht : τ[a]? = some kd) (hne : kd ≠ ak) (hh : h[a]? = some (.inl (t, n, k))) : xPX ak ok fa fc τ (h.set a (.inl (t, n, k'))) := by
  intro a' b t' n' i c g k1 k2 k3 k4 k5 k6 k7
  rw [xfd_seta hh] at k3 k4
  rw [xgs hh] at k5
  by_cases e : a = b
  · subst e
    rw [ht] at k2
    cases k2
    exact absurd rfl hne
  · rw [if_neg e] at k5
    exact hx a' b t' n' i c g k1 k2 k3 k4 k5 k6 k7
theorem xF_a {MS : Nat → Nat → Bool} {a kd t n : Nat} {k k' : zm_K} (ht : τ[a]? = some kd) (hm : MS kd 0 = true) (hh : h[a]? = some (.inl (t, n, k))) : xF MS τ h τ (h.set a (.inl (t, n, k'))) := by
  refine ⟨⟨[], (List.append_nil τ).symm⟩, fun b kb f w hb2 _ hw => by rw [xfd_seta hh]; exact hw, fun b kb c hb2 hms hw => ?_⟩
  rw [xgs hh]
  by_cases e : a = b
  · subst e
    rw [ht] at hb2
    cases hb2
    rw [hm] at hms
    cases hms
  · rw [if_neg e]
    exact hw
theorem xF_o {MS : Nat → Nat → Bool} {a kd ci f : Nat} {fs : List Value} {v : Value} (ht : τ[a]? = some kd) (hm : MS kd f = true) (hh : h[a]? = some (.inr (ci, fs))) : xF MS τ h τ (h.set a (.inr (ci, fs.set f v))) := by
  refine ⟨⟨[], (List.append_nil τ).symm⟩, fun b kb g w hb2 hms hw => ?_, fun b kb c hb2 hms hw => ?_⟩
  · rw [xfd_set hh]
    · exact hw
    · by_cases e : b = a
      · right
        rintro rfl
        subst e
        rw [ht] at hb2
        cases hb2
        rw [hm] at hms
        cases hms
      · exact Or.inl e
  · rw [xgs hh]
    by_cases e : a = b
    · subst e
      rw [hh] at hw
      cases hw
    · rw [if_neg e]
      exact hw
theorem xW_a {a t n : Nat} {k k' : zm_K} (hh : h[a]? = some (.inl (t, n, k))) : xW (h.set a (.inl (t, n, k'))) = xW h := by
  obtain ⟨s1, s2⟩ := zm_set_sz (h := h) (c2 := .inl (t, n, k')) hh rfl
  unfold xW
  rw [s1, s2, xfd_seta hh]
theorem xc32 {a b : Int32} (h : a.toInt = b.toInt) : a = b := Int32.toInt_inj.mp h
theorem zh_note {d : Nat} {w p t n : Int32} (hH : xHI xKT xSG τ h) (hX : xX τ h) (hn : xfd h 2 5 = some (.int n)) (n0 : 0 ≤ n.toInt) (n1 : n.toInt ≤ 300) (w0 : 0 ≤ w.toInt) (w1 : w.toInt ≤ 255) (hw : w.toInt ≠ 0 → n.toInt ≤ 299) (p0 : 0 ≤ p.toInt) (p1 : p.toInt ≤ 300) (t0 : -1 ≤ t.toInt) (t1 : t.toInt ≤ 10000) (h1 : w.toInt = 1 → t.toInt ≤ 35) (h2 : w.toInt = 2 → 0 ≤ t.toInt) : zm_Y og d 45 0 [(0, .ref 2), (1, .int w), (2, .int p), (3, .int t)] [] h (fun r h' => r = none ∧ xHI xKT xSG τ h' ∧ xX τ h' ∧ xF (xms [(2, 5), (4, 0), (5, 0), (6, 0)]) τ h τ h' ∧ xW h' = xW h ∧ xfd h' 2 5 = some (.int (n + 1))) := by
  obtain ⟨s0, sx1, sx2, sx3, sp, sl⟩ := hX
  obtain ⟨fs, hh, hl, hsp⟩ := xcf_o hH (s0 2 rfl) (show xKT 2 = some (.inl (7, _)) from rfl)
  have f2 : fs[2]? = some (.ref 4) := xone hl hsp rfl
  have f3 : fs[3]? = some (.ref 5) := xone hl hsp rfl
  have f4 : fs[4]? = some (.ref 6) := xone hl hsp rfl
  have f5 : fs[5]? = some (.int n) := by
    have e : xfd h 2 5 = fs[5]? := by simp only [xfd, hh]
    rw [← e]
    exact hn
  obtain ⟨k4, a4, b4, -⟩ := xcf_a hH (s0 4 rfl) (show xKT 4 = some (.inr (0, 301, _)) from rfl)
  obtain ⟨k5, a5, b5, -⟩ := xcf_a hH (s0 5 rfl) (show xKT 5 = some (.inr (0, 301, _)) from rfl)
  obtain ⟨k6, a6, b6, -⟩ := xcf_a hH (s0 6 rfl) (show xKT 6 = some (.inr (0, 301, _)) from rfl)
  obtain ⟨g4, rfl⟩ := b4
  obtain ⟨g5, rfl⟩ := b5
  obtain ⟨g6, rfl⟩ := b6
  have a4 : h[4]? = some (.inl (0, 301, .inl g4)) := a4
  have a5 : h[5]? = some (.inl (0, 301, .inl g5)) := a5
  have a6 : h[6]? = some (.inl (0, 301, .inl g6)) := a6
  have hh : h[2]? = some (.inr (7, fs)) := hh
  have hl : fs.length = 10 := hl
  obtain ⟨hin, hjn, hjlt⟩ := xin_ok (j := n) (n := 301) n0 (by omega)
  refine zy_n 1 (mr := zm_m45) rfl rfl ?_
  refine zy_h (mr := zm_m45) rfl rfl (zh_get hh f5) ?_
  refine zy_n 1 (mr := zm_m45) rfl rfl ?_
  refine zy_h (mr := zm_m45) rfl rfl (zh_get hh f2) ?_
  refine zy_h (mr := zm_m45) rfl rfl (zh_alen a4) ?_
  refine zy_b (mr := zm_m45) rfl rfl rfl ?_
  refine zc_ge (fun hc => ?_) (fun _ => ?_)
  · have := Int32.le_iff_toInt_le.mp hc
    have e : (Int32.ofNat 301).toInt = 301 := rfl
    omega
  refine zy_n 1 (mr := zm_m45) rfl rfl ?_
  refine zy_h (mr := zm_m45) rfl rfl (zh_get hh f2) ?_
  refine zy_n 1 (mr := zm_m45) rfl rfl ?_
  refine zy_h (mr := zm_m45) rfl rfl (zh_get hh f5) ?_
  refine zy_n 1 (mr := zm_m45) rfl rfl ?_
  refine zy_h (mr := zm_m45) rfl rfl (zh_iast a4 hin) ?_
  have hh1 := zs_ne (x := .inl (0, 301, .inl (upd g4 n.toNatClampNeg w))) hh (show (4 : Nat) ≠ 2 by decide)
  have a51 := zs_ne (x := .inl (0, 301, .inl (upd g4 n.toNatClampNeg w))) a5 (show (4 : Nat) ≠ 5 by decide)
  have a61 := zs_ne (x := .inl (0, 301, .inl (upd g4 n.toNatClampNeg w))) a6 (show (4 : Nat) ≠ 6 by decide)
  refine zy_n 1 (mr := zm_m45) rfl rfl ?_
  refine zy_h (mr := zm_m45) rfl rfl (zh_get hh1 f3) ?_
  refine zy_n 1 (mr := zm_m45) rfl rfl ?_
  refine zy_h (mr := zm_m45) rfl rfl (zh_get hh1 f5) ?_
  refine zy_n 1 (mr := zm_m45) rfl rfl ?_
  refine zy_h (mr := zm_m45) rfl rfl (zh_iast a51 hin) ?_
  have hh2 := zs_ne (x := .inl (0, 301, .inl (upd g5 n.toNatClampNeg p))) hh1 (show (5 : Nat) ≠ 2 by decide)
  have a62 := zs_ne (x := .inl (0, 301, .inl (upd g5 n.toNatClampNeg p))) a61 (show (5 : Nat) ≠ 6 by decide)
  refine zy_n 1 (mr := zm_m45) rfl rfl ?_
  refine zy_h (mr := zm_m45) rfl rfl (zh_get hh2 f4) ?_
  refine zy_n 1 (mr := zm_m45) rfl rfl ?_
  refine zy_h (mr := zm_m45) rfl rfl (zh_get hh2 f5) ?_
  refine zy_n 1 (mr := zm_m45) rfl rfl ?_
  refine zy_h (mr := zm_m45) rfl rfl (zh_iast a62 hin) ?_
  have hh3 := zs_ne (x := .inl (0, 301, .inl (upd g6 n.toNatClampNeg t))) hh2 (show (6 : Nat) ≠ 2 by decide)
  refine zy_n 2 (mr := zm_m45) rfl rfl ?_
  refine zy_h (mr := zm_m45) rfl rfl (zh_get hh3 f5) ?_
  refine zy_n 2 (mr := zm_m45) rfl rfl ?_
  refine zy_h (mr := zm_m45) rfl rfl (zh_put hh3 (by rw [hl]; rfl) rfl) ?_
  refine zy_r (mr := zm_m45) rfl rfl rfl ?_
  have hHa := xHI_up (q := (bif decide (w.toInt = 0) then ((0, 0, .ofNat 0, .ofNat 0), .ofNat 0, .ofNat 300, 0, 0) else ((0, 0, .ofNat 1, .ofNat 255), .ofNat 0, .ofNat 299, 0, 0))) (j := n.toNatClampNeg) (v := w) hH (s0 4 rfl) (show xKT 4 = some (.inr (0, 301, _)) from rfl) a4 (by
      by_cases e : w.toInt = 0
      · rw [decide_eq_true e]; exact List.mem_cons_self
      · rw [decide_eq_false e]; exact List.mem_cons_of_mem _ List.mem_cons_self) (by
      by_cases e : w.toInt = 0
      · rw [decide_eq_true e]; exact ⟨w, rfl, by show (0 : Int) ≤ _; omega, by show _ ≤ (0 : Int); omega⟩
      · rw [decide_eq_false e]; exact ⟨w, rfl, by show (1 : Int) ≤ _; omega, by show _ ≤ (255 : Int); omega⟩) (by
      by_cases e : w.toInt = 0
      · rw [decide_eq_true e]; exact ⟨by show (0 : Int) ≤ _; omega, by show _ ≤ (300 : Int); omega, Or.inl rfl⟩
      · have := hw e
        rw [decide_eq_false e]; exact ⟨by show (0 : Int) ≤ _; omega, by show _ ≤ (299 : Int); omega, Or.inl rfl⟩)
  have hHb := xHI_up (q := ((0, 0, .ofNat 0, .ofNat 300), .ofNat 0, .ofNat 300, 0, 0)) (j := n.toNatClampNeg) (v := p) hHa (s0 5 rfl) (show xKT 5 = some (.inr (0, 301, _)) from rfl) a51 List.mem_cons_self ⟨p, rfl, p0, p1⟩ ⟨by show (0 : Int) ≤ _; omega, by show _ ≤ (300 : Int); omega, Or.inl rfl⟩
  have hHc := xHI_up (q := ((0, 0, .negSucc 0, .ofNat 10000), .ofNat 0, .ofNat 300, 0, 0)) (j := n.toNatClampNeg) (v := t) hHb (s0 6 rfl) (show xKT 6 = some (.inr (0, 301, _)) from rfl) a62 List.mem_cons_self ⟨t, rfl, t0, t1⟩ ⟨by show (0 : Int) ≤ _; omega, by show _ ≤ (300 : Int); omega, Or.inl rfl⟩
  have hn1 : (n + 1).toInt = n.toInt + 1 := by
    rw [Int32.toInt_add]
    have e1 : xI32a = -2147483648 := rfl
    have e2 : xI32b = 2147483647 := rfl
    exact xb_bm32 (by show xI32a ≤ n.toInt + 1; omega) (by show n.toInt + 1 ≤ xI32b; omega)
  have hHd := xHI_set (c := .inr (7, fs.set 5 (.int (n + 1)))) hHc hh3 (s0 2 rfl) (show xKT 2 = some (.inl (7, _)) from rfl) ⟨fs.set 5 (.int (n + 1)), rfl, by rw [List.length_set]; exact hl, fun f sp' v' c1 c2 => by
    by_cases e : 5 = f
    · subst e
      rw [List.getElem?_set_self (by omega)] at c2
      cases c2
      cases c1
      exact ⟨_, List.mem_cons_self, n + 1, rfl, by show (0 : Int) ≤ _; omega, by show _ ≤ (301 : Int); omega⟩
    · rw [List.getElem?_set_ne e] at c2
      exact hsp f sp' v' c1 c2⟩
  have px : ∀ {ak ok fa fc : Nat}, xPX ak ok fa fc τ h → 4 ≠ ak → 5 ≠ ak → 6 ≠ ak → xPRf ok fa = true → xPRf ok fc = true → xPX ak ok fa fc τ ((((h.set 4 (.inl (0, 301, .inl (upd g4 n.toNatClampNeg w)))).set 5 (.inl (0, 301, .inl (upd g5 n.toNatClampNeg p)))).set 6 (.inl (0, 301, .inl (upd g6 n.toNatClampNeg t)))).set 2 (.inr (7, fs.set 5 (.int (n + 1))))) := by
    intro ak ok fa fc hx e4 e5 e6 r1 r2
    exact xPX_o (xPX_k (xPX_k (xPX_k hx (s0 4 rfl) e4 a4) (s0 5 rfl) e5 a51) (s0 6 rfl) e6 a62) (s0 2 rfl) r1 r2 rfl hh3
  have hfd : ∀ b g, (b ≠ 2 ∨ g ≠ 5) → xfd ((((h.set 4 (.inl (0, 301, .inl (upd g4 n.toNatClampNeg w)))).set 5 (.inl (0, 301, .inl (upd g5 n.toNatClampNeg p)))).set 6 (.inl (0, 301, .inl (upd g6 n.toNatClampNeg t)))).set 2 (.inr (7, fs.set 5 (.int (n + 1))))) b g = xfd h b g := by
    intro b g hbg
    rw [xfd_set hh3 hbg, xfd_seta a62, xfd_seta a51, xfd_seta a4]
  refine ⟨rfl, hHd, ⟨s0, px sx1 (by decide) (by decide) (by decide) rfl rfl, px sx2 (by decide) (by decide) (by decide) rfl rfl, px sx3 (by decide) (by decide) (by decide) rfl rfl, ?_, ?_⟩, xF_trans (xF_trans (xF_trans (xF_a (s0 4 rfl) rfl a4) (xF_a (s0 5 rfl) rfl a51)) (xF_a (s0 6 rfl) rfl a62)) (xF_o (s0 2 rfl) rfl hh3), ?_, ?_⟩
  · intro n' m' j f g c1 c2 c3
    rw [xgs hh3, if_neg (by decide), xgs a62, if_neg (by decide), xgs a51, if_neg (by decide), xgs a4, if_pos rfl] at c1
    rw [xgs hh3, if_neg (by decide), xgs a62, if_pos rfl] at c2
    cases c1
    cases c2
    by_cases e : j = n.toNatClampNeg
    · subst e
      have e1 : upd g4 n.toNatClampNeg w n.toNatClampNeg = w := if_pos rfl
      have e2 : upd g6 n.toNatClampNeg t n.toNatClampNeg = t := if_pos rfl
      rw [e1, e2]
      exact ⟨fun q => ⟨t0, h1 q⟩, fun q => ⟨h2 q, t1⟩⟩
    · have e1 : upd g4 n.toNatClampNeg w j = g4 j := if_neg e
      have e2 : upd g6 n.toNatClampNeg t j = g6 j := if_neg e
      rw [e1, e2]
      exact sp 301 301 j g4 g6 a4 a6 c3
  · intro v f c1 c2 c3 c4
    rw [hfd 36 10 (Or.inl (by decide))] at c1
    rw [hfd 36 f (Or.inl (by decide))]
    exact sl v f c1 c2 c3 c4
  · obtain ⟨z1, z2⟩ := zm_set_sz (c2 := .inr (7, fs.set 5 (.int (n + 1)))) hh3 (by show (fs.set 5 (.int (n + 1))).length = fs.length; rw [List.length_set])
    have e0 : xfd ((((h.set 4 (.inl (0, 301, .inl (upd g4 n.toNatClampNeg w)))).set 5 (.inl (0, 301, .inl (upd g5 n.toNatClampNeg p)))).set 6 (.inl (0, 301, .inl (upd g6 n.toNatClampNeg t)))).set 2 (.inr (7, fs.set 5 (.int (n + 1))))) 36 10 = xfd (((h.set 4 (.inl (0, 301, .inl (upd g4 n.toNatClampNeg w)))).set 5 (.inl (0, 301, .inl (upd g5 n.toNatClampNeg p)))).set 6 (.inl (0, 301, .inl (upd g6 n.toNatClampNeg t)))) 36 10 := xfd_set hh3 (Or.inl (by decide))
    have q1 : xW ((((h.set 4 (.inl (0, 301, .inl (upd g4 n.toNatClampNeg w)))).set 5 (.inl (0, 301, .inl (upd g5 n.toNatClampNeg p)))).set 6 (.inl (0, 301, .inl (upd g6 n.toNatClampNeg t)))).set 2 (.inr (7, fs.set 5 (.int (n + 1))))) = xW (((h.set 4 (.inl (0, 301, .inl (upd g4 n.toNatClampNeg w)))).set 5 (.inl (0, 301, .inl (upd g5 n.toNatClampNeg p)))).set 6 (.inl (0, 301, .inl (upd g6 n.toNatClampNeg t)))) := by
      unfold xW
      rw [z1, z2, e0]
    show xW _ = xW h
    rw [q1, xW_a a62, xW_a a51, xW_a a4]
  · unfold xfd
    rw [xgs hh3, if_pos rfl]
    exact List.getElem?_set_self (by omega)
/-- from it, each of the three contracts -/
theorem xv_note {c : xCo} (hc1 : c.1 = 45) (hms : c.2.2.2.1 = [(2, 5), (4, 0), (5, 0), (6, 0)]) (hcl : ∀ (ρ : List Int) (σ : List Nat) (lc : zm_L) (τ : List Nat) (h : zm_H), xdok ρ σ τ h c.2.1.2.2 → xlk ρ σ c.2.1.1 lc → ∃ (w p t n : Int32), (zm_get lc 0 = some (.ref 2) ∧ zm_get lc 1 = some (.int w) ∧ zm_get lc 2 = some (.int p) ∧ zm_get lc 3 = some (.int t)) ∧ xfd h 2 5 = some (.int n) ∧ (0 ≤ n.toInt ∧ n.toInt ≤ 300) ∧ (0 ≤ w.toInt ∧ w.toInt ≤ 255) ∧ (w.toInt ≠ 0 → n.toInt ≤ 299) ∧ (0 ≤ p.toInt ∧ p.toInt ≤ 300) ∧ (-1 ≤ t.toInt ∧ t.toInt ≤ 10000) ∧ (w.toInt = 1 → t.toInt ≤ 35) ∧ (w.toInt = 2 → 0 ≤ t.toInt) ∧ ∀ (τ' : List Nat) (h' : zm_H), xF (xms [(2, 5), (4, 0), (5, 0), (6, 0)]) τ h τ' h' → xfd h' 2 5 = some (.int (n + 1)) → ∃ q ∈ c.2.2.1, q.1 = none ∧ xdok ρ σ τ' h' q.2) : xV xVV xX xW og c := by
  intro ρ σ τ h lc hH hX hD hl
  obtain ⟨w, p, t, n, ⟨g0, g1, g2, g3⟩, hn, ⟨n0, n1⟩, ⟨w0, w1⟩, hw, ⟨p0, p1⟩, ⟨t0, t1⟩, h1, h2, hq⟩ := hcl ρ σ lc τ h hD hl
  rw [hc1]
  refine zy_sub [(0, .ref 2), (1, .int w), (2, .int p), (3, .int t)] (by simp) (fun q hq => ?_) ?_
  · simp only [List.mem_cons, List.not_mem_nil, or_false] at hq
    rcases hq with rfl | rfl | rfl | rfl
    · exact g0
    · exact g1
    · exact g2
    · exact g3
  · refine (zh_note hH hX hn n0 n1 w0 w1 hw p0 p1 t0 t1 h1 h2).mono (fun r h' hr => ?_)
    obtain ⟨rfl, k1, k2, k3, k4, k5⟩ := hr
    obtain ⟨q, q1, q2, q3⟩ := hq τ h' k3 k5
    refine ⟨τ, k1, k2, by rw [hms]; exact k3, by omega, q, q1, [], [], by rw [List.append_nil, List.append_nil]; exact q3, ?_⟩
    rw [q2]
    trivial
end XNT
