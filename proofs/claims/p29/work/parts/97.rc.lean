/-! Houses, years, lines: piece 2 (made by a program) -/
section XC1
variable {og : Nat → Option zm_C} {τ τ' : List Nat} {h h' : zm_H} {ms : List (Nat × Nat)} {ad : Nat → Nat} {n : Nat} {st dn rf : Nat → Int32} {nr y L : Int32} {wk : Nat → Int32}
/-- those of one roof come under another, as far as k -/
def xrj (rf : Nat → Int32) (w o : Int32) (k : Nat) : Nat → Int32 := fun i => if i < k ∧ rf i = o then w else rf i
theorem xrj_0 {w o : Int32} : xrj rf w o 0 = rf := funext fun i => if_neg (fun z => absurd z.1 (Nat.not_lt_zero i))
theorem xrj_k {w o : Int32} {k : Nat} : xrj rf w o k k = rf k := if_neg (fun z => absurd z.1 (Nat.lt_irrefl k))
theorem xrj_y {w o : Int32} {k : Nat} (e : rf k = o) : upd (xrj rf w o k) k w = xrj rf w o (k + 1) := by
  funext i
  show (if i = k then w else if i < k ∧ rf i = o then w else rf i) = if i < k + 1 ∧ rf i = o then w else rf i
  by_cases c : i = k
  · subst c
    rw [if_pos rfl, if_pos ⟨Nat.lt_succ_self _, e⟩]
  · rw [if_neg c]
    by_cases c2 : i < k ∧ rf i = o
    · rw [if_pos c2, if_pos ⟨by omega, c2.2⟩]
    · rw [if_neg c2, if_neg (fun z => c2 ⟨by omega, z.2⟩)]
theorem xrj_n {w o : Int32} {k : Nat} (e : rf k ≠ o) : xrj rf w o k = xrj rf w o (k + 1) := by
  funext i
  show (if i < k ∧ rf i = o then w else rf i) = if i < k + 1 ∧ rf i = o then w else rf i
  by_cases c : i = k
  · subst c
    rw [if_neg (fun z => absurd z.1 (Nat.lt_irrefl _)), if_neg (fun z => e z.2)]
  · by_cases c2 : i < k ∧ rf i = o
    · rw [if_pos c2, if_pos ⟨by omega, c2.2⟩]
    · rw [if_neg c2, if_neg (fun z => c2 ⟨by omega, z.2⟩)]
theorem xrj_o {w o : Int32} {k i : Nat} (e : rf i ≠ o) : xrj rf w o k i = rf i := if_neg (fun z => e z.2)
theorem zf_x {d : Nat} {a b w o : Int32} : ∀ (m k : Nat) (h : zm_H), k + m = n → xHI xKT xSG τ h → xX τ h → xCXa ad τ h n st dn (xrj rf w o k) nr y L wk → zm_Y og d 29 84 [(0, .ref 0), (1, .int a), (2, .int b), (3, .int w), (4, .int o), (5, .int (Int32.ofNat k))] [] h (xCO τ h 0 [(207, 4)] (fun r => r = some (.int 1)) (fun τ1 h1 => xCX τ1 h1 n st dn (xrj rf w o n) nr y L wk))
  | 0, k, h, hk, hH, hX, hc => by
    have hkn : k = n := by omega
    subst hkn
    obtain ⟨hn, f1, f2, f3, f4, hw, hh, hi⟩ := id hc
    obtain ⟨hn, f1, f2, f3, f4, hw, hh, hi⟩ := id hc
    refine zy_n 2 (mr := zm_m29) rfl (show _ = some (87, [(0, .ref 0), (1, .int a), (2, .int b), (3, .int w), (4, .int o), (5, .int (Int32.ofNat k))], [.ref 0, .int (Int32.ofNat k)]) from rfl) ?_
    refine zk_get (mr := zm_m29) rfl rfl hH (hH.2.2 0 rfl) rfl f1 ?_
    refine zy_b (mr := zm_m29) rfl rfl (show _ = some (zm_ic .ge (Int32.ofNat k) (Int32.ofNat k) 125 93, []) from rfl) ?_
    refine zc_ge (fun _ => ?_) (fun e => absurd (Int32.le_refl _) e)
    refine zy_n 1 (mr := zm_m29) rfl (show _ = some (126, [(0, .ref 0), (1, .int a), (2, .int b), (3, .int w), (4, .int o), (5, .int (Int32.ofNat k))], [.int 1]) from rfl) ?_
    refine zy_r (mr := zm_m29) rfl rfl (show _ = some (some (.int 1)) from rfl) ⟨rfl, τ, hH, hX, Nat.le_add_right _ _, xF_refl _ _ _, ⟨ad, hc⟩⟩
  | m + 1, k, h, hk, hH, hX, hc => by
    have hlk : k < n := by omega
    obtain ⟨hn, f1, f2, f3, f4, hw, hh, hi⟩ := id hc
    have hn16 := hn
    have hjk := (xofn (k := k) (by omega)).1
    obtain ⟨hn, f1, f2, f3, f4, hw, hh, hi⟩ := id hc
    obtain ⟨g1k, g2k, g3k, g4k, g5k⟩ := hh _ hlk
    refine zy_n 2 (mr := zm_m29) rfl (show _ = some (87, [(0, .ref 0), (1, .int a), (2, .int b), (3, .int w), (4, .int o), (5, .int (Int32.ofNat k))], [.ref 0, .int (Int32.ofNat k)]) from rfl) ?_
    refine zk_get (mr := zm_m29) rfl rfl hH (hH.2.2 0 rfl) rfl f1 ?_
    have eN := (xofn (k := n) (by omega)).1
    refine zy_b (mr := zm_m29) rfl rfl (show _ = some (zm_ic .ge (Int32.ofNat k) (Int32.ofNat n) 125 93, []) from rfl) ?_
    refine zc_ge (fun e => absurd e (fun z => by have := Int32.le_iff_toInt_le.mp z; omega)) (fun _ => ?_)
    refine zy_n 1 (mr := zm_m29) rfl (show _ = some (94, [(0, .ref 0), (1, .int a), (2, .int b), (3, .int w), (4, .int o), (5, .int (Int32.ofNat k))], [.ref 0]) from rfl) ?_
    refine zk_get (mr := zm_m29) rfl rfl hH (hH.2.2 0 rfl) rfl (xfo_ref (k := 0) (f := 0) (a := 1) hH rfl rfl rfl) ?_
    refine zy_n 1 (mr := zm_m29) rfl (show _ = some (99, [(0, .ref 0), (1, .int a), (2, .int b), (3, .int w), (4, .int o), (5, .int (Int32.ofNat k))], [.int (Int32.ofNat k), .ref 1]) from rfl) ?_
    refine zk_ald (mr := zm_m29) rfl rfl hH (hH.2.2 1 rfl) rfl rfl g1k hjk ?_
    refine zk_get (mr := zm_m29) rfl rfl hH g2k rfl g4k ?_
    refine zy_n 1 (mr := zm_m29) rfl (show _ = some (105, [(0, .ref 0), (1, .int a), (2, .int b), (3, .int w), (4, .int o), (5, .int (Int32.ofNat k))], [.int o, .int ((xrj rf w o k) k)]) from rfl) ?_
    refine zy_b (mr := zm_m29) rfl rfl (show _ = some (zm_ic .ne ((xrj rf w o k) k) o 119 108, []) from rfl) ?_
    refine zc_ne (fun c2 => ?_) (fun c2 => ?_)
    · rw [xrj_k] at c2
      rw [xrj_n c2] at hc
      have ih := zf_x (d := d) (a := a) (b := b) m (k + 1) h (by omega) hH hX hc
      refine zy_n 2 (mr := zm_m29) rfl (show _ = some (84, [(5, .int ((Int32.ofNat k) + 1)), (0, .ref 0), (1, .int a), (2, .int b), (3, .int w), (4, .int o)], []) from rfl) ?_
      rw [xofs (by omega)]
      exact zy_sub _ (by simp) (fun q hq => by simp only [List.mem_cons, List.not_mem_nil, or_false] at hq; rcases hq with rfl | rfl | rfl | rfl | rfl | rfl <;> rfl) ih
    · rw [xrj_k] at c2
      refine zy_n 1 (mr := zm_m29) rfl (show _ = some (109, [(0, .ref 0), (1, .int a), (2, .int b), (3, .int w), (4, .int o), (5, .int (Int32.ofNat k))], [.ref 0]) from rfl) ?_
      refine zk_get (mr := zm_m29) rfl rfl hH (hH.2.2 0 rfl) rfl (xfo_ref (k := 0) (f := 0) (a := 1) hH rfl rfl rfl) ?_
      refine zy_n 1 (mr := zm_m29) rfl (show _ = some (114, [(0, .ref 0), (1, .int a), (2, .int b), (3, .int w), (4, .int o), (5, .int (Int32.ofNat k))], [.int (Int32.ofNat k), .ref 1]) from rfl) ?_
      refine zk_ald (mr := zm_m29) rfl rfl hH (hH.2.2 1 rfl) rfl rfl g1k hjk ?_
      refine zy_n 1 (mr := zm_m29) rfl (show _ = some (116, [(0, .ref 0), (1, .int a), (2, .int b), (3, .int w), (4, .int o), (5, .int (Int32.ofNat k))], [.int w, .ref ((ad k))]) from rfl) ?_
      refine zk_put (mr := zm_m29) rfl rfl hH hX g2k rfl rfl rfl rfl ⟨_, List.mem_cons_self, ⟨_, rfl, (xb_rng _).1, (xb_rng _).2⟩⟩ ?_
      intro h1 hH1 hX1 hW1 hs1 hg1 hF1
      have hc := xCXa_rf hH hc hlk hg1 hs1
      obtain ⟨hn, f1, f2, f3, f4, hw, hh, hi⟩ := id hc
      obtain ⟨g1k, g2k, g3k, g4k, g5k⟩ := hh _ hlk
      rw [xrj_y c2] at hc
      have ih := zf_x (d := d) (a := a) (b := b) m (k + 1) h1 (by omega) hH1 hX1 hc
      refine zy_n 2 (mr := zm_m29) rfl (show _ = some (84, [(5, .int ((Int32.ofNat k) + 1)), (0, .ref 0), (1, .int a), (2, .int b), (3, .int w), (4, .int o)], []) from rfl) ?_
      rw [xofs (by omega)]
      refine (zy_sub _ (by simp) (fun q hq => by simp only [List.mem_cons, List.not_mem_nil, or_false] at hq; rcases hq with rfl | rfl | rfl | rfl | rfl | rfl <;> rfl) ih).mono (fun r h2 hq => xCO_tr (g1 := 0) (g2 := 0) ((hF1 _ rfl)) (by omega) (Nat.le_refl _) hq)
theorem zf_m {d : Nat} {a b w o : Int32} (hwe : w = rf a.toInt.toNat) (hne : rf a.toInt.toNat ≠ o) (hla : a.toInt.toNat < n) (hja : a.toInt = ((a.toInt.toNat : Nat) : Int)) : ∀ (m k : Nat) (h : zm_H), k + m = n → xHI xKT xSG τ h → xX τ h → xCM h n st dn (xrj rf w o k) nr y L wk → zm_Y og d 197 81 [(0, .ref 55), (1, .int a), (2, .int b), (3, .int o), (4, .int (Int32.ofNat k))] [] h (xCO τ h 0 [(68, 0)] (fun r => r = some (.int 1)) (fun τ1 h1 => xCM h1 n st dn (xrj rf w o n) nr y L wk))
  | 0, k, h, hk, hH, hX, hc => by
    have hkn : k = n := by omega
    subst hkn
    obtain ⟨hn, f1, f2, f3, f4, hw, hh, hz⟩ := id hc
    obtain ⟨hn, f1, f2, f3, f4, hw, hh, hz⟩ := id hc
    refine zy_n 2 (mr := zm_m197) rfl (show _ = some (84, [(0, .ref 55), (1, .int a), (2, .int b), (3, .int o), (4, .int (Int32.ofNat k))], [.ref 55, .int (Int32.ofNat k)]) from rfl) ?_
    refine zk_get (mr := zm_m197) rfl rfl hH (hH.2.2 55 rfl) rfl f1 ?_
    refine zy_b (mr := zm_m197) rfl rfl (show _ = some (zm_ic .ge (Int32.ofNat k) (Int32.ofNat k) 120 90, []) from rfl) ?_
    refine zc_ge (fun _ => ?_) (fun e => absurd (Int32.le_refl _) e)
    refine zy_n 1 (mr := zm_m197) rfl (show _ = some (121, [(0, .ref 55), (1, .int a), (2, .int b), (3, .int o), (4, .int (Int32.ofNat k))], [.int 1]) from rfl) ?_
    refine zy_r (mr := zm_m197) rfl rfl (show _ = some (some (.int 1)) from rfl) ⟨rfl, τ, hH, hX, Nat.le_add_right _ _, xF_refl _ _ _, hc⟩
  | m + 1, k, h, hk, hH, hX, hc => by
    have hlk : k < n := by omega
    obtain ⟨hn, f1, f2, f3, f4, hw, hh, hz⟩ := id hc
    have hn16 := hn
    have hjk := (xofn (k := k) (by omega)).1
    obtain ⟨hn, f1, f2, f3, f4, hw, hh, hz⟩ := id hc
    obtain ⟨g1k, g2k, g3k⟩ := hh _ hlk
    obtain ⟨hn, f1, f2, f3, f4, hw, hh, hz⟩ := id hc
    obtain ⟨g1k, g2k, g3k⟩ := hh _ hlk
    obtain ⟨g1a, g2a, g3a⟩ := hh _ hla
    refine zy_n 2 (mr := zm_m197) rfl (show _ = some (84, [(0, .ref 55), (1, .int a), (2, .int b), (3, .int o), (4, .int (Int32.ofNat k))], [.ref 55, .int (Int32.ofNat k)]) from rfl) ?_
    refine zk_get (mr := zm_m197) rfl rfl hH (hH.2.2 55 rfl) rfl f1 ?_
    have eN := (xofn (k := n) (by omega)).1
    refine zy_b (mr := zm_m197) rfl rfl (show _ = some (zm_ic .ge (Int32.ofNat k) (Int32.ofNat n) 120 90, []) from rfl) ?_
    refine zc_ge (fun e => absurd e (fun z => by have := Int32.le_iff_toInt_le.mp z; omega)) (fun _ => ?_)
    refine zy_n 1 (mr := zm_m197) rfl (show _ = some (91, [(0, .ref 55), (1, .int a), (2, .int b), (3, .int o), (4, .int (Int32.ofNat k))], [.ref 55]) from rfl) ?_
    refine zk_get (mr := zm_m197) rfl rfl hH (hH.2.2 55 rfl) rfl (xfo_ref (k := 55) (f := 23) (a := 68) hH rfl rfl rfl) ?_
    refine zy_n 1 (mr := zm_m197) rfl (show _ = some (96, [(0, .ref 55), (1, .int a), (2, .int b), (3, .int o), (4, .int (Int32.ofNat k))], [.int (Int32.ofNat k), .ref 68]) from rfl) ?_
    refine zk_ild (mr := zm_m197) rfl rfl hH (hH.2.2 68 rfl) rfl g2k hjk ?_
    refine zy_n 1 (mr := zm_m197) rfl (show _ = some (98, [(0, .ref 55), (1, .int a), (2, .int b), (3, .int o), (4, .int (Int32.ofNat k))], [.int o, .int ((xrj rf w o k) k)]) from rfl) ?_
    refine zy_b (mr := zm_m197) rfl rfl (show _ = some (zm_ic .ne ((xrj rf w o k) k) o 114 101, []) from rfl) ?_
    refine zc_ne (fun c2 => ?_) (fun c2 => ?_)
    · rw [xrj_k] at c2
      rw [xrj_n c2] at hc
      have ih := zf_m (d := d) (a := a) (b := b) hwe hne hla hja m (k + 1) h (by omega) hH hX hc
      refine zy_n 2 (mr := zm_m197) rfl (show _ = some (81, [(4, .int ((Int32.ofNat k) + 1)), (0, .ref 55), (1, .int a), (2, .int b), (3, .int o)], []) from rfl) ?_
      rw [xofs (by omega)]
      exact zy_sub _ (by simp) (fun q hq => by simp only [List.mem_cons, List.not_mem_nil, or_false] at hq; rcases hq with rfl | rfl | rfl | rfl | rfl <;> rfl) ih
    · rw [xrj_k] at c2
      refine zy_n 1 (mr := zm_m197) rfl (show _ = some (102, [(0, .ref 55), (1, .int a), (2, .int b), (3, .int o), (4, .int (Int32.ofNat k))], [.ref 55]) from rfl) ?_
      refine zk_get (mr := zm_m197) rfl rfl hH (hH.2.2 55 rfl) rfl (xfo_ref (k := 55) (f := 23) (a := 68) hH rfl rfl rfl) ?_
      refine zy_n 2 (mr := zm_m197) rfl (show _ = some (108, [(0, .ref 55), (1, .int a), (2, .int b), (3, .int o), (4, .int (Int32.ofNat k))], [.ref 55, .int (Int32.ofNat k), .ref 68]) from rfl) ?_
      refine zk_get (mr := zm_m197) rfl rfl hH (hH.2.2 55 rfl) rfl (xfo_ref (k := 55) (f := 23) (a := 68) hH rfl rfl rfl) ?_
      refine zy_n 1 (mr := zm_m197) rfl (show _ = some (112, [(0, .ref 55), (1, .int a), (2, .int b), (3, .int o), (4, .int (Int32.ofNat k))], [.int a, .ref 68, .int (Int32.ofNat k), .ref 68]) from rfl) ?_
      refine zk_ild (mr := zm_m197) rfl rfl hH (hH.2.2 68 rfl) rfl g2a hja ?_
      rw [xrj_o hne, ← hwe]
      refine zk_ist (mr := zm_m197) rfl rfl hH hX (hH.2.2 68 rfl) rfl rfl hjk (by omega) List.mem_cons_self ⟨_, rfl, (xb_rng _).1, (xb_rng _).2⟩ ⟨by show (0 : Int) ≤ _; omega, by show _ ≤ (15 : Int); omega, Or.inl rfl⟩ ?_
      intro h1 hH1 hX1 hW1 hs1 hg1 hF1
      have hc := xCM_rf hc hg1 hs1
      obtain ⟨hn, f1, f2, f3, f4, hw, hh, hz⟩ := id hc
      obtain ⟨g1k, g2k, g3k⟩ := hh _ hlk
      obtain ⟨g1a, g2a, g3a⟩ := hh _ hla
      rw [xrj_y c2] at hc
      have ih := zf_m (d := d) (a := a) (b := b) hwe hne hla hja m (k + 1) h1 (by omega) hH1 hX1 hc
      refine zy_n 2 (mr := zm_m197) rfl (show _ = some (81, [(4, .int ((Int32.ofNat k) + 1)), (0, .ref 55), (1, .int a), (2, .int b), (3, .int o)], []) from rfl) ?_
      rw [xofs (by omega)]
      refine (zy_sub _ (by simp) (fun q hq => by simp only [List.mem_cons, List.not_mem_nil, or_false] at hq; rcases hq with rfl | rfl | rfl | rfl | rfl <;> rfl) ih).mono (fun r h2 hq => xCO_tr (g1 := 0) (g2 := 0) ((hF1 _ rfl)) (by omega) (Nat.le_refl _) hq)
theorem xf_x1 {d : Nat} {a b : Int32} (hH : xHI xKT xSG τ h) (hX : xX τ h) (hc : xCXa ad τ h n st dn rf nr y L wk) (hu : ¬ xupb n dn a) : zm_Y og (d + 3) 29 0 [(0, .ref 0), (1, .int a), (2, .int b)] [] h (xCO τ h 0 [(0, 2), (36, 9), (207, 4)] (fun r => r = some (.int (-2))) (fun τ1 h1 => xCX τ1 h1 n st dn rf nr y L wk)) := by
  obtain ⟨hn, f1, f2, f3, f4, hw, hh, hi⟩ := id hc
  refine zy_n 2 (mr := zm_m29) rfl (show _ = some (2, [(0, .ref 0), (1, .int a), (2, .int b)], [.int a, .ref 0]) from rfl) ?_
  refine zy_c (mr := zm_m29) (mc := zm_m17) rfl rfl (zk_cx (A := [.int a]) hH rfl rfl) rfl rfl ?_
  refine (zh_stE hH hc).mono (fun q h' hq => ?_)
  obtain ⟨hez, rfl⟩ := hq
  rw [hez]
  rw [if_neg hu]
  refine zy_b (mr := zm_m29) rfl rfl (show _ = some (21, []) from rfl) ?_
  refine zy_n 1 (mr := zm_m29) rfl (show _ = some (23, [(0, .ref 0), (1, .int a), (2, .int b)], [.int (-2)]) from rfl) ?_
  refine zy_r (mr := zm_m29) rfl rfl (show _ = some (some (.int (-2))) from rfl) ⟨rfl, τ, hH, hX, Nat.le_add_right _ _, xF_refl _ _ _, ⟨ad, hc⟩⟩
theorem xf_x2 {d : Nat} {a b : Int32} (hH : xHI xKT xSG τ h) (hX : xX τ h) (hc : xCXa ad τ h n st dn rf nr y L wk) (hu : xupb n dn a) (hv : ¬ xupb n dn b) : zm_Y og (d + 3) 29 0 [(0, .ref 0), (1, .int a), (2, .int b)] [] h (xCO τ h 0 [(0, 2), (36, 9), (207, 4)] (fun r => r = some (.int (-2))) (fun τ1 h1 => xCX τ1 h1 n st dn rf nr y L wk)) := by
  obtain ⟨hn, f1, f2, f3, f4, hw, hh, hi⟩ := id hc
  refine zy_n 2 (mr := zm_m29) rfl (show _ = some (2, [(0, .ref 0), (1, .int a), (2, .int b)], [.int a, .ref 0]) from rfl) ?_
  refine zy_c (mr := zm_m29) (mc := zm_m17) rfl rfl (zk_cx (A := [.int a]) hH rfl rfl) rfl rfl ?_
  refine (zh_stE hH hc).mono (fun q h' hq => ?_)
  obtain ⟨hez, rfl⟩ := hq
  rw [hez]
  rw [if_pos hu]
  refine zy_b (mr := zm_m29) rfl rfl (show _ = some (8, []) from rfl) ?_
  refine zy_n 2 (mr := zm_m29) rfl (show _ = some (10, [(0, .ref 0), (1, .int a), (2, .int b)], [.int b, .ref 0]) from rfl) ?_
  refine zy_c (mr := zm_m29) (mc := zm_m17) rfl rfl (zk_cx (A := [.int b]) hH rfl rfl) rfl rfl ?_
  refine (zh_stE hH hc).mono (fun q h' hq => ?_)
  obtain ⟨hez, rfl⟩ := hq
  rw [hez]
  rw [if_neg hv]
  refine zy_b (mr := zm_m29) rfl rfl (show _ = some (21, []) from rfl) ?_
  refine zy_n 1 (mr := zm_m29) rfl (show _ = some (23, [(0, .ref 0), (1, .int a), (2, .int b)], [.int (-2)]) from rfl) ?_
  refine zy_r (mr := zm_m29) rfl rfl (show _ = some (some (.int (-2))) from rfl) ⟨rfl, τ, hH, hX, Nat.le_add_right _ _, xF_refl _ _ _, ⟨ad, hc⟩⟩
theorem xf_x3 {d : Nat} {a b : Int32} (hH : xHI xKT xSG τ h) (hX : xX τ h) (hc : xCXa ad τ h n st dn rf nr y L wk) (hu : xupb n dn a) (hv : xupb n dn b) (he : a = b) : zm_Y og (d + 3) 29 0 [(0, .ref 0), (1, .int a), (2, .int b)] [] h (xCO τ h 0 [(0, 2), (36, 9), (207, 4)] (fun r => r = some (.int (-2))) (fun τ1 h1 => xCX τ1 h1 n st dn rf nr y L wk)) := by
  obtain ⟨hn, f1, f2, f3, f4, hw, hh, hi⟩ := id hc
  refine zy_n 2 (mr := zm_m29) rfl (show _ = some (2, [(0, .ref 0), (1, .int a), (2, .int b)], [.int a, .ref 0]) from rfl) ?_
  refine zy_c (mr := zm_m29) (mc := zm_m17) rfl rfl (zk_cx (A := [.int a]) hH rfl rfl) rfl rfl ?_
  refine (zh_stE hH hc).mono (fun q h' hq => ?_)
  obtain ⟨hez, rfl⟩ := hq
  rw [hez]
  rw [if_pos hu]
  refine zy_b (mr := zm_m29) rfl rfl (show _ = some (8, []) from rfl) ?_
  refine zy_n 2 (mr := zm_m29) rfl (show _ = some (10, [(0, .ref 0), (1, .int a), (2, .int b)], [.int b, .ref 0]) from rfl) ?_
  refine zy_c (mr := zm_m29) (mc := zm_m17) rfl rfl (zk_cx (A := [.int b]) hH rfl rfl) rfl rfl ?_
  refine (zh_stE hH hc).mono (fun q h' hq => ?_)
  obtain ⟨hez, rfl⟩ := hq
  rw [hez]
  rw [if_pos hv]
  refine zy_b (mr := zm_m29) rfl rfl (show _ = some (16, []) from rfl) ?_
  refine zy_n 2 (mr := zm_m29) rfl (show _ = some (18, [(0, .ref 0), (1, .int a), (2, .int b)], [.int b, .int a]) from rfl) ?_
  refine zy_b (mr := zm_m29) rfl rfl (show _ = some (zm_ic .ne a b 24 21, []) from rfl) ?_
  refine zc_ne (fun e => absurd he e) (fun _ => ?_)
  refine zy_n 1 (mr := zm_m29) rfl (show _ = some (23, [(0, .ref 0), (1, .int a), (2, .int b)], [.int (-2)]) from rfl) ?_
  refine zy_r (mr := zm_m29) rfl rfl (show _ = some (some (.int (-2))) from rfl) ⟨rfl, τ, hH, hX, Nat.le_add_right _ _, xF_refl _ _ _, ⟨ad, hc⟩⟩
theorem xf_xp {d : Nat} {a b : Int32} (hH : xHI xKT xSG τ h) (hX : xX τ h) (hc : xCXa ad τ h n st dn rf nr y L wk) (hu : xupb n dn a) (hv : xupb n dn b) (he : ¬ a = b) (hr : rf a.toInt.toNat = rf b.toInt.toNat) : zm_Y og (d + 3) 29 0 [(0, .ref 0), (1, .int a), (2, .int b)] [] h (xCO τ h 0 [(0, 2), (36, 9), (207, 4)] (fun r => r = some (.int 0)) (fun τ1 h1 => xCX τ1 h1 n st dn (upd rf a.toInt.toNat nr) (nr + 1) y L wk)) := by
  obtain ⟨hn, f1, f2, f3, f4, hw, hh, hi⟩ := id hc
  have hla : a.toInt.toNat < n := by omega
  have hja := xnat a (hu).1
  obtain ⟨hn, f1, f2, f3, f4, hw, hh, hi⟩ := id hc
  obtain ⟨g1a, g2a, g3a, g4a, g5a⟩ := hh _ hla
  have hlb : b.toInt.toNat < n := by omega
  have hjb := xnat b (hv).1
  obtain ⟨hn, f1, f2, f3, f4, hw, hh, hi⟩ := id hc
  obtain ⟨g1a, g2a, g3a, g4a, g5a⟩ := hh _ hla
  obtain ⟨g1b, g2b, g3b, g4b, g5b⟩ := hh _ hlb
  refine zy_n 2 (mr := zm_m29) rfl (show _ = some (2, [(0, .ref 0), (1, .int a), (2, .int b)], [.int a, .ref 0]) from rfl) ?_
  refine zy_c (mr := zm_m29) (mc := zm_m17) rfl rfl (zk_cx (A := [.int a]) hH rfl rfl) rfl rfl ?_
  refine (zh_stE hH hc).mono (fun q h' hq => ?_)
  obtain ⟨hez, rfl⟩ := hq
  rw [hez]
  rw [if_pos hu]
  refine zy_b (mr := zm_m29) rfl rfl (show _ = some (8, []) from rfl) ?_
  refine zy_n 2 (mr := zm_m29) rfl (show _ = some (10, [(0, .ref 0), (1, .int a), (2, .int b)], [.int b, .ref 0]) from rfl) ?_
  refine zy_c (mr := zm_m29) (mc := zm_m17) rfl rfl (zk_cx (A := [.int b]) hH rfl rfl) rfl rfl ?_
  refine (zh_stE hH hc).mono (fun q h' hq => ?_)
  obtain ⟨hez, rfl⟩ := hq
  rw [hez]
  rw [if_pos hv]
  refine zy_b (mr := zm_m29) rfl rfl (show _ = some (16, []) from rfl) ?_
  refine zy_n 2 (mr := zm_m29) rfl (show _ = some (18, [(0, .ref 0), (1, .int a), (2, .int b)], [.int b, .int a]) from rfl) ?_
  refine zy_b (mr := zm_m29) rfl rfl (show _ = some (zm_ic .ne a b 24 21, []) from rfl) ?_
  refine zc_ne (fun _ => ?_) (fun e => absurd e he)
  refine zy_n 1 (mr := zm_m29) rfl (show _ = some (25, [(0, .ref 0), (1, .int a), (2, .int b)], [.ref 0]) from rfl) ?_
  refine zk_get (mr := zm_m29) rfl rfl hH (hH.2.2 0 rfl) rfl (xfo_ref (k := 0) (f := 10) (a := 36) hH rfl rfl rfl) ?_
  refine zy_n 1 (mr := zm_m29) rfl (show _ = some (29, [(0, .ref 0), (1, .int a), (2, .int b)], [.int 0, .ref 36]) from rfl) ?_
  refine zk_put (mr := zm_m29) rfl rfl hH hX (hH.2.2 36 rfl) rfl rfl rfl rfl ⟨_, List.mem_cons_self, ⟨_, rfl, by decide, by decide⟩⟩ ?_
  intro h1 hH1 hX1 hW1 hs1 hg1 hF1
  have hc := xCXa_F hH (hF1 [(36, 9)] rfl) rfl hc
  obtain ⟨hn, f1, f2, f3, f4, hw, hh, hi⟩ := id hc
  obtain ⟨g1a, g2a, g3a, g4a, g5a⟩ := hh _ hla
  obtain ⟨g1b, g2b, g3b, g4b, g5b⟩ := hh _ hlb
  refine zy_n 1 (mr := zm_m29) rfl (show _ = some (33, [(0, .ref 0), (1, .int a), (2, .int b)], [.ref 0]) from rfl) ?_
  refine zk_get (mr := zm_m29) rfl rfl hH1 (hH1.2.2 0 rfl) rfl (xfo_ref (k := 0) (f := 0) (a := 1) hH1 rfl rfl rfl) ?_
  refine zy_n 1 (mr := zm_m29) rfl (show _ = some (37, [(0, .ref 0), (1, .int a), (2, .int b)], [.int a, .ref 1]) from rfl) ?_
  refine zk_ald (mr := zm_m29) rfl rfl hH1 (hH1.2.2 1 rfl) rfl rfl g1a hja ?_
  refine zk_get (mr := zm_m29) rfl rfl hH1 g2a rfl g4a ?_
  refine zy_n 2 (mr := zm_m29) rfl (show _ = some (43, [(3, .int (rf a.toInt.toNat)), (0, .ref 0), (1, .int a), (2, .int b)], [.ref 0]) from rfl) ?_
  refine zk_get (mr := zm_m29) rfl rfl hH1 (hH1.2.2 0 rfl) rfl (xfo_ref (k := 0) (f := 0) (a := 1) hH1 rfl rfl rfl) ?_
  refine zy_n 1 (mr := zm_m29) rfl (show _ = some (47, [(3, .int (rf a.toInt.toNat)), (0, .ref 0), (1, .int a), (2, .int b)], [.int b, .ref 1]) from rfl) ?_
  refine zk_ald (mr := zm_m29) rfl rfl hH1 (hH1.2.2 1 rfl) rfl rfl g1b hjb ?_
  refine zk_get (mr := zm_m29) rfl rfl hH1 g2b rfl g4b ?_
  refine zy_n 3 (mr := zm_m29) rfl (show _ = some (56, [(4, .int (rf b.toInt.toNat)), (3, .int (rf a.toInt.toNat)), (0, .ref 0), (1, .int a), (2, .int b)], [.int (rf b.toInt.toNat), .int (rf a.toInt.toNat)]) from rfl) ?_
  refine zy_b (mr := zm_m29) rfl rfl (show _ = some (zm_ic .ne (rf a.toInt.toNat) (rf b.toInt.toNat) 81 59, []) from rfl) ?_
  refine zc_ne (fun e => absurd hr e) (fun _ => ?_)
  refine zy_n 1 (mr := zm_m29) rfl (show _ = some (60, [(4, .int (rf b.toInt.toNat)), (3, .int (rf a.toInt.toNat)), (0, .ref 0), (1, .int a), (2, .int b)], [.ref 0]) from rfl) ?_
  refine zk_get (mr := zm_m29) rfl rfl hH1 (hH1.2.2 0 rfl) rfl (xfo_ref (k := 0) (f := 0) (a := 1) hH1 rfl rfl rfl) ?_
  refine zy_n 1 (mr := zm_m29) rfl (show _ = some (64, [(4, .int (rf b.toInt.toNat)), (3, .int (rf a.toInt.toNat)), (0, .ref 0), (1, .int a), (2, .int b)], [.int a, .ref 1]) from rfl) ?_
  refine zk_ald (mr := zm_m29) rfl rfl hH1 (hH1.2.2 1 rfl) rfl rfl g1a hja ?_
  refine zy_n 2 (mr := zm_m29) rfl (show _ = some (67, [(4, .int (rf b.toInt.toNat)), (3, .int (rf a.toInt.toNat)), (0, .ref 0), (1, .int a), (2, .int b)], [.ref 0, .ref 0, .ref ((ad a.toInt.toNat))]) from rfl) ?_
  refine zk_get (mr := zm_m29) rfl rfl hH1 (hH1.2.2 0 rfl) rfl f2 ?_
  refine zy_n 3 (mr := zm_m29) rfl (show _ = some (73, [(4, .int (rf b.toInt.toNat)), (3, .int (rf a.toInt.toNat)), (0, .ref 0), (1, .int a), (2, .int b)], [.int (nr + 1), .ref 0, .int nr, .ref ((ad a.toInt.toNat))]) from rfl) ?_
  refine zk_put (mr := zm_m29) rfl rfl hH1 hX1 (hH1.2.2 0 rfl) rfl rfl rfl rfl ⟨_, List.mem_cons_self, ⟨_, rfl, (xb_rng _).1, (xb_rng _).2⟩⟩ ?_
  intro h2 hH2 hX2 hW2 hs2 hg2 hF2
  have hc := xCXa_nr hH1 hc hg2 hs2
  obtain ⟨hn, f1, f2, f3, f4, hw, hh, hi⟩ := id hc
  obtain ⟨g1a, g2a, g3a, g4a, g5a⟩ := hh _ hla
  obtain ⟨g1b, g2b, g3b, g4b, g5b⟩ := hh _ hlb
  refine zk_put (mr := zm_m29) rfl rfl hH2 hX2 g2a rfl rfl rfl rfl ⟨_, List.mem_cons_self, ⟨_, rfl, (xb_rng _).1, (xb_rng _).2⟩⟩ ?_
  intro h3 hH3 hX3 hW3 hs3 hg3 hF3
  have hc := xCXa_rf hH2 hc hla hg3 hs3
  obtain ⟨hn, f1, f2, f3, f4, hw, hh, hi⟩ := id hc
  obtain ⟨g1a, g2a, g3a, g4a, g5a⟩ := hh _ hla
  obtain ⟨g1b, g2b, g3b, g4b, g5b⟩ := hh _ hlb
  refine zy_n 1 (mr := zm_m29) rfl (show _ = some (80, [(4, .int (rf b.toInt.toNat)), (3, .int (rf a.toInt.toNat)), (0, .ref 0), (1, .int a), (2, .int b)], [.int 0]) from rfl) ?_
  refine zy_r (mr := zm_m29) rfl rfl (show _ = some (some (.int 0)) from rfl) ⟨rfl, τ, hH3, hX3, by omega, (xF_trans (hF1 _ rfl) (xF_trans (hF2 _ rfl) (hF3 _ rfl))), ⟨ad, hc⟩⟩
theorem xf_xj {d : Nat} {a b : Int32} (hH : xHI xKT xSG τ h) (hX : xX τ h) (hc : xCXa ad τ h n st dn rf nr y L wk) (hu : xupb n dn a) (hv : xupb n dn b) (he : ¬ a = b) (hr : ¬ rf a.toInt.toNat = rf b.toInt.toNat) : zm_Y og (d + 3) 29 0 [(0, .ref 0), (1, .int a), (2, .int b)] [] h (xCO τ h 0 [(0, 2), (36, 9), (207, 4)] (fun r => r = some (.int 1)) (fun τ1 h1 => xCX τ1 h1 n st dn (xrj rf (rf a.toInt.toNat) (rf b.toInt.toNat) n) nr y L wk)) := by
  obtain ⟨hn, f1, f2, f3, f4, hw, hh, hi⟩ := id hc
  have hla : a.toInt.toNat < n := by omega
  have hja := xnat a (hu).1
  obtain ⟨hn, f1, f2, f3, f4, hw, hh, hi⟩ := id hc
  obtain ⟨g1a, g2a, g3a, g4a, g5a⟩ := hh _ hla
  have hlb : b.toInt.toNat < n := by omega
  have hjb := xnat b (hv).1
  obtain ⟨hn, f1, f2, f3, f4, hw, hh, hi⟩ := id hc
  obtain ⟨g1a, g2a, g3a, g4a, g5a⟩ := hh _ hla
  obtain ⟨g1b, g2b, g3b, g4b, g5b⟩ := hh _ hlb
  refine zy_n 2 (mr := zm_m29) rfl (show _ = some (2, [(0, .ref 0), (1, .int a), (2, .int b)], [.int a, .ref 0]) from rfl) ?_
  refine zy_c (mr := zm_m29) (mc := zm_m17) rfl rfl (zk_cx (A := [.int a]) hH rfl rfl) rfl rfl ?_
  refine (zh_stE hH hc).mono (fun q h' hq => ?_)
  obtain ⟨hez, rfl⟩ := hq
  rw [hez]
  rw [if_pos hu]
  refine zy_b (mr := zm_m29) rfl rfl (show _ = some (8, []) from rfl) ?_
  refine zy_n 2 (mr := zm_m29) rfl (show _ = some (10, [(0, .ref 0), (1, .int a), (2, .int b)], [.int b, .ref 0]) from rfl) ?_
  refine zy_c (mr := zm_m29) (mc := zm_m17) rfl rfl (zk_cx (A := [.int b]) hH rfl rfl) rfl rfl ?_
  refine (zh_stE hH hc).mono (fun q h' hq => ?_)
  obtain ⟨hez, rfl⟩ := hq
  rw [hez]
  rw [if_pos hv]
  refine zy_b (mr := zm_m29) rfl rfl (show _ = some (16, []) from rfl) ?_
  refine zy_n 2 (mr := zm_m29) rfl (show _ = some (18, [(0, .ref 0), (1, .int a), (2, .int b)], [.int b, .int a]) from rfl) ?_
  refine zy_b (mr := zm_m29) rfl rfl (show _ = some (zm_ic .ne a b 24 21, []) from rfl) ?_
  refine zc_ne (fun _ => ?_) (fun e => absurd e he)
  refine zy_n 1 (mr := zm_m29) rfl (show _ = some (25, [(0, .ref 0), (1, .int a), (2, .int b)], [.ref 0]) from rfl) ?_
  refine zk_get (mr := zm_m29) rfl rfl hH (hH.2.2 0 rfl) rfl (xfo_ref (k := 0) (f := 10) (a := 36) hH rfl rfl rfl) ?_
  refine zy_n 1 (mr := zm_m29) rfl (show _ = some (29, [(0, .ref 0), (1, .int a), (2, .int b)], [.int 0, .ref 36]) from rfl) ?_
  refine zk_put (mr := zm_m29) rfl rfl hH hX (hH.2.2 36 rfl) rfl rfl rfl rfl ⟨_, List.mem_cons_self, ⟨_, rfl, by decide, by decide⟩⟩ ?_
  intro h1 hH1 hX1 hW1 hs1 hg1 hF1
  have hc := xCXa_F hH (hF1 [(36, 9)] rfl) rfl hc
  obtain ⟨hn, f1, f2, f3, f4, hw, hh, hi⟩ := id hc
  obtain ⟨g1a, g2a, g3a, g4a, g5a⟩ := hh _ hla
  obtain ⟨g1b, g2b, g3b, g4b, g5b⟩ := hh _ hlb
  refine zy_n 1 (mr := zm_m29) rfl (show _ = some (33, [(0, .ref 0), (1, .int a), (2, .int b)], [.ref 0]) from rfl) ?_
  refine zk_get (mr := zm_m29) rfl rfl hH1 (hH1.2.2 0 rfl) rfl (xfo_ref (k := 0) (f := 0) (a := 1) hH1 rfl rfl rfl) ?_
  refine zy_n 1 (mr := zm_m29) rfl (show _ = some (37, [(0, .ref 0), (1, .int a), (2, .int b)], [.int a, .ref 1]) from rfl) ?_
  refine zk_ald (mr := zm_m29) rfl rfl hH1 (hH1.2.2 1 rfl) rfl rfl g1a hja ?_
  refine zk_get (mr := zm_m29) rfl rfl hH1 g2a rfl g4a ?_
  refine zy_n 2 (mr := zm_m29) rfl (show _ = some (43, [(3, .int (rf a.toInt.toNat)), (0, .ref 0), (1, .int a), (2, .int b)], [.ref 0]) from rfl) ?_
  refine zk_get (mr := zm_m29) rfl rfl hH1 (hH1.2.2 0 rfl) rfl (xfo_ref (k := 0) (f := 0) (a := 1) hH1 rfl rfl rfl) ?_
  refine zy_n 1 (mr := zm_m29) rfl (show _ = some (47, [(3, .int (rf a.toInt.toNat)), (0, .ref 0), (1, .int a), (2, .int b)], [.int b, .ref 1]) from rfl) ?_
  refine zk_ald (mr := zm_m29) rfl rfl hH1 (hH1.2.2 1 rfl) rfl rfl g1b hjb ?_
  refine zk_get (mr := zm_m29) rfl rfl hH1 g2b rfl g4b ?_
  refine zy_n 3 (mr := zm_m29) rfl (show _ = some (56, [(4, .int (rf b.toInt.toNat)), (3, .int (rf a.toInt.toNat)), (0, .ref 0), (1, .int a), (2, .int b)], [.int (rf b.toInt.toNat), .int (rf a.toInt.toNat)]) from rfl) ?_
  refine zy_b (mr := zm_m29) rfl rfl (show _ = some (zm_ic .ne (rf a.toInt.toNat) (rf b.toInt.toNat) 81 59, []) from rfl) ?_
  refine zc_ne (fun _ => ?_) (fun e => absurd e hr)
  refine zy_n 2 (mr := zm_m29) rfl (show _ = some (84, [(5, .int 0), (4, .int (rf b.toInt.toNat)), (3, .int (rf a.toInt.toNat)), (0, .ref 0), (1, .int a), (2, .int b)], []) from rfl) ?_
  have hc : xCXa ad τ h1 n st dn (xrj rf (rf a.toInt.toNat) (rf b.toInt.toNat) 0) nr y L wk := by rw [xrj_0]; exact hc
  refine (zy_sub [(0, .ref 0), (1, .int a), (2, .int b), (3, .int (rf a.toInt.toNat)), (4, .int (rf b.toInt.toNat)), (5, .int (Int32.ofNat 0))] (by simp) (fun q hq => by simp only [List.mem_cons, List.not_mem_nil, or_false] at hq; rcases hq with rfl | rfl | rfl | rfl | rfl | rfl <;> rfl) (zf_x n 0 h1 (by omega) hH1 hX1 hc)).mono (fun r h2 hq => xCO_tr (g1 := 0) (g2 := 0) ((hF1 _ rfl)) (by omega) (Nat.le_refl _) ?_)
  obtain ⟨p, τ2, a1, a2, a3, a4, a5⟩ := hq
  exact ⟨p, τ2, a1, a2, a3, xF_weak a4 (fun k f e => by revert e; simp [xms]; omega), a5⟩
theorem xf_m1 {d : Nat} {a b : Int32} (hH : xHI xKT xSG τ h) (hX : xX τ h) (hc : xCM h n st dn rf nr y L wk) (hu : ¬ xupb n dn a) : zm_Y og (d + 3) 197 0 [(0, .ref 55), (1, .int a), (2, .int b)] [] h (xCO τ h 0 [(55, 0), (55, 10), (55, 82), (68, 0)] (fun r => r = some (.int (-2))) (fun τ1 h1 => xCM h1 n st dn rf nr y L wk)) := by
  obtain ⟨hn, f1, f2, f3, f4, hw, hh, hz⟩ := id hc
  refine zy_n 2 (mr := zm_m197) rfl (show _ = some (2, [(0, .ref 55), (1, .int a), (2, .int b)], [.int 0, .ref 55]) from rfl) ?_
  refine zk_put (mr := zm_m197) rfl rfl hH hX (hH.2.2 55 rfl) rfl rfl rfl rfl ⟨_, List.mem_cons_self, ⟨_, rfl, by decide, by decide⟩⟩ ?_
  intro h1 hH1 hX1 hW1 hs1 hg1 hF1
  have hc := xCM_F hH (hF1 [(55, 0)] rfl) rfl hc
  obtain ⟨hn, f1, f2, f3, f4, hw, hh, hz⟩ := id hc
  refine zy_n 2 (mr := zm_m197) rfl (show _ = some (7, [(0, .ref 55), (1, .int a), (2, .int b)], [.int a, .ref 55]) from rfl) ?_
  refine zy_c (mr := zm_m197) (mc := zm_m192) rfl rfl (zk_cm (A := [.int a]) hH1 rfl rfl) rfl rfl ?_
  refine (zh_muE hH1 hc).mono (fun q h' hq => ?_)
  obtain ⟨hez, rfl⟩ := hq
  rw [hez]
  rw [if_neg hu]
  refine zy_b (mr := zm_m197) rfl rfl (show _ = some (26, []) from rfl) ?_
  refine zy_n 1 (mr := zm_m197) rfl (show _ = some (28, [(0, .ref 55), (1, .int a), (2, .int b)], [.int (-2)]) from rfl) ?_
  refine zy_r (mr := zm_m197) rfl rfl (show _ = some (some (.int (-2))) from rfl) ⟨rfl, τ, hH1, hX1, by omega, (hF1 _ rfl), hc⟩
theorem xf_m2 {d : Nat} {a b : Int32} (hH : xHI xKT xSG τ h) (hX : xX τ h) (hc : xCM h n st dn rf nr y L wk) (hu : xupb n dn a) (hv : ¬ xupb n dn b) : zm_Y og (d + 3) 197 0 [(0, .ref 55), (1, .int a), (2, .int b)] [] h (xCO τ h 0 [(55, 0), (55, 10), (55, 82), (68, 0)] (fun r => r = some (.int (-2))) (fun τ1 h1 => xCM h1 n st dn rf nr y L wk)) := by
  obtain ⟨hn, f1, f2, f3, f4, hw, hh, hz⟩ := id hc
  refine zy_n 2 (mr := zm_m197) rfl (show _ = some (2, [(0, .ref 55), (1, .int a), (2, .int b)], [.int 0, .ref 55]) from rfl) ?_
  refine zk_put (mr := zm_m197) rfl rfl hH hX (hH.2.2 55 rfl) rfl rfl rfl rfl ⟨_, List.mem_cons_self, ⟨_, rfl, by decide, by decide⟩⟩ ?_
  intro h1 hH1 hX1 hW1 hs1 hg1 hF1
  have hc := xCM_F hH (hF1 [(55, 0)] rfl) rfl hc
  obtain ⟨hn, f1, f2, f3, f4, hw, hh, hz⟩ := id hc
  refine zy_n 2 (mr := zm_m197) rfl (show _ = some (7, [(0, .ref 55), (1, .int a), (2, .int b)], [.int a, .ref 55]) from rfl) ?_
  refine zy_c (mr := zm_m197) (mc := zm_m192) rfl rfl (zk_cm (A := [.int a]) hH1 rfl rfl) rfl rfl ?_
  refine (zh_muE hH1 hc).mono (fun q h' hq => ?_)
  obtain ⟨hez, rfl⟩ := hq
  rw [hez]
  rw [if_pos hu]
  refine zy_b (mr := zm_m197) rfl rfl (show _ = some (13, []) from rfl) ?_
  refine zy_n 2 (mr := zm_m197) rfl (show _ = some (15, [(0, .ref 55), (1, .int a), (2, .int b)], [.int b, .ref 55]) from rfl) ?_
  refine zy_c (mr := zm_m197) (mc := zm_m192) rfl rfl (zk_cm (A := [.int b]) hH1 rfl rfl) rfl rfl ?_
  refine (zh_muE hH1 hc).mono (fun q h' hq => ?_)
  obtain ⟨hez, rfl⟩ := hq
  rw [hez]
  rw [if_neg hv]
  refine zy_b (mr := zm_m197) rfl rfl (show _ = some (26, []) from rfl) ?_
  refine zy_n 1 (mr := zm_m197) rfl (show _ = some (28, [(0, .ref 55), (1, .int a), (2, .int b)], [.int (-2)]) from rfl) ?_
  refine zy_r (mr := zm_m197) rfl rfl (show _ = some (some (.int (-2))) from rfl) ⟨rfl, τ, hH1, hX1, by omega, (hF1 _ rfl), hc⟩
theorem xf_m3 {d : Nat} {a b : Int32} (hH : xHI xKT xSG τ h) (hX : xX τ h) (hc : xCM h n st dn rf nr y L wk) (hu : xupb n dn a) (hv : xupb n dn b) (he : a = b) : zm_Y og (d + 3) 197 0 [(0, .ref 55), (1, .int a), (2, .int b)] [] h (xCO τ h 0 [(55, 0), (55, 10), (55, 82), (68, 0)] (fun r => r = some (.int (-2))) (fun τ1 h1 => xCM h1 n st dn rf nr y L wk)) := by
  obtain ⟨hn, f1, f2, f3, f4, hw, hh, hz⟩ := id hc
  refine zy_n 2 (mr := zm_m197) rfl (show _ = some (2, [(0, .ref 55), (1, .int a), (2, .int b)], [.int 0, .ref 55]) from rfl) ?_
  refine zk_put (mr := zm_m197) rfl rfl hH hX (hH.2.2 55 rfl) rfl rfl rfl rfl ⟨_, List.mem_cons_self, ⟨_, rfl, by decide, by decide⟩⟩ ?_
  intro h1 hH1 hX1 hW1 hs1 hg1 hF1
  have hc := xCM_F hH (hF1 [(55, 0)] rfl) rfl hc
  obtain ⟨hn, f1, f2, f3, f4, hw, hh, hz⟩ := id hc
  refine zy_n 2 (mr := zm_m197) rfl (show _ = some (7, [(0, .ref 55), (1, .int a), (2, .int b)], [.int a, .ref 55]) from rfl) ?_
  refine zy_c (mr := zm_m197) (mc := zm_m192) rfl rfl (zk_cm (A := [.int a]) hH1 rfl rfl) rfl rfl ?_
  refine (zh_muE hH1 hc).mono (fun q h' hq => ?_)
  obtain ⟨hez, rfl⟩ := hq
  rw [hez]
  rw [if_pos hu]
  refine zy_b (mr := zm_m197) rfl rfl (show _ = some (13, []) from rfl) ?_
  refine zy_n 2 (mr := zm_m197) rfl (show _ = some (15, [(0, .ref 55), (1, .int a), (2, .int b)], [.int b, .ref 55]) from rfl) ?_
  refine zy_c (mr := zm_m197) (mc := zm_m192) rfl rfl (zk_cm (A := [.int b]) hH1 rfl rfl) rfl rfl ?_
  refine (zh_muE hH1 hc).mono (fun q h' hq => ?_)
  obtain ⟨hez, rfl⟩ := hq
  rw [hez]
  rw [if_pos hv]
  refine zy_b (mr := zm_m197) rfl rfl (show _ = some (21, []) from rfl) ?_
  refine zy_n 2 (mr := zm_m197) rfl (show _ = some (23, [(0, .ref 55), (1, .int a), (2, .int b)], [.int b, .int a]) from rfl) ?_
  refine zy_b (mr := zm_m197) rfl rfl (show _ = some (zm_ic .ne a b 29 26, []) from rfl) ?_
  refine zc_ne (fun e => absurd he e) (fun _ => ?_)
  refine zy_n 1 (mr := zm_m197) rfl (show _ = some (28, [(0, .ref 55), (1, .int a), (2, .int b)], [.int (-2)]) from rfl) ?_
  refine zy_r (mr := zm_m197) rfl rfl (show _ = some (some (.int (-2))) from rfl) ⟨rfl, τ, hH1, hX1, by omega, (hF1 _ rfl), hc⟩
theorem xf_mp {d : Nat} {a b : Int32} (hH : xHI xKT xSG τ h) (hX : xX τ h) (hc : xCM h n st dn rf nr y L wk) (hu : xupb n dn a) (hv : xupb n dn b) (he : ¬ a = b) (hr : rf a.toInt.toNat = rf b.toInt.toNat) : zm_Y og (d + 3) 197 0 [(0, .ref 55), (1, .int a), (2, .int b)] [] h (xCO τ h 0 [(55, 0), (55, 10), (55, 82), (68, 0)] (fun r => r = some (.int 0)) (fun τ1 h1 => xCM h1 n st dn (upd rf a.toInt.toNat nr) (nr + 1) y L wk)) := by
  obtain ⟨hn, f1, f2, f3, f4, hw, hh, hz⟩ := id hc
  have hla : a.toInt.toNat < n := by omega
  have hja := xnat a (hu).1
  obtain ⟨hn, f1, f2, f3, f4, hw, hh, hz⟩ := id hc
  obtain ⟨g1a, g2a, g3a⟩ := hh _ hla
  have hlb : b.toInt.toNat < n := by omega
  have hjb := xnat b (hv).1
  obtain ⟨hn, f1, f2, f3, f4, hw, hh, hz⟩ := id hc
  obtain ⟨g1a, g2a, g3a⟩ := hh _ hla
  obtain ⟨g1b, g2b, g3b⟩ := hh _ hlb
  refine zy_n 2 (mr := zm_m197) rfl (show _ = some (2, [(0, .ref 55), (1, .int a), (2, .int b)], [.int 0, .ref 55]) from rfl) ?_
  refine zk_put (mr := zm_m197) rfl rfl hH hX (hH.2.2 55 rfl) rfl rfl rfl rfl ⟨_, List.mem_cons_self, ⟨_, rfl, by decide, by decide⟩⟩ ?_
  intro h1 hH1 hX1 hW1 hs1 hg1 hF1
  have hc := xCM_F hH (hF1 [(55, 0)] rfl) rfl hc
  obtain ⟨hn, f1, f2, f3, f4, hw, hh, hz⟩ := id hc
  obtain ⟨g1a, g2a, g3a⟩ := hh _ hla
  obtain ⟨g1b, g2b, g3b⟩ := hh _ hlb
  refine zy_n 2 (mr := zm_m197) rfl (show _ = some (7, [(0, .ref 55), (1, .int a), (2, .int b)], [.int a, .ref 55]) from rfl) ?_
  refine zy_c (mr := zm_m197) (mc := zm_m192) rfl rfl (zk_cm (A := [.int a]) hH1 rfl rfl) rfl rfl ?_
  refine (zh_muE hH1 hc).mono (fun q h' hq => ?_)
  obtain ⟨hez, rfl⟩ := hq
  rw [hez]
  rw [if_pos hu]
  refine zy_b (mr := zm_m197) rfl rfl (show _ = some (13, []) from rfl) ?_
  refine zy_n 2 (mr := zm_m197) rfl (show _ = some (15, [(0, .ref 55), (1, .int a), (2, .int b)], [.int b, .ref 55]) from rfl) ?_
  refine zy_c (mr := zm_m197) (mc := zm_m192) rfl rfl (zk_cm (A := [.int b]) hH1 rfl rfl) rfl rfl ?_
  refine (zh_muE hH1 hc).mono (fun q h' hq => ?_)
  obtain ⟨hez, rfl⟩ := hq
  rw [hez]
  rw [if_pos hv]
  refine zy_b (mr := zm_m197) rfl rfl (show _ = some (21, []) from rfl) ?_
  refine zy_n 2 (mr := zm_m197) rfl (show _ = some (23, [(0, .ref 55), (1, .int a), (2, .int b)], [.int b, .int a]) from rfl) ?_
  refine zy_b (mr := zm_m197) rfl rfl (show _ = some (zm_ic .ne a b 29 26, []) from rfl) ?_
  refine zc_ne (fun _ => ?_) (fun e => absurd e he)
  refine zy_n 2 (mr := zm_m197) rfl (show _ = some (31, [(0, .ref 55), (1, .int a), (2, .int b)], [.int 0, .ref 55]) from rfl) ?_
  refine zk_put (mr := zm_m197) rfl rfl hH1 hX1 (hH1.2.2 55 rfl) rfl rfl rfl rfl ⟨_, List.mem_cons_self, ⟨_, rfl, by decide, by decide⟩⟩ ?_
  intro h2 hH2 hX2 hW2 hs2 hg2 hF2
  have hc := xCM_F hH1 (hF2 [(55, 82)] rfl) rfl hc
  obtain ⟨hn, f1, f2, f3, f4, hw, hh, hz⟩ := id hc
  obtain ⟨g1a, g2a, g3a⟩ := hh _ hla
  obtain ⟨g1b, g2b, g3b⟩ := hh _ hlb
  refine zy_n 1 (mr := zm_m197) rfl (show _ = some (35, [(0, .ref 55), (1, .int a), (2, .int b)], [.ref 55]) from rfl) ?_
  refine zk_get (mr := zm_m197) rfl rfl hH2 (hH2.2.2 55 rfl) rfl (xfo_ref (k := 55) (f := 23) (a := 68) hH2 rfl rfl rfl) ?_
  refine zy_n 1 (mr := zm_m197) rfl (show _ = some (39, [(0, .ref 55), (1, .int a), (2, .int b)], [.int a, .ref 68]) from rfl) ?_
  refine zk_ild (mr := zm_m197) rfl rfl hH2 (hH2.2.2 68 rfl) rfl g2a hja ?_
  refine zy_n 1 (mr := zm_m197) rfl (show _ = some (41, [(0, .ref 55), (1, .int a), (2, .int b)], [.ref 55, .int (rf a.toInt.toNat)]) from rfl) ?_
  refine zk_get (mr := zm_m197) rfl rfl hH2 (hH2.2.2 55 rfl) rfl (xfo_ref (k := 55) (f := 23) (a := 68) hH2 rfl rfl rfl) ?_
  refine zy_n 1 (mr := zm_m197) rfl (show _ = some (45, [(0, .ref 55), (1, .int a), (2, .int b)], [.int b, .ref 68, .int (rf a.toInt.toNat)]) from rfl) ?_
  refine zk_ild (mr := zm_m197) rfl rfl hH2 (hH2.2.2 68 rfl) rfl g2b hjb ?_
  refine zy_b (mr := zm_m197) rfl rfl (show _ = some (zm_ic .ne (rf a.toInt.toNat) (rf b.toInt.toNat) 71 49, []) from rfl) ?_
  refine zc_ne (fun e => absurd hr e) (fun _ => ?_)
  refine zy_n 1 (mr := zm_m197) rfl (show _ = some (50, [(0, .ref 55), (1, .int a), (2, .int b)], [.ref 55]) from rfl) ?_
  refine zk_get (mr := zm_m197) rfl rfl hH2 (hH2.2.2 55 rfl) rfl (xfo_ref (k := 55) (f := 23) (a := 68) hH2 rfl rfl rfl) ?_
  refine zy_n 2 (mr := zm_m197) rfl (show _ = some (55, [(0, .ref 55), (1, .int a), (2, .int b)], [.ref 55, .int a, .ref 68]) from rfl) ?_
  refine zk_get (mr := zm_m197) rfl rfl hH2 (hH2.2.2 55 rfl) rfl f2 ?_
  refine zk_ist (mr := zm_m197) rfl rfl hH2 hX2 (hH2.2.2 68 rfl) rfl rfl hja (by omega) List.mem_cons_self ⟨_, rfl, (xb_rng _).1, (xb_rng _).2⟩ ⟨by show (0 : Int) ≤ _; omega, by show _ ≤ (15 : Int); omega, Or.inl rfl⟩ ?_
  intro h3 hH3 hX3 hW3 hs3 hg3 hF3
  have hc := xCM_rf hc hg3 hs3
  obtain ⟨hn, f1, f2, f3, f4, hw, hh, hz⟩ := id hc
  obtain ⟨g1a, g2a, g3a⟩ := hh _ hla
  obtain ⟨g1b, g2b, g3b⟩ := hh _ hlb
  refine zy_n 2 (mr := zm_m197) rfl (show _ = some (61, [(0, .ref 55), (1, .int a), (2, .int b)], [.ref 55, .ref 55]) from rfl) ?_
  refine zk_get (mr := zm_m197) rfl rfl hH3 (hH3.2.2 55 rfl) rfl f2 ?_
  refine zy_n 2 (mr := zm_m197) rfl (show _ = some (66, [(0, .ref 55), (1, .int a), (2, .int b)], [.int (nr + 1), .ref 55]) from rfl) ?_
  refine zk_put (mr := zm_m197) rfl rfl hH3 hX3 (hH3.2.2 55 rfl) rfl rfl rfl rfl ⟨_, List.mem_cons_self, ⟨_, rfl, (xb_rng _).1, (xb_rng _).2⟩⟩ ?_
  intro h4 hH4 hX4 hW4 hs4 hg4 hF4
  have hc := xCM_nr hc hg4 hs4
  obtain ⟨hn, f1, f2, f3, f4, hw, hh, hz⟩ := id hc
  obtain ⟨g1a, g2a, g3a⟩ := hh _ hla
  obtain ⟨g1b, g2b, g3b⟩ := hh _ hlb
  refine zy_n 1 (mr := zm_m197) rfl (show _ = some (70, [(0, .ref 55), (1, .int a), (2, .int b)], [.int 0]) from rfl) ?_
  refine zy_r (mr := zm_m197) rfl rfl (show _ = some (some (.int 0)) from rfl) ⟨rfl, τ, hH4, hX4, by omega, (xF_trans (hF1 _ rfl) (xF_trans (hF2 _ rfl) (xF_trans (hF3 _ rfl) (hF4 _ rfl)))), hc⟩
theorem xf_mj {d : Nat} {a b : Int32} (hH : xHI xKT xSG τ h) (hX : xX τ h) (hc : xCM h n st dn rf nr y L wk) (hu : xupb n dn a) (hv : xupb n dn b) (he : ¬ a = b) (hr : ¬ rf a.toInt.toNat = rf b.toInt.toNat) : zm_Y og (d + 3) 197 0 [(0, .ref 55), (1, .int a), (2, .int b)] [] h (xCO τ h 0 [(55, 0), (55, 10), (55, 82), (68, 0)] (fun r => r = some (.int 1)) (fun τ1 h1 => xCM h1 n st dn (xrj rf (rf a.toInt.toNat) (rf b.toInt.toNat) n) nr y L wk)) := by
  obtain ⟨hn, f1, f2, f3, f4, hw, hh, hz⟩ := id hc
  have hla : a.toInt.toNat < n := by omega
  have hja := xnat a (hu).1
  obtain ⟨hn, f1, f2, f3, f4, hw, hh, hz⟩ := id hc
  obtain ⟨g1a, g2a, g3a⟩ := hh _ hla
  have hlb : b.toInt.toNat < n := by omega
  have hjb := xnat b (hv).1
  obtain ⟨hn, f1, f2, f3, f4, hw, hh, hz⟩ := id hc
  obtain ⟨g1a, g2a, g3a⟩ := hh _ hla
  obtain ⟨g1b, g2b, g3b⟩ := hh _ hlb
  refine zy_n 2 (mr := zm_m197) rfl (show _ = some (2, [(0, .ref 55), (1, .int a), (2, .int b)], [.int 0, .ref 55]) from rfl) ?_
  refine zk_put (mr := zm_m197) rfl rfl hH hX (hH.2.2 55 rfl) rfl rfl rfl rfl ⟨_, List.mem_cons_self, ⟨_, rfl, by decide, by decide⟩⟩ ?_
  intro h1 hH1 hX1 hW1 hs1 hg1 hF1
  have hc := xCM_F hH (hF1 [(55, 0)] rfl) rfl hc
  obtain ⟨hn, f1, f2, f3, f4, hw, hh, hz⟩ := id hc
  obtain ⟨g1a, g2a, g3a⟩ := hh _ hla
  obtain ⟨g1b, g2b, g3b⟩ := hh _ hlb
  refine zy_n 2 (mr := zm_m197) rfl (show _ = some (7, [(0, .ref 55), (1, .int a), (2, .int b)], [.int a, .ref 55]) from rfl) ?_
  refine zy_c (mr := zm_m197) (mc := zm_m192) rfl rfl (zk_cm (A := [.int a]) hH1 rfl rfl) rfl rfl ?_
  refine (zh_muE hH1 hc).mono (fun q h' hq => ?_)
  obtain ⟨hez, rfl⟩ := hq
  rw [hez]
  rw [if_pos hu]
  refine zy_b (mr := zm_m197) rfl rfl (show _ = some (13, []) from rfl) ?_
  refine zy_n 2 (mr := zm_m197) rfl (show _ = some (15, [(0, .ref 55), (1, .int a), (2, .int b)], [.int b, .ref 55]) from rfl) ?_
  refine zy_c (mr := zm_m197) (mc := zm_m192) rfl rfl (zk_cm (A := [.int b]) hH1 rfl rfl) rfl rfl ?_
  refine (zh_muE hH1 hc).mono (fun q h' hq => ?_)
  obtain ⟨hez, rfl⟩ := hq
  rw [hez]
  rw [if_pos hv]
  refine zy_b (mr := zm_m197) rfl rfl (show _ = some (21, []) from rfl) ?_
  refine zy_n 2 (mr := zm_m197) rfl (show _ = some (23, [(0, .ref 55), (1, .int a), (2, .int b)], [.int b, .int a]) from rfl) ?_
  refine zy_b (mr := zm_m197) rfl rfl (show _ = some (zm_ic .ne a b 29 26, []) from rfl) ?_
  refine zc_ne (fun _ => ?_) (fun e => absurd e he)
  refine zy_n 2 (mr := zm_m197) rfl (show _ = some (31, [(0, .ref 55), (1, .int a), (2, .int b)], [.int 0, .ref 55]) from rfl) ?_
  refine zk_put (mr := zm_m197) rfl rfl hH1 hX1 (hH1.2.2 55 rfl) rfl rfl rfl rfl ⟨_, List.mem_cons_self, ⟨_, rfl, by decide, by decide⟩⟩ ?_
  intro h2 hH2 hX2 hW2 hs2 hg2 hF2
  have hc := xCM_F hH1 (hF2 [(55, 82)] rfl) rfl hc
  obtain ⟨hn, f1, f2, f3, f4, hw, hh, hz⟩ := id hc
  obtain ⟨g1a, g2a, g3a⟩ := hh _ hla
  obtain ⟨g1b, g2b, g3b⟩ := hh _ hlb
  refine zy_n 1 (mr := zm_m197) rfl (show _ = some (35, [(0, .ref 55), (1, .int a), (2, .int b)], [.ref 55]) from rfl) ?_
  refine zk_get (mr := zm_m197) rfl rfl hH2 (hH2.2.2 55 rfl) rfl (xfo_ref (k := 55) (f := 23) (a := 68) hH2 rfl rfl rfl) ?_
  refine zy_n 1 (mr := zm_m197) rfl (show _ = some (39, [(0, .ref 55), (1, .int a), (2, .int b)], [.int a, .ref 68]) from rfl) ?_
  refine zk_ild (mr := zm_m197) rfl rfl hH2 (hH2.2.2 68 rfl) rfl g2a hja ?_
  refine zy_n 1 (mr := zm_m197) rfl (show _ = some (41, [(0, .ref 55), (1, .int a), (2, .int b)], [.ref 55, .int (rf a.toInt.toNat)]) from rfl) ?_
  refine zk_get (mr := zm_m197) rfl rfl hH2 (hH2.2.2 55 rfl) rfl (xfo_ref (k := 55) (f := 23) (a := 68) hH2 rfl rfl rfl) ?_
  refine zy_n 1 (mr := zm_m197) rfl (show _ = some (45, [(0, .ref 55), (1, .int a), (2, .int b)], [.int b, .ref 68, .int (rf a.toInt.toNat)]) from rfl) ?_
  refine zk_ild (mr := zm_m197) rfl rfl hH2 (hH2.2.2 68 rfl) rfl g2b hjb ?_
  refine zy_b (mr := zm_m197) rfl rfl (show _ = some (zm_ic .ne (rf a.toInt.toNat) (rf b.toInt.toNat) 71 49, []) from rfl) ?_
  refine zc_ne (fun _ => ?_) (fun e => absurd e hr)
  refine zy_n 1 (mr := zm_m197) rfl (show _ = some (72, [(0, .ref 55), (1, .int a), (2, .int b)], [.ref 55]) from rfl) ?_
  refine zk_get (mr := zm_m197) rfl rfl hH2 (hH2.2.2 55 rfl) rfl (xfo_ref (k := 55) (f := 23) (a := 68) hH2 rfl rfl rfl) ?_
  refine zy_n 1 (mr := zm_m197) rfl (show _ = some (76, [(0, .ref 55), (1, .int a), (2, .int b)], [.int b, .ref 68]) from rfl) ?_
  refine zk_ild (mr := zm_m197) rfl rfl hH2 (hH2.2.2 68 rfl) rfl g2b hjb ?_
  refine zy_n 3 (mr := zm_m197) rfl (show _ = some (81, [(4, .int 0), (3, .int (rf b.toInt.toNat)), (0, .ref 55), (1, .int a), (2, .int b)], []) from rfl) ?_
  have hc : xCM h2 n st dn (xrj rf (rf a.toInt.toNat) (rf b.toInt.toNat) 0) nr y L wk := by rw [xrj_0]; exact hc
  refine (zy_sub [(0, .ref 55), (1, .int a), (2, .int b), (3, .int (rf b.toInt.toNat)), (4, .int (Int32.ofNat 0))] (by simp) (fun q hq => by simp only [List.mem_cons, List.not_mem_nil, or_false] at hq; rcases hq with rfl | rfl | rfl | rfl | rfl <;> rfl) (zf_m rfl hr hla hja n 0 h2 (by omega) hH2 hX2 hc)).mono (fun r h2 hq => xCO_tr (g1 := 0) (g2 := 0) ((xF_trans (hF1 _ rfl) (hF2 _ rfl))) (by omega) (Nat.le_refl _) ?_)
  obtain ⟨p, τ2, a1, a2, a3, a4, a5⟩ := hq
  exact ⟨p, τ2, a1, a2, a3, xF_weak a4 (fun k f e => by revert e; simp [xms]; omega), a5⟩
end XC1
