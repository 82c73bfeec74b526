/-! PLACES and PAIRS: piece 2 (made by a program) -/
section XR2
set_option maxRecDepth 100000
variable {og : Nat → Option zm_C} {τ τ' : List Nat} {h h' : zm_H} {ms : List (Nat × Nat)} {rp : Nat → Nat} {wd sz : Nat → Int32} {nm : Nat → Nat → Int64}
def xnz (nm : Nat → Nat → Int64) (p : Nat) (v : Int64) (k : Nat) : Nat → Nat → Int64 := fun a b => if a = p ∧ b < k then v else nm a b
theorem xnz_0 {p : Nat} {v : Int64} : xnz nm p v 0 = nm := funext fun a => funext fun b => if_neg (fun z => absurd z.2 (Nat.not_lt_zero b))
theorem xnz_s {p k : Nat} {v : Int64} : updN (xnz nm p v k) p k v = xnz nm p v (k + 1) := by
  funext a b
  show (if a = p ∧ b = k then v else if a = p ∧ b < k then v else nm a b) = if a = p ∧ b < k + 1 then v else nm a b
  by_cases c : a = p ∧ b = k
  · rw [if_pos c, if_pos ⟨c.1, by omega⟩]
  · rw [if_neg c]
    by_cases c2 : a = p ∧ b < k
    · rw [if_pos c2, if_pos ⟨c2.1, by omega⟩]
    · rw [if_neg c2, if_neg (fun z => (by
        by_cases e : b = k
        · exact c ⟨z.1, e⟩
        · exact c2 ⟨z.1, by omega⟩))]
theorem zy_fl {d p : Nat} {v : Int64} (hp : p < 4) : ∀ (m k : Nat) (h : zm_H), k + m = 60 → xHI xKT xSG τ h → xX τ h → xRXa rp τ h wd sz (xnz nm p v k) → zm_Y og d 78 6 [(0, .ref ((rp p))), (1, .long v), (3, .int (Int32.ofNat k)), (4, .int (Int32.ofNat 60))] [] h (xCO τ h 0 [(211, 0)] (fun r => r = none) (fun τ1 h1 => xRXa rp τ1 h1 wd sz (xnz nm p v 60)))
  | 0, k, h, hk, hH, hX, hc => by
    have hkn : k = 60 := by omega
    subst hkn
    refine zy_n 2 (mr := zm_m78) rfl (show _ = some (9, [(0, .ref ((rp p))), (1, .long v), (3, .int (Int32.ofNat 60)), (4, .int (Int32.ofNat 60))], [.int (Int32.ofNat 60), .int (Int32.ofNat 60)]) from rfl) ?_
    refine zy_b (mr := zm_m78) rfl rfl (show _ = some (22, []) from rfl) ?_
    refine zy_r (mr := zm_m78) rfl rfl (show _ = some none from rfl) ⟨rfl, τ, hH, hX, Nat.le_add_right _ _, xF_refl _ _ _, hc⟩
  | m + 1, k, h, hk, hH, hX, hc => by
    have hk60 : k < 60 := by omega
    have hjk := (xofn (k := k) (by omega)).1
    have h60 := (xofn (k := 60) (by omega)).1
    have g4 := (hc.1 p hp).2.2.2.1
    refine zy_n 2 (mr := zm_m78) rfl (show _ = some (9, [(0, .ref ((rp p))), (1, .long v), (3, .int (Int32.ofNat k)), (4, .int (Int32.ofNat 60))], [.int (Int32.ofNat 60), .int (Int32.ofNat k)]) from rfl) ?_
    refine zy_b (mr := zm_m78) rfl rfl (show _ = some (zm_ic .ge (Int32.ofNat k) (Int32.ofNat 60) 22 12, []) from rfl) ?_
    refine zc_ge (fun e => absurd e (fun z => by have := Int32.le_iff_toInt_le.mp z; omega)) (fun _ => ?_)
    refine zy_n 3 (mr := zm_m78) rfl (show _ = some (15, [(0, .ref ((rp p))), (1, .long v), (3, .int (Int32.ofNat k)), (4, .int (Int32.ofNat 60))], [.long v, .int (Int32.ofNat k), .ref ((rp p))]) from rfl) ?_
    refine zk_lst (mr := zm_m78) rfl rfl hH hX g4 rfl rfl hjk hk60 List.mem_cons_self ⟨_, rfl⟩ ⟨by show (0 : Int) ≤ _; omega, by show _ ≤ (59 : Int); omega, Or.inl rfl⟩ ?_
    intro h1 hH1 hX1 hW1 hs1 hg1 hF1
    have hc := xRXa_nm hH hc hp hg1 hs1
    rw [xnz_s] at hc
    have ih := zy_fl (d := d) hp m (k + 1) h1 (by omega) hH1 hX1 hc
    refine zy_n 2 (mr := zm_m78) rfl (show _ = some (6, [(3, .int ((Int32.ofNat k) + 1)), (0, .ref ((rp p))), (1, .long v), (4, .int (Int32.ofNat 60))], []) from rfl) ?_
    rw [xofs (by omega)]
    refine (zy_sub [(0, .ref ((rp p))), (1, .long v), (3, .int (Int32.ofNat (k + 1))), (4, .int (Int32.ofNat 60))] (by simp) (fun q hq => by simp only [List.mem_cons, List.not_mem_nil, or_false] at hq; rcases hq with rfl | rfl | rfl | rfl <;> rfl) ih).mono (fun r h2 hq => xCO_tr (g1 := 0) (g2 := 0) ((hF1 _ rfl)) (by omega) (Nat.le_refl _) hq)
theorem zh_fl {d p : Nat} {v : Int64} (hp : p < 4) (hH : xHI xKT xSG τ h) (hX : xX τ h) (hc : xRXa rp τ h wd sz nm) : zm_Y og d 78 0 [(0, .ref (rp p)), (1, .long v)] [] h (xCO τ h 0 [(211, 0)] (fun r => r = none) (fun τ1 h1 => xRXa rp τ1 h1 wd sz (xnz nm p v 60))) := by
  have g4 := (hc.1 p hp).2.2.2.1
  have hc : xRXa rp τ h wd sz (xnz nm p v 0) := by rw [xnz_0]; exact hc
  refine zy_n 3 (mr := zm_m78) rfl (show _ = some (3, [(3, .int 0), (0, .ref (rp p)), (1, .long v)], [.ref (rp p)]) from rfl) ?_
  refine zk_alen (mr := zm_m78) rfl rfl hH g4 rfl ?_
  refine zy_n 1 (mr := zm_m78) rfl (show _ = some (6, [(4, .int (Int32.ofNat 60)), (3, .int 0), (0, .ref (rp p)), (1, .long v)], []) from rfl) ?_
  exact zy_sub [(0, .ref (rp p)), (1, .long v), (3, .int (Int32.ofNat 0)), (4, .int (Int32.ofNat 60))] (by simp) (fun q hq => by simp only [List.mem_cons, List.not_mem_nil, or_false] at hq; rcases hq with rfl | rfl | rfl | rfl <;> rfl) (zy_fl hp 60 0 h (by omega) hH hX hc)
theorem zh_lay {d : Nat} {a b c : Int32} (hH : xHI xKT xSG τ h) (hX : xX τ h) (hc : xRXa rp τ h wd sz nm) (hp : 0 ≤ a.toInt ∧ a.toInt ≤ 3) (hb : 0 ≤ b.toInt ∧ b.toInt ≤ 3) (hcc : 0 ≤ c.toInt ∧ c.toInt ≤ 60) : zm_Y og (d + 1) 174 0 [(0, .ref 45), (1, .int a), (2, .int b), (3, .int c)] [] h (xCO τ h 0 [(51, 0), (52, 0), (211, 0)] (fun r => r = none) (fun τ1 h1 => xRXa rp τ1 h1 (upd wd a.toInt.toNat b) (upd sz a.toInt.toNat c) (xnz nm a.toInt.toNat 0 60))) := by
  have hla : a.toInt.toNat < 4 := by omega
  have hja := xnat a (hp).1
  obtain ⟨g1a, g2a, g3a, g4a, g5a⟩ := hc.1 _ hla
  refine zy_n 1 (mr := zm_m174) rfl (show _ = some (1, [(0, .ref 45), (1, .int a), (2, .int b), (3, .int c)], [.ref 45]) from rfl) ?_
  refine zk_get (mr := zm_m174) rfl rfl hH (hH.2.2 45 rfl) rfl (xfo_ref (k := 45) (f := 1) (a := 51) hH rfl rfl rfl) ?_
  refine zy_n 2 (mr := zm_m174) rfl (show _ = some (6, [(0, .ref 45), (1, .int a), (2, .int b), (3, .int c)], [.int b, .int a, .ref 51]) from rfl) ?_
  refine zk_ist (mr := zm_m174) rfl rfl hH hX (hH.2.2 51 rfl) rfl rfl hja (by omega) List.mem_cons_self ⟨_, rfl, by show (-1 : Int) ≤ _; omega, by show _ ≤ (3 : Int); omega⟩ ⟨by show (0 : Int) ≤ _; omega, by show _ ≤ (3 : Int); omega, Or.inl rfl⟩ ?_
  intro h1 hH1 hX1 hW1 hs1 hg1 hF1
  have hc := xRXa_wd hH hc hg1 hs1
  obtain ⟨g1a, g2a, g3a, g4a, g5a⟩ := hc.1 _ hla
  refine zy_n 1 (mr := zm_m174) rfl (show _ = some (8, [(0, .ref 45), (1, .int a), (2, .int b), (3, .int c)], [.ref 45]) from rfl) ?_
  refine zk_get (mr := zm_m174) rfl rfl hH1 (hH1.2.2 45 rfl) rfl (xfo_ref (k := 45) (f := 2) (a := 52) hH1 rfl rfl rfl) ?_
  refine zy_n 2 (mr := zm_m174) rfl (show _ = some (13, [(0, .ref 45), (1, .int a), (2, .int b), (3, .int c)], [.int c, .int a, .ref 52]) from rfl) ?_
  refine zk_ist (mr := zm_m174) rfl rfl hH1 hX1 (hH1.2.2 52 rfl) rfl rfl hja (by omega) List.mem_cons_self ⟨_, rfl, by show (0 : Int) ≤ _; omega, by show _ ≤ (60 : Int); omega⟩ ⟨by show (0 : Int) ≤ _; omega, by show _ ≤ (3 : Int); omega, Or.inl rfl⟩ ?_
  intro h2 hH2 hX2 hW2 hs2 hg2 hF2
  have hc := xRXa_sz hH1 hc hg2 hs2
  obtain ⟨g1a, g2a, g3a, g4a, g5a⟩ := hc.1 _ hla
  refine zy_n 1 (mr := zm_m174) rfl (show _ = some (15, [(0, .ref 45), (1, .int a), (2, .int b), (3, .int c)], [.ref 45]) from rfl) ?_
  refine zk_get (mr := zm_m174) rfl rfl hH2 (hH2.2.2 45 rfl) rfl (xfo_ref (k := 45) (f := 0) (a := 46) hH2 rfl rfl rfl) ?_
  refine zy_n 1 (mr := zm_m174) rfl (show _ = some (19, [(0, .ref 45), (1, .int a), (2, .int b), (3, .int c)], [.int a, .ref 46]) from rfl) ?_
  refine zk_ald (mr := zm_m174) rfl rfl hH2 (hH2.2.2 46 rfl) rfl rfl g3a hja ?_
  refine zy_n 1 (mr := zm_m174) rfl (show _ = some (21, [(0, .ref 45), (1, .int a), (2, .int b), (3, .int c)], [.long 0, .ref ((rp a.toInt.toNat))]) from rfl) ?_
  refine zy_c (mr := zm_m174) (mc := zm_m78) rfl rfl rfl rfl rfl ?_
  refine (zh_fl (v := 0) hla hH2 hX2 hc).mono (fun q h3 hq => ?_)
  obtain ⟨rfl, τ3, hH3, hX3, hW3, hF3, hc⟩ := hq
  obtain ⟨g1a, g2a, g3a, g4a, g5a⟩ := hc.1 _ hla
  refine zy_r (mr := zm_m174) rfl rfl (show _ = some none from rfl) ⟨rfl, τ3, hH3, hX3, by omega, (xF_trans (hF1 _ rfl) (xF_trans (hF2 _ rfl) (xF_weak hF3 (xmsS rfl)))), hc⟩
theorem xix {a x : Int32} {k : Nat} (hp : 0 ≤ a.toInt ∧ a.toInt ≤ 3) (hx : x.toInt = (k : Int)) (hk : k < 60) : (60 * a + x).toInt = ((60 * a.toInt.toNat + k : Nat) : Int) := by
  have ea : xI32a = -2147483648 := rfl
  have eb : xI32b = 2147483647 := rfl
  have m1 : (60 * a).toInt = 60 * a.toInt := by rw [Int32.toInt_mul, show (60 : Int32).toInt = 60 from rfl, xb_bm32 (by omega) (by omega)]
  rw [Int32.toInt_add, m1, hx, xb_bm32 (by omega) (by omega)]
  omega
theorem xix2 {a x z : Int32} {k l : Nat} (hp : 0 ≤ a.toInt ∧ a.toInt ≤ 3) (hx : x.toInt = (k : Int)) (hz : z.toInt = (l : Int)) (hk : k + l < 60) : (60 * a + x + z).toInt = ((60 * a.toInt.toNat + (k + l) : Nat) : Int) := by
  have ea : xI32a = -2147483648 := rfl
  have eb : xI32b = 2147483647 := rfl
  rw [Int32.toInt_add, xix hp hx (by omega), hz, xb_bm32 (by omega) (by omega)]
  omega
theorem zy_rl {d : Nat} {a b c : Int32} (hp : 0 ≤ a.toInt ∧ a.toInt ≤ 3) : ∀ (m k : Nat) (h : zm_H), k + m = 60 → xHI xKT xSG τ h → xX τ h → xRM h wd sz (xnz nm a.toInt.toNat 0 k) → zm_Y og d 181 57 [(0, .ref 55), (1, .int a), (2, .int b), (3, .int c), (4, .int (Int32.ofNat k))] [] h (xCO τ h 0 [(58, 0)] (fun r => r = some (.int 0)) (fun τ1 h1 => xRM h1 wd sz (xnz nm a.toInt.toNat 0 60)))
  | 0, k, h, hk, hH, hX, hc => by
    have hkn : k = 60 := by omega
    subst hkn
    refine zy_n 2 (mr := zm_m181) rfl (show _ = some (61, [(0, .ref 55), (1, .int a), (2, .int b), (3, .int c), (4, .int (Int32.ofNat 60))], [.int 60, .int (Int32.ofNat 60)]) from rfl) ?_
    refine zy_b (mr := zm_m181) rfl rfl (show _ = some (83, []) from rfl) ?_
    refine zy_n 1 (mr := zm_m181) rfl (show _ = some (84, [(0, .ref 55), (1, .int a), (2, .int b), (3, .int c), (4, .int (Int32.ofNat 60))], [.int 0]) from rfl) ?_
    refine zy_r (mr := zm_m181) rfl rfl (show _ = some (some (.int 0)) from rfl) ⟨rfl, τ, hH, hX, Nat.le_add_right _ _, xF_refl _ _ _, hc⟩
  | m + 1, k, h, hk, hH, hX, hc => by
    have hk60 : k < 60 := by omega
    have hjk := (xofn (k := k) (by omega)).1
    have hix := xix hp (show (Int32.ofNat k).toInt = ((k : Nat) : Int) from hjk) hk60
    refine zy_n 2 (mr := zm_m181) rfl (show _ = some (61, [(0, .ref 55), (1, .int a), (2, .int b), (3, .int c), (4, .int (Int32.ofNat k))], [.int 60, .int (Int32.ofNat k)]) from rfl) ?_
    refine zy_b (mr := zm_m181) rfl rfl (show _ = some (zm_ic .ge (Int32.ofNat k) 60 83 64, []) from rfl) ?_
    refine zc_ge (fun e => absurd e (fun z => by have z2 := Int32.le_iff_toInt_le.mp z; rw [hjk, show (60 : Int32).toInt = 60 from rfl] at z2; omega)) (fun _ => ?_)
    refine zy_n 1 (mr := zm_m181) rfl (show _ = some (65, [(0, .ref 55), (1, .int a), (2, .int b), (3, .int c), (4, .int (Int32.ofNat k))], [.ref 55]) from rfl) ?_
    refine zk_get (mr := zm_m181) rfl rfl hH (hH.2.2 55 rfl) rfl (xfo_ref (k := 55) (f := 3) (a := 58) hH rfl rfl rfl) ?_
    refine zy_n 6 (mr := zm_m181) rfl (show _ = some (76, [(0, .ref 55), (1, .int a), (2, .int b), (3, .int c), (4, .int (Int32.ofNat k))], [.long 0, .int ((60 * a) + (Int32.ofNat k)), .ref 58]) from rfl) ?_
    refine zk_lst (mr := zm_m181) rfl rfl hH hX (hH.2.2 58 rfl) rfl rfl hix (by omega) List.mem_cons_self ⟨_, rfl⟩ ⟨by show (0 : Int) ≤ _; omega, by show _ ≤ (239 : Int); omega, Or.inl rfl⟩ ?_
    intro h1 hH1 hX1 hW1 hs1 hg1 hF1
    have hc := xRM_nm hc hk60 hg1 hs1
    rw [xnz_s] at hc
    have ih := zy_rl (d := d) (b := b) (c := c) hp m (k + 1) h1 (by omega) hH1 hX1 hc
    refine zy_n 2 (mr := zm_m181) rfl (show _ = some (57, [(4, .int ((Int32.ofNat k) + 1)), (0, .ref 55), (1, .int a), (2, .int b), (3, .int c)], []) from rfl) ?_
    rw [xofs (by omega)]
    refine (zy_sub [(0, .ref 55), (1, .int a), (2, .int b), (3, .int c), (4, .int (Int32.ofNat (k + 1)))] (by simp) (fun q hq => by simp only [List.mem_cons, List.not_mem_nil, or_false] at hq; rcases hq with rfl | rfl | rfl | rfl | rfl <;> rfl) ih).mono (fun r h2 hq => xCO_tr (g1 := 0) (g2 := 0) ((hF1 _ rfl)) (by omega) (Nat.le_refl _) hq)
theorem yr_x_bad {d : Nat} {a b c : Int32} (hH : xHI xKT xSG τ h) (hX : xX τ h) (hc : xRXa rp τ h wd sz nm) (hb : ¬ ((0 ≤ a.toInt ∧ a.toInt ≤ 3) ∧ (0 ≤ b.toInt ∧ b.toInt ≤ 3) ∧ c.toInt ≤ 60)) : zm_Y og (d + 3) 173 0 [(0, .ref 0), (1, .int a), (2, .int b), (3, .int c)] [] h (xCO τ h 0 [(51, 0), (52, 0), (211, 0)] (fun r => r = some (.int (-2))) (fun τ1 h1 => xRX τ1 h1 wd sz nm)) := by
  by_cases c0 : 0 ≤ a.toInt ∧ a.toInt ≤ 3
  rotate_left
  · refine zy_n 1 (mr := zm_m173) rfl (show _ = some (1, [(0, .ref 0), (1, .int a), (2, .int b), (3, .int c)], [.int a]) from rfl) ?_
    refine zy_c (mr := zm_m173) (mc := zm_m19) rfl rfl rfl rfl rfl ?_
    refine zh_ipE.mono (fun q h' hq => ?_)
    obtain ⟨hez, rfl⟩ := hq
    rw [hez]
    rw [if_neg (show ¬ ((0 : Int32).toInt ≤ a.toInt ∧ a.toInt ≤ (3 : Int32).toInt) from by rw [show (0 : Int32).toInt = 0 from rfl, show (3 : Int32).toInt = 3 from rfl]; exact c0)]
    refine zy_b (mr := zm_m173) rfl rfl (show _ = some (22, []) from rfl) ?_
    refine zy_n 1 (mr := zm_m173) rfl (show _ = some (24, [(0, .ref 0), (1, .int a), (2, .int b), (3, .int c)], [.int (-2)]) from rfl) ?_
    refine zy_r (mr := zm_m173) rfl rfl (show _ = some (some (.int (-2))) from rfl) ⟨rfl, τ, hH, hX, Nat.le_add_right _ _, xF_refl _ _ _, ⟨rp, hc⟩⟩
  by_cases c1 : 0 ≤ b.toInt ∧ b.toInt ≤ 3
  rotate_left
  · refine zy_n 1 (mr := zm_m173) rfl (show _ = some (1, [(0, .ref 0), (1, .int a), (2, .int b), (3, .int c)], [.int a]) from rfl) ?_
    refine zy_c (mr := zm_m173) (mc := zm_m19) rfl rfl rfl rfl rfl ?_
    refine zh_ipE.mono (fun q h' hq => ?_)
    obtain ⟨hez, rfl⟩ := hq
    rw [hez]
    rw [if_pos (show (0 : Int32).toInt ≤ a.toInt ∧ a.toInt ≤ (3 : Int32).toInt from by rw [show (0 : Int32).toInt = 0 from rfl, show (3 : Int32).toInt = 3 from rfl]; exact c0)]
    refine zy_b (mr := zm_m173) rfl rfl (show _ = some (7, []) from rfl) ?_
    refine zy_n 3 (mr := zm_m173) rfl (show _ = some (10, [(0, .ref 0), (1, .int a), (2, .int b), (3, .int c)], [.int 3, .int 0, .int b]) from rfl) ?_
    refine zy_c (mr := zm_m173) (mc := zm_m10) rfl rfl rfl rfl rfl ?_
    refine zh_withinE.mono (fun q h' hq => ?_)
    obtain ⟨hez, rfl⟩ := hq
    rw [hez]
    rw [if_neg (show ¬ ((0 : Int32).toInt ≤ b.toInt ∧ b.toInt ≤ (3 : Int32).toInt) from by rw [show (0 : Int32).toInt = 0 from rfl, show (3 : Int32).toInt = 3 from rfl]; exact c1)]
    refine zy_b (mr := zm_m173) rfl rfl (show _ = some (22, []) from rfl) ?_
    refine zy_n 1 (mr := zm_m173) rfl (show _ = some (24, [(0, .ref 0), (1, .int a), (2, .int b), (3, .int c)], [.int (-2)]) from rfl) ?_
    refine zy_r (mr := zm_m173) rfl rfl (show _ = some (some (.int (-2))) from rfl) ⟨rfl, τ, hH, hX, Nat.le_add_right _ _, xF_refl _ _ _, ⟨rp, hc⟩⟩
  refine zy_n 1 (mr := zm_m173) rfl (show _ = some (1, [(0, .ref 0), (1, .int a), (2, .int b), (3, .int c)], [.int a]) from rfl) ?_
  refine zy_c (mr := zm_m173) (mc := zm_m19) rfl rfl rfl rfl rfl ?_
  refine zh_ipE.mono (fun q h' hq => ?_)
  obtain ⟨hez, rfl⟩ := hq
  rw [hez]
  rw [if_pos (show (0 : Int32).toInt ≤ a.toInt ∧ a.toInt ≤ (3 : Int32).toInt from by rw [show (0 : Int32).toInt = 0 from rfl, show (3 : Int32).toInt = 3 from rfl]; exact c0)]
  refine zy_b (mr := zm_m173) rfl rfl (show _ = some (7, []) from rfl) ?_
  refine zy_n 3 (mr := zm_m173) rfl (show _ = some (10, [(0, .ref 0), (1, .int a), (2, .int b), (3, .int c)], [.int 3, .int 0, .int b]) from rfl) ?_
  refine zy_c (mr := zm_m173) (mc := zm_m10) rfl rfl rfl rfl rfl ?_
  refine zh_withinE.mono (fun q h' hq => ?_)
  obtain ⟨hez, rfl⟩ := hq
  rw [hez]
  rw [if_pos (show (0 : Int32).toInt ≤ b.toInt ∧ b.toInt ≤ (3 : Int32).toInt from by rw [show (0 : Int32).toInt = 0 from rfl, show (3 : Int32).toInt = 3 from rfl]; exact c1)]
  refine zy_b (mr := zm_m173) rfl rfl (show _ = some (16, []) from rfl) ?_
  refine zy_n 2 (mr := zm_m173) rfl (show _ = some (19, [(0, .ref 0), (1, .int a), (2, .int b), (3, .int c)], [.int 60, .int c]) from rfl) ?_
  refine zy_b (mr := zm_m173) rfl rfl (show _ = some (zm_ic .le c 60 25 22, []) from rfl) ?_
  refine zc_le (fun e => absurd e (fun z => hb ⟨c0, c1, by have z2 := Int32.le_iff_toInt_le.mp z; exact z2⟩)) (fun _ => ?_)
  refine zy_n 1 (mr := zm_m173) rfl (show _ = some (24, [(0, .ref 0), (1, .int a), (2, .int b), (3, .int c)], [.int (-2)]) from rfl) ?_
  refine zy_r (mr := zm_m173) rfl rfl (show _ = some (some (.int (-2))) from rfl) ⟨rfl, τ, hH, hX, Nat.le_add_right _ _, xF_refl _ _ _, ⟨rp, hc⟩⟩
theorem yr_x_neg {d : Nat} {a b c : Int32} (hH : xHI xKT xSG τ h) (hX : xX τ h) (hc : xRXa rp τ h wd sz nm) (ok : (0 ≤ a.toInt ∧ a.toInt ≤ 3) ∧ (0 ≤ b.toInt ∧ b.toInt ≤ 3) ∧ c.toInt ≤ 60) (hn : c.toInt < 0) : zm_Y og (d + 3) 173 0 [(0, .ref 0), (1, .int a), (2, .int b), (3, .int c)] [] h (xCO τ h 0 [(51, 0), (52, 0), (211, 0)] (fun r => r = some (.int (-3))) (fun τ1 h1 => xRX τ1 h1 wd sz nm)) := by
  obtain ⟨hp, hb, hc3⟩ := ok
  have hla : a.toInt.toNat < 4 := by omega
  have hja := xnat a (hp).1
  obtain ⟨g1a, g2a, g3a, g4a, g5a⟩ := hc.1 _ hla
  refine zy_n 1 (mr := zm_m173) rfl (show _ = some (1, [(0, .ref 0), (1, .int a), (2, .int b), (3, .int c)], [.int a]) from rfl) ?_
  refine zy_c (mr := zm_m173) (mc := zm_m19) rfl rfl rfl rfl rfl ?_
  refine zh_ipE.mono (fun q h' hq => ?_)
  obtain ⟨hez, rfl⟩ := hq
  rw [hez]
  rw [if_pos (show (0 : Int32).toInt ≤ a.toInt ∧ a.toInt ≤ (3 : Int32).toInt from by rw [show (0 : Int32).toInt = 0 from rfl, show (3 : Int32).toInt = 3 from rfl]; exact hp)]
  refine zy_b (mr := zm_m173) rfl rfl (show _ = some (7, []) from rfl) ?_
  refine zy_n 3 (mr := zm_m173) rfl (show _ = some (10, [(0, .ref 0), (1, .int a), (2, .int b), (3, .int c)], [.int 3, .int 0, .int b]) from rfl) ?_
  refine zy_c (mr := zm_m173) (mc := zm_m10) rfl rfl rfl rfl rfl ?_
  refine zh_withinE.mono (fun q h' hq => ?_)
  obtain ⟨hez, rfl⟩ := hq
  rw [hez]
  rw [if_pos (show (0 : Int32).toInt ≤ b.toInt ∧ b.toInt ≤ (3 : Int32).toInt from by rw [show (0 : Int32).toInt = 0 from rfl, show (3 : Int32).toInt = 3 from rfl]; exact hb)]
  refine zy_b (mr := zm_m173) rfl rfl (show _ = some (16, []) from rfl) ?_
  refine zy_n 2 (mr := zm_m173) rfl (show _ = some (19, [(0, .ref 0), (1, .int a), (2, .int b), (3, .int c)], [.int 60, .int c]) from rfl) ?_
  refine zy_b (mr := zm_m173) rfl rfl (show _ = some (zm_ic .le c 60 25 22, []) from rfl) ?_
  refine zc_le (fun _ => ?_) (fun e => absurd (Int32.le_iff_toInt_le.mpr (by show _ ≤ (60 : Int); exact hc3)) e)
  refine zy_n 1 (mr := zm_m173) rfl (show _ = some (26, [(0, .ref 0), (1, .int a), (2, .int b), (3, .int c)], [.int c]) from rfl) ?_
  refine zy_b (mr := zm_m173) rfl rfl (show _ = some (zm_if .ge c 32 29, []) from rfl) ?_
  refine zi_ge (fun e => absurd e (fun z => by have z2 := Int32.le_iff_toInt_le.mp z; have e0 : (0 : Int32).toInt = 0 := rfl; omega)) (fun _ => ?_)
  refine zy_n 1 (mr := zm_m173) rfl (show _ = some (31, [(0, .ref 0), (1, .int a), (2, .int b), (3, .int c)], [.int (-3)]) from rfl) ?_
  refine zy_r (mr := zm_m173) rfl rfl (show _ = some (some (.int (-3))) from rfl) ⟨rfl, τ, hH, hX, Nat.le_add_right _ _, xF_refl _ _ _, ⟨rp, hc⟩⟩
theorem yr_x_ok {d : Nat} {a b c : Int32} (hH : xHI xKT xSG τ h) (hX : xX τ h) (hc : xRXa rp τ h wd sz nm) (ok : (0 ≤ a.toInt ∧ a.toInt ≤ 3) ∧ (0 ≤ b.toInt ∧ b.toInt ≤ 3) ∧ c.toInt ≤ 60) (hn : 0 ≤ c.toInt) : zm_Y og (d + 3) 173 0 [(0, .ref 0), (1, .int a), (2, .int b), (3, .int c)] [] h (xCO τ h 0 [(51, 0), (52, 0), (211, 0)] (fun r => r = some (.int 0)) (fun τ1 h1 => xRX τ1 h1 (upd wd a.toInt.toNat b) (upd sz a.toInt.toNat c) (xnz nm a.toInt.toNat 0 60))) := by
  obtain ⟨hp, hb, hc3⟩ := ok
  have hla : a.toInt.toNat < 4 := by omega
  have hja := xnat a (hp).1
  obtain ⟨g1a, g2a, g3a, g4a, g5a⟩ := hc.1 _ hla
  refine zy_n 1 (mr := zm_m173) rfl (show _ = some (1, [(0, .ref 0), (1, .int a), (2, .int b), (3, .int c)], [.int a]) from rfl) ?_
  refine zy_c (mr := zm_m173) (mc := zm_m19) rfl rfl rfl rfl rfl ?_
  refine zh_ipE.mono (fun q h' hq => ?_)
  obtain ⟨hez, rfl⟩ := hq
  rw [hez]
  rw [if_pos (show (0 : Int32).toInt ≤ a.toInt ∧ a.toInt ≤ (3 : Int32).toInt from by rw [show (0 : Int32).toInt = 0 from rfl, show (3 : Int32).toInt = 3 from rfl]; exact hp)]
  refine zy_b (mr := zm_m173) rfl rfl (show _ = some (7, []) from rfl) ?_
  refine zy_n 3 (mr := zm_m173) rfl (show _ = some (10, [(0, .ref 0), (1, .int a), (2, .int b), (3, .int c)], [.int 3, .int 0, .int b]) from rfl) ?_
  refine zy_c (mr := zm_m173) (mc := zm_m10) rfl rfl rfl rfl rfl ?_
  refine zh_withinE.mono (fun q h' hq => ?_)
  obtain ⟨hez, rfl⟩ := hq
  rw [hez]
  rw [if_pos (show (0 : Int32).toInt ≤ b.toInt ∧ b.toInt ≤ (3 : Int32).toInt from by rw [show (0 : Int32).toInt = 0 from rfl, show (3 : Int32).toInt = 3 from rfl]; exact hb)]
  refine zy_b (mr := zm_m173) rfl rfl (show _ = some (16, []) from rfl) ?_
  refine zy_n 2 (mr := zm_m173) rfl (show _ = some (19, [(0, .ref 0), (1, .int a), (2, .int b), (3, .int c)], [.int 60, .int c]) from rfl) ?_
  refine zy_b (mr := zm_m173) rfl rfl (show _ = some (zm_ic .le c 60 25 22, []) from rfl) ?_
  refine zc_le (fun _ => ?_) (fun e => absurd (Int32.le_iff_toInt_le.mpr (by show _ ≤ (60 : Int); exact hc3)) e)
  refine zy_n 1 (mr := zm_m173) rfl (show _ = some (26, [(0, .ref 0), (1, .int a), (2, .int b), (3, .int c)], [.int c]) from rfl) ?_
  refine zy_b (mr := zm_m173) rfl rfl (show _ = some (zm_if .ge c 32 29, []) from rfl) ?_
  refine zi_ge (fun _ => ?_) (fun e => absurd (Int32.le_iff_toInt_le.mpr (by show (0 : Int) ≤ _; omega)) e)
  refine zy_n 1 (mr := zm_m173) rfl (show _ = some (33, [(0, .ref 0), (1, .int a), (2, .int b), (3, .int c)], [.ref 0]) from rfl) ?_
  refine zk_get (mr := zm_m173) rfl rfl hH (hH.2.2 0 rfl) rfl (xfo_ref (k := 0) (f := 12) (a := 45) hH rfl rfl rfl) ?_
  refine zy_n 3 (mr := zm_m173) rfl (show _ = some (39, [(0, .ref 0), (1, .int a), (2, .int b), (3, .int c)], [.int c, .int b, .int a, .ref 45]) from rfl) ?_
  refine zy_c (mr := zm_m173) (mc := zm_m174) rfl rfl (zk_co (A := [.int a, .int b, .int c]) hH rfl rfl rfl rfl) rfl rfl ?_
  refine (zh_lay hH hX hc hp hb ⟨by omega, by omega⟩).mono (fun q h1 hq => ?_)
  obtain ⟨rfl, τ1, hH1, hX1, hW1, hF1, hc⟩ := hq
  obtain ⟨g1a, g2a, g3a, g4a, g5a⟩ := hc.1 _ hla
  refine zy_n 1 (mr := zm_m173) rfl (show _ = some (43, [(0, .ref 0), (1, .int a), (2, .int b), (3, .int c)], [.int 0]) from rfl) ?_
  refine zy_r (mr := zm_m173) rfl rfl (show _ = some (some (.int 0)) from rfl) ⟨rfl, τ1, hH1, hX1, by omega, (xF_weak hF1 (xmsS rfl)), ⟨rp, hc⟩⟩
theorem yr_m_bad {d : Nat} {a b c : Int32} (hH : xHI xKT xSG τ h) (hX : xX τ h) (hc : xRM h wd sz nm) (hb : ¬ ((0 ≤ a.toInt ∧ a.toInt ≤ 3) ∧ (0 ≤ b.toInt ∧ b.toInt ≤ 3) ∧ c.toInt ≤ 60)) : zm_Y og (d + 3) 181 0 [(0, .ref 55), (1, .int a), (2, .int b), (3, .int c)] [] h (xCO τ h 0 [(55, 0), (56, 0), (57, 0), (58, 0)] (fun r => r = some (.int (-2))) (fun τ1 h1 => xRM h1 wd sz nm)) := by
  by_cases c0 : 0 ≤ a.toInt ∧ a.toInt ≤ 3
  rotate_left
  · refine zy_n 2 (mr := zm_m181) rfl (show _ = some (2, [(0, .ref 55), (1, .int a), (2, .int b), (3, .int c)], [.int 0, .ref 55]) from rfl) ?_
    refine zk_put (mr := zm_m181) rfl rfl hH hX (hH.2.2 55 rfl) rfl rfl rfl rfl ⟨_, List.mem_cons_self, ⟨_, rfl, by decide, by decide⟩⟩ ?_
    intro h1 hH1 hX1 hW1 hs1 hg1 hF1
    have hc := xRM_F hH (hF1 [(55, 0)] rfl) rfl hc
    refine zy_n 1 (mr := zm_m181) rfl (show _ = some (6, [(0, .ref 55), (1, .int a), (2, .int b), (3, .int c)], [.int a]) from rfl) ?_
    refine zy_c (mr := zm_m181) (mc := zm_m182) rfl rfl rfl rfl rfl ?_
    refine zh_mpE.mono (fun q h' hq => ?_)
    obtain ⟨hez, rfl⟩ := hq
    rw [hez]
    rw [if_neg (show ¬ ((0 : Int64).toInt ≤ a.toInt64.toInt ∧ a.toInt64.toInt ≤ (3 : Int64).toInt) from by rw [Int32.toInt_toInt64, show (0 : Int64).toInt = 0 from rfl, show (3 : Int64).toInt = 3 from rfl]; exact c0)]
    refine zy_b (mr := zm_m181) rfl rfl (show _ = some (30, []) from rfl) ?_
    refine zy_n 1 (mr := zm_m181) rfl (show _ = some (32, [(0, .ref 55), (1, .int a), (2, .int b), (3, .int c)], [.int (-2)]) from rfl) ?_
    refine zy_r (mr := zm_m181) rfl rfl (show _ = some (some (.int (-2))) from rfl) ⟨rfl, τ, hH1, hX1, by omega, (hF1 _ rfl), hc⟩
  by_cases c1 : 0 ≤ b.toInt ∧ b.toInt ≤ 3
  rotate_left
  · refine zy_n 2 (mr := zm_m181) rfl (show _ = some (2, [(0, .ref 55), (1, .int a), (2, .int b), (3, .int c)], [.int 0, .ref 55]) from rfl) ?_
    refine zk_put (mr := zm_m181) rfl rfl hH hX (hH.2.2 55 rfl) rfl rfl rfl rfl ⟨_, List.mem_cons_self, ⟨_, rfl, by decide, by decide⟩⟩ ?_
    intro h1 hH1 hX1 hW1 hs1 hg1 hF1
    have hc := xRM_F hH (hF1 [(55, 0)] rfl) rfl hc
    refine zy_n 1 (mr := zm_m181) rfl (show _ = some (6, [(0, .ref 55), (1, .int a), (2, .int b), (3, .int c)], [.int a]) from rfl) ?_
    refine zy_c (mr := zm_m181) (mc := zm_m182) rfl rfl rfl rfl rfl ?_
    refine zh_mpE.mono (fun q h' hq => ?_)
    obtain ⟨hez, rfl⟩ := hq
    rw [hez]
    rw [if_pos (show (0 : Int64).toInt ≤ a.toInt64.toInt ∧ a.toInt64.toInt ≤ (3 : Int64).toInt from by rw [Int32.toInt_toInt64, show (0 : Int64).toInt = 0 from rfl, show (3 : Int64).toInt = 3 from rfl]; exact c0)]
    refine zy_b (mr := zm_m181) rfl rfl (show _ = some (12, []) from rfl) ?_
    refine zy_n 4 (mr := zm_m181) rfl (show _ = some (18, [(0, .ref 55), (1, .int a), (2, .int b), (3, .int c)], [.long 3, .long 0, .long b.toInt64]) from rfl) ?_
    refine zy_c (mr := zm_m181) (mc := zm_m183) rfl rfl rfl rfl rfl ?_
    refine zh_minE.mono (fun q h' hq => ?_)
    obtain ⟨hez, rfl⟩ := hq
    rw [hez]
    rw [if_neg (show ¬ ((0 : Int64).toInt ≤ b.toInt64.toInt ∧ b.toInt64.toInt ≤ (3 : Int64).toInt) from by rw [Int32.toInt_toInt64, show (0 : Int64).toInt = 0 from rfl, show (3 : Int64).toInt = 3 from rfl]; exact c1)]
    refine zy_b (mr := zm_m181) rfl rfl (show _ = some (30, []) from rfl) ?_
    refine zy_n 1 (mr := zm_m181) rfl (show _ = some (32, [(0, .ref 55), (1, .int a), (2, .int b), (3, .int c)], [.int (-2)]) from rfl) ?_
    refine zy_r (mr := zm_m181) rfl rfl (show _ = some (some (.int (-2))) from rfl) ⟨rfl, τ, hH1, hX1, by omega, (hF1 _ rfl), hc⟩
  refine zy_n 2 (mr := zm_m181) rfl (show _ = some (2, [(0, .ref 55), (1, .int a), (2, .int b), (3, .int c)], [.int 0, .ref 55]) from rfl) ?_
  refine zk_put (mr := zm_m181) rfl rfl hH hX (hH.2.2 55 rfl) rfl rfl rfl rfl ⟨_, List.mem_cons_self, ⟨_, rfl, by decide, by decide⟩⟩ ?_
  intro h1 hH1 hX1 hW1 hs1 hg1 hF1
  have hc := xRM_F hH (hF1 [(55, 0)] rfl) rfl hc
  refine zy_n 1 (mr := zm_m181) rfl (show _ = some (6, [(0, .ref 55), (1, .int a), (2, .int b), (3, .int c)], [.int a]) from rfl) ?_
  refine zy_c (mr := zm_m181) (mc := zm_m182) rfl rfl rfl rfl rfl ?_
  refine zh_mpE.mono (fun q h' hq => ?_)
  obtain ⟨hez, rfl⟩ := hq
  rw [hez]
  rw [if_pos (show (0 : Int64).toInt ≤ a.toInt64.toInt ∧ a.toInt64.toInt ≤ (3 : Int64).toInt from by rw [Int32.toInt_toInt64, show (0 : Int64).toInt = 0 from rfl, show (3 : Int64).toInt = 3 from rfl]; exact c0)]
  refine zy_b (mr := zm_m181) rfl rfl (show _ = some (12, []) from rfl) ?_
  refine zy_n 4 (mr := zm_m181) rfl (show _ = some (18, [(0, .ref 55), (1, .int a), (2, .int b), (3, .int c)], [.long 3, .long 0, .long b.toInt64]) from rfl) ?_
  refine zy_c (mr := zm_m181) (mc := zm_m183) rfl rfl rfl rfl rfl ?_
  refine zh_minE.mono (fun q h' hq => ?_)
  obtain ⟨hez, rfl⟩ := hq
  rw [hez]
  rw [if_pos (show (0 : Int64).toInt ≤ b.toInt64.toInt ∧ b.toInt64.toInt ≤ (3 : Int64).toInt from by rw [Int32.toInt_toInt64, show (0 : Int64).toInt = 0 from rfl, show (3 : Int64).toInt = 3 from rfl]; exact c1)]
  refine zy_b (mr := zm_m181) rfl rfl (show _ = some (24, []) from rfl) ?_
  refine zy_n 2 (mr := zm_m181) rfl (show _ = some (27, [(0, .ref 55), (1, .int a), (2, .int b), (3, .int c)], [.int 60, .int c]) from rfl) ?_
  refine zy_b (mr := zm_m181) rfl rfl (show _ = some (zm_ic .le c 60 33 30, []) from rfl) ?_
  refine zc_le (fun e => absurd e (fun z => hb ⟨c0, c1, by have z2 := Int32.le_iff_toInt_le.mp z; exact z2⟩)) (fun _ => ?_)
  refine zy_n 1 (mr := zm_m181) rfl (show _ = some (32, [(0, .ref 55), (1, .int a), (2, .int b), (3, .int c)], [.int (-2)]) from rfl) ?_
  refine zy_r (mr := zm_m181) rfl rfl (show _ = some (some (.int (-2))) from rfl) ⟨rfl, τ, hH1, hX1, by omega, (hF1 _ rfl), hc⟩
theorem yr_m_neg {d : Nat} {a b c : Int32} (hH : xHI xKT xSG τ h) (hX : xX τ h) (hc : xRM h wd sz nm) (ok : (0 ≤ a.toInt ∧ a.toInt ≤ 3) ∧ (0 ≤ b.toInt ∧ b.toInt ≤ 3) ∧ c.toInt ≤ 60) (hn : c.toInt < 0) : zm_Y og (d + 3) 181 0 [(0, .ref 55), (1, .int a), (2, .int b), (3, .int c)] [] h (xCO τ h 0 [(55, 0), (56, 0), (57, 0), (58, 0)] (fun r => r = some (.int (-3))) (fun τ1 h1 => xRM h1 wd sz nm)) := by
  obtain ⟨hp, hb, hc3⟩ := ok
  have hla : a.toInt.toNat < 4 := by omega
  have hja := xnat a (hp).1
  obtain ⟨g1a, g2a, g3a⟩ := hc _ hla
  refine zy_n 2 (mr := zm_m181) rfl (show _ = some (2, [(0, .ref 55), (1, .int a), (2, .int b), (3, .int c)], [.int 0, .ref 55]) from rfl) ?_
  refine zk_put (mr := zm_m181) rfl rfl hH hX (hH.2.2 55 rfl) rfl rfl rfl rfl ⟨_, List.mem_cons_self, ⟨_, rfl, by decide, by decide⟩⟩ ?_
  intro h1 hH1 hX1 hW1 hs1 hg1 hF1
  have hc := xRM_F hH (hF1 [(55, 0)] rfl) rfl hc
  obtain ⟨g1a, g2a, g3a⟩ := hc _ hla
  refine zy_n 1 (mr := zm_m181) rfl (show _ = some (6, [(0, .ref 55), (1, .int a), (2, .int b), (3, .int c)], [.int a]) from rfl) ?_
  refine zy_c (mr := zm_m181) (mc := zm_m182) rfl rfl rfl rfl rfl ?_
  refine zh_mpE.mono (fun q h' hq => ?_)
  obtain ⟨hez, rfl⟩ := hq
  rw [hez]
  rw [if_pos (show (0 : Int64).toInt ≤ a.toInt64.toInt ∧ a.toInt64.toInt ≤ (3 : Int64).toInt from by rw [Int32.toInt_toInt64, show (0 : Int64).toInt = 0 from rfl, show (3 : Int64).toInt = 3 from rfl]; exact hp)]
  refine zy_b (mr := zm_m181) rfl rfl (show _ = some (12, []) from rfl) ?_
  refine zy_n 4 (mr := zm_m181) rfl (show _ = some (18, [(0, .ref 55), (1, .int a), (2, .int b), (3, .int c)], [.long 3, .long 0, .long b.toInt64]) from rfl) ?_
  refine zy_c (mr := zm_m181) (mc := zm_m183) rfl rfl rfl rfl rfl ?_
  refine zh_minE.mono (fun q h' hq => ?_)
  obtain ⟨hez, rfl⟩ := hq
  rw [hez]
  rw [if_pos (show (0 : Int64).toInt ≤ b.toInt64.toInt ∧ b.toInt64.toInt ≤ (3 : Int64).toInt from by rw [Int32.toInt_toInt64, show (0 : Int64).toInt = 0 from rfl, show (3 : Int64).toInt = 3 from rfl]; exact hb)]
  refine zy_b (mr := zm_m181) rfl rfl (show _ = some (24, []) from rfl) ?_
  refine zy_n 2 (mr := zm_m181) rfl (show _ = some (27, [(0, .ref 55), (1, .int a), (2, .int b), (3, .int c)], [.int 60, .int c]) from rfl) ?_
  refine zy_b (mr := zm_m181) rfl rfl (show _ = some (zm_ic .le c 60 33 30, []) from rfl) ?_
  refine zc_le (fun _ => ?_) (fun e => absurd (Int32.le_iff_toInt_le.mpr (by show _ ≤ (60 : Int); exact hc3)) e)
  refine zy_n 1 (mr := zm_m181) rfl (show _ = some (34, [(0, .ref 55), (1, .int a), (2, .int b), (3, .int c)], [.int c]) from rfl) ?_
  refine zy_b (mr := zm_m181) rfl rfl (show _ = some (zm_if .ge c 40 37, []) from rfl) ?_
  refine zi_ge (fun e => absurd e (fun z => by have z2 := Int32.le_iff_toInt_le.mp z; have e0 : (0 : Int32).toInt = 0 := rfl; omega)) (fun _ => ?_)
  refine zy_n 1 (mr := zm_m181) rfl (show _ = some (39, [(0, .ref 55), (1, .int a), (2, .int b), (3, .int c)], [.int (-3)]) from rfl) ?_
  refine zy_r (mr := zm_m181) rfl rfl (show _ = some (some (.int (-3))) from rfl) ⟨rfl, τ, hH1, hX1, by omega, (hF1 _ rfl), hc⟩
theorem yr_m_ok {d : Nat} {a b c : Int32} (hH : xHI xKT xSG τ h) (hX : xX τ h) (hc : xRM h wd sz nm) (ok : (0 ≤ a.toInt ∧ a.toInt ≤ 3) ∧ (0 ≤ b.toInt ∧ b.toInt ≤ 3) ∧ c.toInt ≤ 60) (hn : 0 ≤ c.toInt) : zm_Y og (d + 3) 181 0 [(0, .ref 55), (1, .int a), (2, .int b), (3, .int c)] [] h (xCO τ h 0 [(55, 0), (56, 0), (57, 0), (58, 0)] (fun r => r = some (.int 0)) (fun τ1 h1 => xRM h1 (upd wd a.toInt.toNat b) (upd sz a.toInt.toNat c) (xnz nm a.toInt.toNat 0 60))) := by
  obtain ⟨hp, hb, hc3⟩ := ok
  have hla : a.toInt.toNat < 4 := by omega
  have hja := xnat a (hp).1
  obtain ⟨g1a, g2a, g3a⟩ := hc _ hla
  refine zy_n 2 (mr := zm_m181) rfl (show _ = some (2, [(0, .ref 55), (1, .int a), (2, .int b), (3, .int c)], [.int 0, .ref 55]) from rfl) ?_
  refine zk_put (mr := zm_m181) rfl rfl hH hX (hH.2.2 55 rfl) rfl rfl rfl rfl ⟨_, List.mem_cons_self, ⟨_, rfl, by decide, by decide⟩⟩ ?_
  intro h1 hH1 hX1 hW1 hs1 hg1 hF1
  have hc := xRM_F hH (hF1 [(55, 0)] rfl) rfl hc
  obtain ⟨g1a, g2a, g3a⟩ := hc _ hla
  refine zy_n 1 (mr := zm_m181) rfl (show _ = some (6, [(0, .ref 55), (1, .int a), (2, .int b), (3, .int c)], [.int a]) from rfl) ?_
  refine zy_c (mr := zm_m181) (mc := zm_m182) rfl rfl rfl rfl rfl ?_
  refine zh_mpE.mono (fun q h' hq => ?_)
  obtain ⟨hez, rfl⟩ := hq
  rw [hez]
  rw [if_pos (show (0 : Int64).toInt ≤ a.toInt64.toInt ∧ a.toInt64.toInt ≤ (3 : Int64).toInt from by rw [Int32.toInt_toInt64, show (0 : Int64).toInt = 0 from rfl, show (3 : Int64).toInt = 3 from rfl]; exact hp)]
  refine zy_b (mr := zm_m181) rfl rfl (show _ = some (12, []) from rfl) ?_
  refine zy_n 4 (mr := zm_m181) rfl (show _ = some (18, [(0, .ref 55), (1, .int a), (2, .int b), (3, .int c)], [.long 3, .long 0, .long b.toInt64]) from rfl) ?_
  refine zy_c (mr := zm_m181) (mc := zm_m183) rfl rfl rfl rfl rfl ?_
  refine zh_minE.mono (fun q h' hq => ?_)
  obtain ⟨hez, rfl⟩ := hq
  rw [hez]
  rw [if_pos (show (0 : Int64).toInt ≤ b.toInt64.toInt ∧ b.toInt64.toInt ≤ (3 : Int64).toInt from by rw [Int32.toInt_toInt64, show (0 : Int64).toInt = 0 from rfl, show (3 : Int64).toInt = 3 from rfl]; exact hb)]
  refine zy_b (mr := zm_m181) rfl rfl (show _ = some (24, []) from rfl) ?_
  refine zy_n 2 (mr := zm_m181) rfl (show _ = some (27, [(0, .ref 55), (1, .int a), (2, .int b), (3, .int c)], [.int 60, .int c]) from rfl) ?_
  refine zy_b (mr := zm_m181) rfl rfl (show _ = some (zm_ic .le c 60 33 30, []) from rfl) ?_
  refine zc_le (fun _ => ?_) (fun e => absurd (Int32.le_iff_toInt_le.mpr (by show _ ≤ (60 : Int); exact hc3)) e)
  refine zy_n 1 (mr := zm_m181) rfl (show _ = some (34, [(0, .ref 55), (1, .int a), (2, .int b), (3, .int c)], [.int c]) from rfl) ?_
  refine zy_b (mr := zm_m181) rfl rfl (show _ = some (zm_if .ge c 40 37, []) from rfl) ?_
  refine zi_ge (fun _ => ?_) (fun e => absurd (Int32.le_iff_toInt_le.mpr (by show (0 : Int) ≤ _; omega)) e)
  refine zy_n 1 (mr := zm_m181) rfl (show _ = some (41, [(0, .ref 55), (1, .int a), (2, .int b), (3, .int c)], [.ref 55]) from rfl) ?_
  refine zk_get (mr := zm_m181) rfl rfl hH1 (hH1.2.2 55 rfl) rfl (xfo_ref (k := 55) (f := 1) (a := 56) hH1 rfl rfl rfl) ?_
  refine zy_n 2 (mr := zm_m181) rfl (show _ = some (46, [(0, .ref 55), (1, .int a), (2, .int b), (3, .int c)], [.int b, .int a, .ref 56]) from rfl) ?_
  refine zk_ist (mr := zm_m181) rfl rfl hH1 hX1 (hH1.2.2 56 rfl) rfl rfl hja (by omega) List.mem_cons_self ⟨_, rfl, by show (-1 : Int) ≤ _; omega, by show _ ≤ (3 : Int); omega⟩ ⟨by show (0 : Int) ≤ _; omega, by show _ ≤ (3 : Int); omega, Or.inl rfl⟩ ?_
  intro h2 hH2 hX2 hW2 hs2 hg2 hF2
  have hc := xRM_wd hc hg2 hs2
  obtain ⟨g1a, g2a, g3a⟩ := hc _ hla
  refine zy_n 1 (mr := zm_m181) rfl (show _ = some (48, [(0, .ref 55), (1, .int a), (2, .int b), (3, .int c)], [.ref 55]) from rfl) ?_
  refine zk_get (mr := zm_m181) rfl rfl hH2 (hH2.2.2 55 rfl) rfl (xfo_ref (k := 55) (f := 2) (a := 57) hH2 rfl rfl rfl) ?_
  refine zy_n 2 (mr := zm_m181) rfl (show _ = some (53, [(0, .ref 55), (1, .int a), (2, .int b), (3, .int c)], [.int c, .int a, .ref 57]) from rfl) ?_
  refine zk_ist (mr := zm_m181) rfl rfl hH2 hX2 (hH2.2.2 57 rfl) rfl rfl hja (by omega) List.mem_cons_self ⟨_, rfl, by show (0 : Int) ≤ _; omega, by show _ ≤ (60 : Int); omega⟩ ⟨by show (0 : Int) ≤ _; omega, by show _ ≤ (3 : Int); omega, Or.inl rfl⟩ ?_
  intro h3 hH3 hX3 hW3 hs3 hg3 hF3
  have hc := xRM_sz hc hg3 hs3
  obtain ⟨g1a, g2a, g3a⟩ := hc _ hla
  refine zy_n 2 (mr := zm_m181) rfl (show _ = some (57, [(4, .int 0), (0, .ref 55), (1, .int a), (2, .int b), (3, .int c)], []) from rfl) ?_
  have hc : xRM h3 (upd wd a.toInt.toNat b) (upd sz a.toInt.toNat c) (xnz nm a.toInt.toNat 0 0) := by rw [xnz_0]; exact hc
  refine (zy_sub [(0, .ref 55), (1, .int a), (2, .int b), (3, .int c), (4, .int (Int32.ofNat 0))] (by simp) (fun q hq => by simp only [List.mem_cons, List.not_mem_nil, or_false] at hq; rcases hq with rfl | rfl | rfl | rfl | rfl <;> rfl) (zy_rl hp 60 0 h3 (by omega) hH3 hX3 hc)).mono (fun r h2 hq => xCO_tr (g1 := 0) (g2 := 0) ((xF_trans (hF1 _ rfl) (xF_trans (hF2 _ rfl) (hF3 _ rfl)))) (by omega) (Nat.le_refl _) ?_)
  obtain ⟨p, τ2, a1, a2, a3, a4, a5⟩ := hq
  exact ⟨p, τ2, a1, a2, a3, xF_weak a4 (xmsS rfl), a5⟩
end XR2
