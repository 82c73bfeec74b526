/-! PLACES and PAIRS: piece 7 (made by a program) -/
section XR2
set_option maxRecDepth 100000
variable {og : Nat → Option zm_C} {τ τ' : List Nat} {h h' : zm_H} {ms : List (Nat × Nat)} {rp : Nat → Nat} {wd sz : Nat → Int32} {nm : Nat → Nat → Int64}
theorem zy_np {d n m A : Nat} {a b g : Int32} (hp : 0 ≤ a.toInt ∧ a.toInt ≤ 3) (hq : 0 ≤ b.toInt ∧ b.toInt ≤ 3) (hg : 0 ≤ g.toInt ∧ g.toInt ≤ 1000) (hn : (sz a.toInt.toNat).toInt = (n : Int)) (hm : (sz b.toInt.toNat).toInt = (m : Int)) (hn60 : n ≤ 60) (hm60 : m ≤ 60) (okx : xokN nm a.toInt.toNat n) (oky : xokN nm b.toInt.toNat m) (hA : τ[A]? = some 219) : ∀ (f k i j : Nat) (x z : Int32) (P : Nat → Int32) (h : zm_H), k + f = 120 → x.toInt = (i : Int) → z.toInt = (j : Int) → i ≤ n → j ≤ m → xHI xKT xSG τ h → xX τ h → xRXa rp τ h wd sz nm → xfd h 45 5 = some (.ref A) → xtbl h A (xVV2 g.toInt (fun q => (nm a.toInt.toNat q).toInt) (fun q => (nm b.toInt.toNat q).toInt) n m) n m 0 0 → (∀ q, q < 60 → xar h 53 q = some (.int (P q))) → zm_Y og (d + 1) 158 9 [(0, .ref 45), (1, .int a), (2, .int b), (3, .int g), (4, .int x), (5, .int z), (6, .int (Int32.ofNat k))] [] h (xCO τ h 0 [(53, 0)] (fun r => r = none) (fun _ h1 => ∀ q, q < 60 → xar h1 53 q = some (.int ((xtr (xVV2 g.toInt (fun q => (nm a.toInt.toNat q).toInt) (fun q => (nm b.toInt.toNat q).toInt) n m) (fun p q => (((nm a.toInt.toNat p).toInt - (nm b.toInt.toNat q).toInt).natAbs : Int)) g.toInt n m f i j P) q))))
  | 0, k, i, j, x, z, P, h, hk, hx, hz, hi, hj, hH, hX, hc, hcf, ht, hP => by
    have hkn : k = 120 := by omega
    subst hkn
    refine zy_n 2 (mr := zm_m158) rfl (show _ = some (13, [(0, .ref 45), (1, .int a), (2, .int b), (3, .int g), (4, .int x), (5, .int z), (6, .int (Int32.ofNat 120))], [.int 120, .int (Int32.ofNat 120)]) from rfl) ?_
    refine zy_b (mr := zm_m158) rfl rfl (show _ = some (123, []) from rfl) ?_
    refine zy_r (mr := zm_m158) rfl rfl (show _ = some none from rfl) ⟨rfl, τ, hH, hX, Nat.le_add_right _ _, xF_refl _ _ _, hP⟩
  | f + 1, k, i, j, x, z, P, h, hk, hx, hz, hi, hj, hH, hX, hc, hcf, ht, hP => by
    have hjk := (xofn (k := k) (by omega)).1
    have hla : a.toInt.toNat < 4 := by omega
    have hja := xnat a (hp).1
    obtain ⟨g1a, g2a, g3a, g4a, g5a⟩ := hc.1 _ hla
    have hlb : b.toInt.toNat < 4 := by omega
    have hjb := xnat b (hq).1
    obtain ⟨g1a, g2a, g3a, g4a, g5a⟩ := hc.1 _ hla
    obtain ⟨g1b, g2b, g3b, g4b, g5b⟩ := hc.1 _ hlb
    refine zy_n 2 (mr := zm_m158) rfl (show _ = some (13, [(0, .ref 45), (1, .int a), (2, .int b), (3, .int g), (4, .int x), (5, .int z), (6, .int (Int32.ofNat k))], [.int 120, .int (Int32.ofNat k)]) from rfl) ?_
    refine zy_b (mr := zm_m158) rfl rfl (show _ = some (zm_ic .ge (Int32.ofNat k) 120 123 16, []) from rfl) ?_
    refine zc_ge (fun e => absurd e (fun z2 => by have z3 := Int32.le_iff_toInt_le.mp z2; rw [hjk, show (120 : Int32).toInt = 120 from rfl] at z3; omega)) (fun _ => ?_)
    refine zy_n 2 (mr := zm_m158) rfl (show _ = some (19, [(0, .ref 45), (1, .int a), (2, .int b), (3, .int g), (4, .int x), (5, .int z), (6, .int (Int32.ofNat k))], [.ref 45, .int x]) from rfl) ?_
    refine zk_get (mr := zm_m158) rfl rfl hH (hH.2.2 45 rfl) rfl (xfo_ref (k := 45) (f := 2) (a := 52) hH rfl rfl rfl) ?_
    refine zy_n 1 (mr := zm_m158) rfl (show _ = some (23, [(0, .ref 45), (1, .int a), (2, .int b), (3, .int g), (4, .int x), (5, .int z), (6, .int (Int32.ofNat k))], [.int a, .ref 52, .int x]) from rfl) ?_
    refine zk_ild (mr := zm_m158) rfl rfl hH (hH.2.2 52 rfl) rfl g2a hja ?_
    by_cases ci : i < n
    rotate_left
    · rw [xtr_end (fun z => ci z.1)]
      refine zy_b (mr := zm_m158) rfl rfl (show _ = some (zm_ic .ge x (sz a.toInt.toNat) 123 27, []) from rfl) ?_
      refine zc_ge (fun _ => ?_) (fun e => absurd (Int32.le_iff_toInt_le.mpr (by omega)) e)
      refine zy_r (mr := zm_m158) rfl rfl (show _ = some none from rfl) ⟨rfl, τ, hH, hX, Nat.le_add_right _ _, xF_refl _ _ _, hP⟩
    refine zy_b (mr := zm_m158) rfl rfl (show _ = some (zm_ic .ge x (sz a.toInt.toNat) 123 27, []) from rfl) ?_
    refine zc_ge (fun e => absurd e (fun z2 => by have z3 := Int32.le_iff_toInt_le.mp z2; omega)) (fun _ => ?_)
    refine zy_n 2 (mr := zm_m158) rfl (show _ = some (30, [(0, .ref 45), (1, .int a), (2, .int b), (3, .int g), (4, .int x), (5, .int z), (6, .int (Int32.ofNat k))], [.ref 45, .int z]) from rfl) ?_
    refine zk_get (mr := zm_m158) rfl rfl hH (hH.2.2 45 rfl) rfl (xfo_ref (k := 45) (f := 2) (a := 52) hH rfl rfl rfl) ?_
    refine zy_n 1 (mr := zm_m158) rfl (show _ = some (34, [(0, .ref 45), (1, .int a), (2, .int b), (3, .int g), (4, .int x), (5, .int z), (6, .int (Int32.ofNat k))], [.int b, .ref 52, .int z]) from rfl) ?_
    refine zk_ild (mr := zm_m158) rfl rfl hH (hH.2.2 52 rfl) rfl g2b hjb ?_
    by_cases cj : j < m
    rotate_left
    · rw [xtr_end (fun z => cj z.2)]
      refine zy_b (mr := zm_m158) rfl rfl (show _ = some (zm_ic .ge z (sz b.toInt.toNat) 123 38, []) from rfl) ?_
      refine zc_ge (fun _ => ?_) (fun e => absurd (Int32.le_iff_toInt_le.mpr (by omega)) e)
      refine zy_r (mr := zm_m158) rfl rfl (show _ = some none from rfl) ⟨rfl, τ, hH, hX, Nat.le_add_right _ _, xF_refl _ _ _, hP⟩
    refine zy_b (mr := zm_m158) rfl rfl (show _ = some (zm_ic .ge z (sz b.toInt.toNat) 123 38, []) from rfl) ?_
    refine zc_ge (fun e => absurd e (fun z2 => by have z3 := Int32.le_iff_toInt_le.mp z2; omega)) (fun _ => ?_)
    obtain ⟨y0, hy0, ey0⟩ := ht i j hi hj (by omega)
    obtain ⟨y1, hy1, ey1⟩ := ht (i + 1) j (by omega) hj (by omega)
    obtain ⟨y3, hy3, ey3⟩ := ht (i + 1) (j + 1) (by omega) (by omega) (by omega)
    have bb := fun i j => xVV2_60 (X := fun q => (nm a.toInt.toNat q).toInt) (Y := fun q => (nm b.toInt.toNat q).toInt) (n := n) (m := m) hg.1 hg.2 hn60 hm60 i j
    have b1 := bb (i + 1) j
    have x1 : (x + 1).toInt = ((i + 1 : Nat) : Int) := by rw [xadd32 (by rw [hx, show (1 : Int32).toInt = 1 from rfl]; omega) (by rw [hx, show (1 : Int32).toInt = 1 from rfl]; omega), hx]; rfl
    have z1 : (z + 1).toInt = ((j + 1 : Nat) : Int) := by rw [xadd32 (by rw [hz, show (1 : Int32).toInt = 1 from rfl]; omega) (by rw [hz, show (1 : Int32).toInt = 1 from rfl]; omega), hz]; rfl
    refine zy_n 1 (mr := zm_m158) rfl (show _ = some (39, [(0, .ref 45), (1, .int a), (2, .int b), (3, .int g), (4, .int x), (5, .int z), (6, .int (Int32.ofNat k))], [.ref 45]) from rfl) ?_
    refine zk_get (mr := zm_m158) rfl rfl hH (hH.2.2 45 rfl) rfl hcf ?_
    refine zy_n 5 (mr := zm_m158) rfl (show _ = some (50, [(0, .ref 45), (1, .int a), (2, .int b), (3, .int g), (4, .int x), (5, .int z), (6, .int (Int32.ofNat k))], [.int ((x * 61) + z), .ref A]) from rfl) ?_
    refine zk_ild (mr := zm_m158) rfl rfl hH hA rfl hy0 (x61a hx hz (by omega) (by omega)).1 ?_
    refine zy_n 6 (mr := zm_m158) rfl (show _ = some (60, [(7, .int y0), (0, .ref 45), (1, .int a), (2, .int b), (3, .int g), (4, .int x), (5, .int z), (6, .int (Int32.ofNat k))], [.int z, .int b, .int x, .int a, .ref 45]) from rfl) ?_
    refine zy_c (mr := zm_m158) (mc := zm_m157) rfl rfl (zk_co (A := [.int a, .int x, .int b, .int z]) hH rfl rfl rfl rfl) rfl rfl ?_
    refine (zh_pc (h := h) hH hc hp hq hg hn hm hn60 hm60 okx oky hcf hA ci cj hx hz hy3 ey3).mono (fun q h' hq => ?_)
    obtain ⟨hez, w, rfl, ew⟩ := hq
    rw [hez]
    refine zy_n 1 (mr := zm_m158) rfl (show _ = some (65, [(7, .int y0), (0, .ref 45), (1, .int a), (2, .int b), (3, .int g), (4, .int x), (5, .int z), (6, .int (Int32.ofNat k))], [.int y0, .int w]) from rfl) ?_
    refine zy_b (mr := zm_m158) rfl rfl (show _ = some (zm_ic .ne w y0 86 68, []) from rfl) ?_
    refine zc_ne (fun c1 => ?_) (fun c1 => ?_)
    · have c1 : ¬ w.toInt = y0.toInt := fun z2 => c1 (Int32.toInt_inj.mp z2)
      rw [ew, ey0] at c1
      have d0 : ¬ xdec (xVV2 g.toInt (fun q => (nm a.toInt.toNat q).toInt) (fun q => (nm b.toInt.toNat q).toInt) n m) (fun p q => (((nm a.toInt.toNat p).toInt - (nm b.toInt.toNat q).toInt).natAbs : Int)) g.toInt i j = 0 := by
        unfold xdec
        rw [if_neg (fun z2 => c1 z2.symm)]
        split <;> decide
      refine zy_n 2 (mr := zm_m158) rfl (show _ = some (88, [(7, .int y0), (0, .ref 45), (1, .int a), (2, .int b), (3, .int g), (4, .int x), (5, .int z), (6, .int (Int32.ofNat k))], [.ref 45, .int g]) from rfl) ?_
      refine zk_get (mr := zm_m158) rfl rfl hH (hH.2.2 45 rfl) rfl hcf ?_
      refine zy_n 7 (mr := zm_m158) rfl (show _ = some (101, [(7, .int y0), (0, .ref 45), (1, .int a), (2, .int b), (3, .int g), (4, .int x), (5, .int z), (6, .int (Int32.ofNat k))], [.int (((x + 1) * 61) + z), .ref A, .int g]) from rfl) ?_
      refine zk_ild (mr := zm_m158) rfl rfl hH hA rfl hy1 (x61a hx hz (by omega) (by omega)).2.1 ?_
      refine zy_n 2 (mr := zm_m158) rfl (show _ = some (105, [(7, .int y0), (0, .ref 45), (1, .int a), (2, .int b), (3, .int g), (4, .int x), (5, .int z), (6, .int (Int32.ofNat k))], [.int y0, .int (g + y1)]) from rfl) ?_
      refine zy_b (mr := zm_m158) rfl rfl (show _ = some (zm_ic .ne (g + y1) y0 114 108, []) from rfl) ?_
      have eg : (g + y1).toInt = g.toInt + (xVV2 g.toInt (fun q => (nm a.toInt.toNat q).toInt) (fun q => (nm b.toInt.toNat q).toInt) n m) (i + 1) j := by rw [xadd32 (by omega) (by omega), ey1]
      refine zc_ne (fun c2 => ?_) (fun c2 => ?_)
      · have c2 : ¬ (g + y1).toInt = y0.toInt := fun z2 => c2 (Int32.toInt_inj.mp z2)
        rw [eg, ey0] at c2
        have d1 : ¬ xdec (xVV2 g.toInt (fun q => (nm a.toInt.toNat q).toInt) (fun q => (nm b.toInt.toNat q).toInt) n m) (fun p q => (((nm a.toInt.toNat p).toInt - (nm b.toInt.toNat q).toInt).natAbs : Int)) g.toInt i j = 1 := by
          unfold xdec
          rw [if_neg (fun z2 => c1 z2.symm), if_neg (fun z2 => c2 z2.symm)]
          decide
        have ih := zy_np (d := d) hp hq hg hn hm hn60 hm60 okx oky hA f (k + 1) i (j + 1) x (z + 1) P h (by omega) hx z1 (by omega) (by omega) hH hX hc hcf ht hP
        refine zy_n 3 (mr := zm_m158) rfl (show _ = some (9, [(6, .int ((Int32.ofNat k) + 1)), (5, .int (z + 1)), (7, .int y0), (0, .ref 45), (1, .int a), (2, .int b), (3, .int g), (4, .int x)], []) from rfl) ?_
        rw [xofs (by omega)]
        rw [xtr_2 ⟨ci, cj⟩ d0 d1]
        refine (zy_sub [(0, .ref 45), (1, .int a), (2, .int b), (3, .int g), (4, .int x), (5, .int (z + 1)), (6, .int (Int32.ofNat (k + 1)))] (by simp) (fun q hq => by simp only [List.mem_cons, List.not_mem_nil, or_false] at hq; rcases hq with rfl | rfl | rfl | rfl | rfl | rfl | rfl <;> rfl) ih).mono (fun r h2 hq => xCO_tr (g1 := 0) (g2 := 0) (xF_refl _ _ _) (by omega) (Nat.le_refl _) hq)
      · have c2 := congrArg Int32.toInt c2
        rw [eg, ey0] at c2
        have d1 : xdec (xVV2 g.toInt (fun q => (nm a.toInt.toNat q).toInt) (fun q => (nm b.toInt.toNat q).toInt) n m) (fun p q => (((nm a.toInt.toNat p).toInt - (nm b.toInt.toNat q).toInt).natAbs : Int)) g.toInt i j = 1 := by
          unfold xdec
          rw [if_neg (fun z2 => c1 z2.symm), if_pos c2.symm]
        have ih := zy_np (d := d) hp hq hg hn hm hn60 hm60 okx oky hA f (k + 1) (i + 1) j (x + 1) z P h (by omega) x1 hz (by omega) (by omega) hH hX hc hcf ht hP
        refine zy_n 4 (mr := zm_m158) rfl (show _ = some (9, [(6, .int ((Int32.ofNat k) + 1)), (4, .int (x + 1)), (7, .int y0), (0, .ref 45), (1, .int a), (2, .int b), (3, .int g), (5, .int z)], []) from rfl) ?_
        rw [xofs (by omega)]
        rw [xtr_1 ⟨ci, cj⟩ d1]
        refine (zy_sub [(0, .ref 45), (1, .int a), (2, .int b), (3, .int g), (4, .int (x + 1)), (5, .int z), (6, .int (Int32.ofNat (k + 1)))] (by simp) (fun q hq => by simp only [List.mem_cons, List.not_mem_nil, or_false] at hq; rcases hq with rfl | rfl | rfl | rfl | rfl | rfl | rfl <;> rfl) ih).mono (fun r h2 hq => xCO_tr (g1 := 0) (g2 := 0) (xF_refl _ _ _) (by omega) (Nat.le_refl _) hq)
    · have c1 := congrArg Int32.toInt c1
      rw [ew, ey0] at c1
      have d0 : xdec (xVV2 g.toInt (fun q => (nm a.toInt.toNat q).toInt) (fun q => (nm b.toInt.toNat q).toInt) n m) (fun p q => (((nm a.toInt.toNat p).toInt - (nm b.toInt.toNat q).toInt).natAbs : Int)) g.toInt i j = 0 := by
        unfold xdec
        rw [if_pos c1.symm]
      refine zy_n 1 (mr := zm_m158) rfl (show _ = some (69, [(7, .int y0), (0, .ref 45), (1, .int a), (2, .int b), (3, .int g), (4, .int x), (5, .int z), (6, .int (Int32.ofNat k))], [.ref 45]) from rfl) ?_
      refine zk_get (mr := zm_m158) rfl rfl hH (hH.2.2 45 rfl) rfl (xfo_ref (k := 45) (f := 3) (a := 53) hH rfl rfl rfl) ?_
      refine zy_n 2 (mr := zm_m158) rfl (show _ = some (76, [(7, .int y0), (0, .ref 45), (1, .int a), (2, .int b), (3, .int g), (4, .int x), (5, .int z), (6, .int (Int32.ofNat k))], [.int z, .int x, .ref 53]) from rfl) ?_
      refine zk_ist (mr := zm_m158) rfl rfl hH hX (hH.2.2 53 rfl) rfl rfl hx (by omega) List.mem_cons_self ⟨_, rfl, (xb_rng _).1, (xb_rng _).2⟩ ⟨by show (0 : Int) ≤ _; omega, by show _ ≤ (59 : Int); omega, Or.inl rfl⟩ ?_
      intro h1 hH1 hX1 hW1 hs1 hg1 hF1
      have hc := xRXa_F hH (hF1 [(53, 0)] rfl) rfl hc
      have hcf := hg1.1 _ _ _ (by simp) hcf
      have ht := xtbl_F (hF1 [(53, 0)] rfl) hA rfl ht
      have hP : ∀ q, q < 60 → xar h1 53 q = some (.int (upd P i (Int32.ofNat j) q)) := fun q hq2 => by
        by_cases e : q = i
        · subst e
          rw [show upd P q (Int32.ofNat j) q = Int32.ofNat j from if_pos rfl, ← xeqn hz (by omega)]
          exact hs1
        · rw [show upd P i (Int32.ofNat j) q = P q from if_neg e]
          exact hg1.2 _ _ _ (by simp [e]) (hP q hq2)
      obtain ⟨g1a, g2a, g3a, g4a, g5a⟩ := hc.1 _ hla
      obtain ⟨g1b, g2b, g3b, g4b, g5b⟩ := hc.1 _ hlb
      have ih := zy_np (d := d) hp hq hg hn hm hn60 hm60 okx oky hA f (k + 1) (i + 1) (j + 1) (x + 1) (z + 1) (upd P i (Int32.ofNat j)) h1 (by omega) x1 z1 (by omega) (by omega) hH1 hX1 hc hcf ht hP
      refine zy_n 5 (mr := zm_m158) rfl (show _ = some (9, [(6, .int ((Int32.ofNat k) + 1)), (5, .int (z + 1)), (4, .int (x + 1)), (7, .int y0), (0, .ref 45), (1, .int a), (2, .int b), (3, .int g)], []) from rfl) ?_
      rw [xofs (by omega)]
      rw [xtr_0 ⟨ci, cj⟩ d0]
      refine (zy_sub [(0, .ref 45), (1, .int a), (2, .int b), (3, .int g), (4, .int (x + 1)), (5, .int (z + 1)), (6, .int (Int32.ofNat (k + 1)))] (by simp) (fun q hq => by simp only [List.mem_cons, List.not_mem_nil, or_false] at hq; rcases hq with rfl | rfl | rfl | rfl | rfl | rfl | rfl <;> rfl) ih).mono (fun r h2 hq => xCO_tr (g1 := 0) (g2 := 0) ((hF1 _ rfl)) (by omega) (Nat.le_refl _) hq)
theorem zh_np {d n m A : Nat} {a b g : Int32} {P : Nat → Int32} (hX : xX τ h) (hH : xHI xKT xSG τ h) (hc : xRXa rp τ h wd sz nm) (hp : 0 ≤ a.toInt ∧ a.toInt ≤ 3) (hq : 0 ≤ b.toInt ∧ b.toInt ≤ 3) (hg : 0 ≤ g.toInt ∧ g.toInt ≤ 1000) (hn : (sz a.toInt.toNat).toInt = (n : Int)) (hm : (sz b.toInt.toNat).toInt = (m : Int)) (hn60 : n ≤ 60) (hm60 : m ≤ 60) (okx : xokN nm a.toInt.toNat n) (oky : xokN nm b.toInt.toNat m) (hcf : xfd h 45 5 = some (.ref A)) (hA : τ[A]? = some 219) (ht : xtbl h A (xVV2 g.toInt (fun q => (nm a.toInt.toNat q).toInt) (fun q => (nm b.toInt.toNat q).toInt) n m) n m 0 0) (hP : ∀ q, q < 60 → xar h 53 q = some (.int (P q))) : zm_Y og (d + 1) 158 0 [(0, .ref 45), (1, .int a), (2, .int b), (3, .int g)] [] h (xCO τ h 0 [(53, 0)] (fun r => r = none) (fun _ h1 => ∀ q, q < 60 → xar h1 53 q = some (.int ((xtr (xVV2 g.toInt (fun q => (nm a.toInt.toNat q).toInt) (fun q => (nm b.toInt.toNat q).toInt) n m) (fun p q => (((nm a.toInt.toNat p).toInt - (nm b.toInt.toNat q).toInt).natAbs : Int)) g.toInt n m 120 0 0 P) q)))) := by
  refine zy_n 6 (mr := zm_m158) rfl (show _ = some (9, [(6, .int 0), (5, .int 0), (4, .int 0), (0, .ref 45), (1, .int a), (2, .int b), (3, .int g)], []) from rfl) ?_
  exact zy_sub [(0, .ref 45), (1, .int a), (2, .int b), (3, .int g), (4, .int 0), (5, .int 0), (6, .int (Int32.ofNat 0))] (by simp) (fun q hq => by simp only [List.mem_cons, List.not_mem_nil, or_false] at hq; rcases hq with rfl | rfl | rfl | rfl | rfl | rfl | rfl <;> rfl) (zy_np hp hq hg hn hm hn60 hm60 okx oky hA 120 0 0 0 0 0 P h (by omega) rfl rfl (Nat.zero_le _) (Nat.zero_le _) hH hX hc hcf ht hP)
end XR2
