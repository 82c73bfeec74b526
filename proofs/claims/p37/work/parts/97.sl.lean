/-! PLACES and PAIRS: piece 11 (made by a program) -/
section XR2
set_option maxRecDepth 100000
variable {og : Nat → Option zm_C} {τ τ' : List Nat} {h h' : zm_H} {ms : List (Nat × Nat)} {rp : Nat → Nat} {wd sz : Nat → Int32} {nm : Nat → Nat → Int64}
theorem zy_mi {d n m i : Nat} {a b g x : Int32} {Q : Option Value → zm_H → Prop} (hp : 0 ≤ a.toInt ∧ a.toInt ≤ 3) (hq : 0 ≤ b.toInt ∧ b.toInt ≤ 3) (hg : 0 ≤ g.toInt ∧ g.toInt ≤ 1000) (hn : (sz a.toInt.toNat).toInt = (n : Int)) (hm : (sz b.toInt.toNat).toInt = (m : Int)) (hn60 : n ≤ 60) (hm60 : m ≤ 60) (okx : xokN nm a.toInt.toNat n) (oky : xokN nm b.toInt.toNat m) (hi : i ≤ n) (hx : x.toInt = (i : Int)) : ∀ (jr : Nat) (z : Int32) (h : zm_H), z.toInt = (jr : Int) - 1 → jr ≤ m + 1 → xHI xKT xSG τ h → xX τ h → xRM h wd sz nm → xtbl h 115 (xVV2 g.toInt (fun q => (nm a.toInt.toNat q).toInt) (fun q => (nm b.toInt.toNat q).toInt) n m) n m i jr → (∀ h1, xHI xKT xSG τ h1 → xX τ h1 → xW h1 ≤ xW h → xF (xms [(115, 0)]) τ h τ h1 → xRM h1 wd sz nm → xtbl h1 115 (xVV2 g.toInt (fun q => (nm a.toInt.toNat q).toInt) (fun q => (nm b.toInt.toNat q).toInt) n m) n m i 0 → zm_Y og (d + 2) 276 349 [(0, .ref 55), (1, .int a), (2, .int b), (3, .int g), (4, .int x)] [] h1 Q) → zm_Y og (d + 2) 276 156 [(0, .ref 55), (1, .int a), (2, .int b), (3, .int g), (4, .int x), (5, .int z)] [] h Q
  | 0, z, h, hz, hj, hH, hX, hc, ht, kk => by
    refine zy_n 1 (mr := zm_m276) rfl (show _ = some (158, [(0, .ref 55), (1, .int a), (2, .int b), (3, .int g), (4, .int x), (5, .int z)], [.int z]) from rfl) ?_
    refine zy_b (mr := zm_m276) rfl rfl (show _ = some (zm_if .lt z 349 161, []) from rfl) ?_
    refine zi_lt (fun _ => ?_) (fun e => absurd (Int32.lt_iff_toInt_lt.mpr (by rw [hz]; decide)) e)
    exact zy_sub [(0, .ref 55), (1, .int a), (2, .int b), (3, .int g), (4, .int x)] (by simp) (fun q hq => by simp only [List.mem_cons, List.not_mem_nil, or_false] at hq; rcases hq with rfl | rfl | rfl | rfl | rfl <;> rfl) (kk h hH hX (Nat.le_refl _) (xF_refl _ _ _) hc ht)
  | j + 1, z, h, hz, hj, hH, hX, hc, ht, kk => by
    have hz : z.toInt = (j : Int) := by omega
    have e0 : (0 : Int32).toInt = 0 := rfl
    have em : (-1 : Int32).toInt = -1 := rfl
    have e9 : (1000000000 : Int32).toInt = 1000000000 := rfl
    have bb := fun i j => xVV2_60 (X := fun q => (nm a.toInt.toNat q).toInt) (Y := fun q => (nm b.toInt.toNat q).toInt) (n := n) (m := m) hg.1 hg.2 hn60 hm60 i j
    have b1 := bb (i + 1) j
    have b2 := bb i (j + 1)
    have b3 := bb (i + 1) (j + 1)
    have fin : ∀ v : Int32, v.toInt = (xVV2 g.toInt (fun q => (nm a.toInt.toNat q).toInt) (fun q => (nm b.toInt.toNat q).toInt) n m) i j → zm_Y og (d + 2) 276 328 [(0, .ref 55), (1, .int a), (2, .int b), (3, .int g), (4, .int x), (5, .int z), (6, .int v)] [] h Q := by
      intro v hv
      refine zy_n 1 (mr := zm_m276) rfl (show _ = some (329, [(0, .ref 55), (1, .int a), (2, .int b), (3, .int g), (4, .int x), (5, .int z), (6, .int v)], [.ref 55]) from rfl) ?_
      refine zk_get (mr := zm_m276) rfl rfl hH (hH.2.2 55 rfl) rfl (xfo_ref (k := 55) (f := 106) (a := 115) hH rfl rfl rfl) ?_
      refine zy_n 6 (mr := zm_m276) rfl (show _ = some (342, [(0, .ref 55), (1, .int a), (2, .int b), (3, .int g), (4, .int x), (5, .int z), (6, .int v)], [.int v, .int ((61 * x) + z), .ref 115]) from rfl) ?_
      refine zk_ist (mr := zm_m276) rfl rfl hH hX (hH.2.2 115 rfl) rfl rfl (x61m hx hz (by omega) (by omega)).1 (by omega) List.mem_cons_self ⟨_, rfl, (xb_rng _).1, (xb_rng _).2⟩ ⟨by show (0 : Int) ≤ _; omega, by show _ ≤ (3720 : Int); omega, Or.inl rfl⟩ ?_
      intro h1 hH1 hX1 hW1 hs1 hg1 hF1
      have hc := xRM_F hH (hF1 [(115, 0)] rfl) rfl hc
      have ht := xtbl_up ht hg1 hs1 hv (by omega) (by omega)
      have ih := zy_mi (d := d) hp hq hg hn hm hn60 hm60 okx oky hi hx j (z + (-1)) h1 (by rw [xadd32 (by omega) (by omega), hz, em]; omega) (by omega) hH1 hX1 hc ht (fun h2 a1 a2 a3 a4 a5 a6 => kk h2 a1 a2 (by omega) (xF_trans (hF1 _ rfl) a4) a5 a6)
      refine zy_n 2 (mr := zm_m276) rfl (show _ = some (156, [(5, .int (z + (-1))), (0, .ref 55), (1, .int a), (2, .int b), (3, .int g), (4, .int x), (6, .int v)], []) from rfl) ?_
      exact zy_sub [(0, .ref 55), (1, .int a), (2, .int b), (3, .int g), (4, .int x), (5, .int (z + (-1)))] (by simp) (fun q hq => by simp only [List.mem_cons, List.not_mem_nil, or_false] at hq; rcases hq with rfl | rfl | rfl | rfl | rfl | rfl <;> rfl) ih
    have hla : a.toInt.toNat < 4 := by omega
    have hja := xnat a (hp).1
    obtain ⟨g1a, g2a, g3a⟩ := hc _ hla
    have hlb : b.toInt.toNat < 4 := by omega
    have hjb := xnat b (hq).1
    obtain ⟨g1a, g2a, g3a⟩ := hc _ hla
    obtain ⟨g1b, g2b, g3b⟩ := hc _ hlb
    refine zy_n 1 (mr := zm_m276) rfl (show _ = some (158, [(0, .ref 55), (1, .int a), (2, .int b), (3, .int g), (4, .int x), (5, .int z)], [.int z]) from rfl) ?_
    refine zy_b (mr := zm_m276) rfl rfl (show _ = some (zm_if .lt z 349 161, []) from rfl) ?_
    refine zi_lt (fun e => absurd e (fun z2 => by have z3 := Int32.lt_iff_toInt_lt.mp z2; omega)) (fun _ => ?_)
    refine zy_n 2 (mr := zm_m276) rfl (show _ = some (164, [(0, .ref 55), (1, .int a), (2, .int b), (3, .int g), (4, .int x), (5, .int z)], [.ref 55, .int x]) from rfl) ?_
    refine zk_get (mr := zm_m276) rfl rfl hH (hH.2.2 55 rfl) rfl (xfo_ref (k := 55) (f := 2) (a := 57) hH rfl rfl rfl) ?_
    refine zy_n 1 (mr := zm_m276) rfl (show _ = some (168, [(0, .ref 55), (1, .int a), (2, .int b), (3, .int g), (4, .int x), (5, .int z)], [.int a, .ref 57, .int x]) from rfl) ?_
    refine zk_ild (mr := zm_m276) rfl rfl hH (hH.2.2 57 rfl) rfl g2a hja ?_
    by_cases ci : i = n
    · have ci2 := ci
      refine zy_b (mr := zm_m276) rfl rfl (show _ = some (zm_ic .ne x (sz a.toInt.toNat) 187 172, []) from rfl) ?_
      refine zc_ne (fun e => absurd (Int32.toInt_inj.mp (by omega)) e) (fun _ => ?_)
      refine zy_n 2 (mr := zm_m276) rfl (show _ = some (175, [(0, .ref 55), (1, .int a), (2, .int b), (3, .int g), (4, .int x), (5, .int z)], [.ref 55, .int z]) from rfl) ?_
      refine zk_get (mr := zm_m276) rfl rfl hH (hH.2.2 55 rfl) rfl (xfo_ref (k := 55) (f := 2) (a := 57) hH rfl rfl rfl) ?_
      refine zy_n 1 (mr := zm_m276) rfl (show _ = some (179, [(0, .ref 55), (1, .int a), (2, .int b), (3, .int g), (4, .int x), (5, .int z)], [.int b, .ref 57, .int z]) from rfl) ?_
      refine zk_ild (mr := zm_m276) rfl rfl hH (hH.2.2 57 rfl) rfl g2b hjb ?_
      by_cases cj : j = m
      · refine zy_b (mr := zm_m276) rfl rfl (show _ = some (zm_ic .ne z (sz b.toInt.toNat) 187 183, []) from rfl) ?_
        refine zc_ne (fun e => absurd (Int32.toInt_inj.mp (by omega)) e) (fun _ => ?_)
        refine zy_n 5 (mr := zm_m276) rfl (show _ = some (195, [(6, .int 0), (0, .ref 55), (1, .int a), (2, .int b), (3, .int g), (4, .int x), (5, .int z)], [.ref 55, .int x]) from rfl) ?_
        refine zk_get (mr := zm_m276) rfl rfl hH (hH.2.2 55 rfl) rfl (xfo_ref (k := 55) (f := 2) (a := 57) hH rfl rfl rfl) ?_
        refine zy_n 1 (mr := zm_m276) rfl (show _ = some (199, [(6, .int 0), (0, .ref 55), (1, .int a), (2, .int b), (3, .int g), (4, .int x), (5, .int z)], [.int a, .ref 57, .int x]) from rfl) ?_
        refine zk_ild (mr := zm_m276) rfl rfl hH (hH.2.2 57 rfl) rfl g2a hja ?_
        refine zy_b (mr := zm_m276) rfl rfl (show _ = some (zm_ic .ge x (sz a.toInt.toNat) 258 203, []) from rfl) ?_
        refine zc_ge (fun _ => ?_) (fun e => absurd (Int32.le_iff_toInt_le.mpr (by omega)) e)
        refine zy_n 2 (mr := zm_m276) rfl (show _ = some (261, [(6, .int 0), (0, .ref 55), (1, .int a), (2, .int b), (3, .int g), (4, .int x), (5, .int z)], [.ref 55, .int x]) from rfl) ?_
        refine zk_get (mr := zm_m276) rfl rfl hH (hH.2.2 55 rfl) rfl (xfo_ref (k := 55) (f := 2) (a := 57) hH rfl rfl rfl) ?_
        refine zy_n 1 (mr := zm_m276) rfl (show _ = some (265, [(6, .int 0), (0, .ref 55), (1, .int a), (2, .int b), (3, .int g), (4, .int x), (5, .int z)], [.int a, .ref 57, .int x]) from rfl) ?_
        refine zk_ild (mr := zm_m276) rfl rfl hH (hH.2.2 57 rfl) rfl g2a hja ?_
        refine zy_b (mr := zm_m276) rfl rfl (show _ = some (zm_ic .ge x (sz a.toInt.toNat) 293 269, []) from rfl) ?_
        refine zc_ge (fun _ => ?_) (fun e => absurd (Int32.le_iff_toInt_le.mpr (by omega)) e)
        refine zy_n 2 (mr := zm_m276) rfl (show _ = some (296, [(6, .int 0), (0, .ref 55), (1, .int a), (2, .int b), (3, .int g), (4, .int x), (5, .int z)], [.ref 55, .int z]) from rfl) ?_
        refine zk_get (mr := zm_m276) rfl rfl hH (hH.2.2 55 rfl) rfl (xfo_ref (k := 55) (f := 2) (a := 57) hH rfl rfl rfl) ?_
        refine zy_n 1 (mr := zm_m276) rfl (show _ = some (300, [(6, .int 0), (0, .ref 55), (1, .int a), (2, .int b), (3, .int g), (4, .int x), (5, .int z)], [.int b, .ref 57, .int z]) from rfl) ?_
        refine zk_ild (mr := zm_m276) rfl rfl hH (hH.2.2 57 rfl) rfl g2b hjb ?_
        refine zy_b (mr := zm_m276) rfl rfl (show _ = some (zm_ic .ge z (sz b.toInt.toNat) 328 304, []) from rfl) ?_
        refine zc_ge (fun _ => ?_) (fun e => absurd (Int32.le_iff_toInt_le.mpr (by omega)) e)
        exact zy_sub [(0, .ref 55), (1, .int a), (2, .int b), (3, .int g), (4, .int x), (5, .int z), (6, .int 0)] (by simp) (fun q hq => by simp only [List.mem_cons, List.not_mem_nil, or_false] at hq; rcases hq with rfl | rfl | rfl | rfl | rfl | rfl | rfl <;> rfl) (fin 0 (by rw [ci, cj, xVV2_n, Nat.sub_self]; simp))
      · refine zy_b (mr := zm_m276) rfl rfl (show _ = some (zm_ic .ne z (sz b.toInt.toNat) 187 183, []) from rfl) ?_
        refine zc_ne (fun _ => ?_) (fun e => absurd e (fun z2 => by have z3 := congrArg Int32.toInt z2; omega))
        obtain ⟨y2, hy2, ey2⟩ := ht i (j + 1) (by omega) (by omega) (Or.inr ⟨rfl, Nat.le_refl _⟩)
        refine zy_n 4 (mr := zm_m276) rfl (show _ = some (195, [(6, .int 1000000000), (0, .ref 55), (1, .int a), (2, .int b), (3, .int g), (4, .int x), (5, .int z)], [.ref 55, .int x]) from rfl) ?_
        refine zk_get (mr := zm_m276) rfl rfl hH (hH.2.2 55 rfl) rfl (xfo_ref (k := 55) (f := 2) (a := 57) hH rfl rfl rfl) ?_
        refine zy_n 1 (mr := zm_m276) rfl (show _ = some (199, [(6, .int 1000000000), (0, .ref 55), (1, .int a), (2, .int b), (3, .int g), (4, .int x), (5, .int z)], [.int a, .ref 57, .int x]) from rfl) ?_
        refine zk_ild (mr := zm_m276) rfl rfl hH (hH.2.2 57 rfl) rfl g2a hja ?_
        refine zy_b (mr := zm_m276) rfl rfl (show _ = some (zm_ic .ge x (sz a.toInt.toNat) 258 203, []) from rfl) ?_
        refine zc_ge (fun _ => ?_) (fun e => absurd (Int32.le_iff_toInt_le.mpr (by omega)) e)
        refine zy_n 2 (mr := zm_m276) rfl (show _ = some (261, [(6, .int 1000000000), (0, .ref 55), (1, .int a), (2, .int b), (3, .int g), (4, .int x), (5, .int z)], [.ref 55, .int x]) from rfl) ?_
        refine zk_get (mr := zm_m276) rfl rfl hH (hH.2.2 55 rfl) rfl (xfo_ref (k := 55) (f := 2) (a := 57) hH rfl rfl rfl) ?_
        refine zy_n 1 (mr := zm_m276) rfl (show _ = some (265, [(6, .int 1000000000), (0, .ref 55), (1, .int a), (2, .int b), (3, .int g), (4, .int x), (5, .int z)], [.int a, .ref 57, .int x]) from rfl) ?_
        refine zk_ild (mr := zm_m276) rfl rfl hH (hH.2.2 57 rfl) rfl g2a hja ?_
        refine zy_b (mr := zm_m276) rfl rfl (show _ = some (zm_ic .ge x (sz a.toInt.toNat) 293 269, []) from rfl) ?_
        refine zc_ge (fun _ => ?_) (fun e => absurd (Int32.le_iff_toInt_le.mpr (by omega)) e)
        refine zy_n 2 (mr := zm_m276) rfl (show _ = some (296, [(6, .int 1000000000), (0, .ref 55), (1, .int a), (2, .int b), (3, .int g), (4, .int x), (5, .int z)], [.ref 55, .int z]) from rfl) ?_
        refine zk_get (mr := zm_m276) rfl rfl hH (hH.2.2 55 rfl) rfl (xfo_ref (k := 55) (f := 2) (a := 57) hH rfl rfl rfl) ?_
        refine zy_n 1 (mr := zm_m276) rfl (show _ = some (300, [(6, .int 1000000000), (0, .ref 55), (1, .int a), (2, .int b), (3, .int g), (4, .int x), (5, .int z)], [.int b, .ref 57, .int z]) from rfl) ?_
        refine zk_ild (mr := zm_m276) rfl rfl hH (hH.2.2 57 rfl) rfl g2b hjb ?_
        refine zy_b (mr := zm_m276) rfl rfl (show _ = some (zm_ic .ge z (sz b.toInt.toNat) 328 304, []) from rfl) ?_
        refine zc_ge (fun e => absurd e (fun z2 => by have z3 := Int32.le_iff_toInt_le.mp z2; omega)) (fun _ => ?_)
        refine zy_n 3 (mr := zm_m276) rfl (show _ = some (308, [(6, .int 1000000000), (0, .ref 55), (1, .int a), (2, .int b), (3, .int g), (4, .int x), (5, .int z)], [.ref 55, .int g, .int 1000000000]) from rfl) ?_
        refine zk_get (mr := zm_m276) rfl rfl hH (hH.2.2 55 rfl) rfl (xfo_ref (k := 55) (f := 106) (a := 115) hH rfl rfl rfl) ?_
        refine zy_n 7 (mr := zm_m276) rfl (show _ = some (321, [(6, .int 1000000000), (0, .ref 55), (1, .int a), (2, .int b), (3, .int g), (4, .int x), (5, .int z)], [.int (((61 * x) + z) + 1), .ref 115, .int g, .int 1000000000]) from rfl) ?_
        refine zk_ild (mr := zm_m276) rfl rfl hH (hH.2.2 115 rfl) rfl hy2 (x61m hx hz (by omega) (by omega)).2.2.1 ?_
        refine zy_n 1 (mr := zm_m276) rfl (show _ = some (323, [(6, .int 1000000000), (0, .ref 55), (1, .int a), (2, .int b), (3, .int g), (4, .int x), (5, .int z)], [.int (g + y2), .int 1000000000]) from rfl) ?_
        refine zk_min (mr := zm_m276) rfl rfl rfl (fun v1 ev1 => ?_)
        refine zy_n 1 (mr := zm_m276) rfl (show _ = some (328, [(6, .int v1), (0, .ref 55), (1, .int a), (2, .int b), (3, .int g), (4, .int x), (5, .int z)], []) from rfl) ?_
        have eg : (g + y2).toInt = g.toInt + (xVV2 g.toInt (fun q => (nm a.toInt.toNat q).toInt) (fun q => (nm b.toInt.toNat q).toInt) n m) i (j + 1) := by rw [xadd32 (by omega) (by omega), ey2]
        exact zy_sub [(0, .ref 55), (1, .int a), (2, .int b), (3, .int g), (4, .int x), (5, .int z), (6, .int v1)] (by simp) (fun q hq => by simp only [List.mem_cons, List.not_mem_nil, or_false] at hq; rcases hq with rfl | rfl | rfl | rfl | rfl | rfl | rfl <;> rfl) (fin v1 (by rw [ev1, eg, e9, ci, xVV2_nj (show j < m by omega)]; rw [ci] at b2; omega))
    · refine zy_b (mr := zm_m276) rfl rfl (show _ = some (zm_ic .ne x (sz a.toInt.toNat) 187 172, []) from rfl) ?_
      refine zc_ne (fun _ => ?_) (fun e => absurd e (fun z2 => by have z3 := congrArg Int32.toInt z2; omega))
      refine zy_n 4 (mr := zm_m276) rfl (show _ = some (195, [(6, .int 1000000000), (0, .ref 55), (1, .int a), (2, .int b), (3, .int g), (4, .int x), (5, .int z)], [.ref 55, .int x]) from rfl) ?_
      refine zk_get (mr := zm_m276) rfl rfl hH (hH.2.2 55 rfl) rfl (xfo_ref (k := 55) (f := 2) (a := 57) hH rfl rfl rfl) ?_
      refine zy_n 1 (mr := zm_m276) rfl (show _ = some (199, [(6, .int 1000000000), (0, .ref 55), (1, .int a), (2, .int b), (3, .int g), (4, .int x), (5, .int z)], [.int a, .ref 57, .int x]) from rfl) ?_
      refine zk_ild (mr := zm_m276) rfl rfl hH (hH.2.2 57 rfl) rfl g2a hja ?_
      refine zy_b (mr := zm_m276) rfl rfl (show _ = some (zm_ic .ge x (sz a.toInt.toNat) 258 203, []) from rfl) ?_
      refine zc_ge (fun e => absurd e (fun z2 => by have z3 := Int32.le_iff_toInt_le.mp z2; omega)) (fun _ => ?_)
      refine zy_n 2 (mr := zm_m276) rfl (show _ = some (206, [(6, .int 1000000000), (0, .ref 55), (1, .int a), (2, .int b), (3, .int g), (4, .int x), (5, .int z)], [.ref 55, .int z]) from rfl) ?_
      refine zk_get (mr := zm_m276) rfl rfl hH (hH.2.2 55 rfl) rfl (xfo_ref (k := 55) (f := 2) (a := 57) hH rfl rfl rfl) ?_
      refine zy_n 1 (mr := zm_m276) rfl (show _ = some (210, [(6, .int 1000000000), (0, .ref 55), (1, .int a), (2, .int b), (3, .int g), (4, .int x), (5, .int z)], [.int b, .ref 57, .int z]) from rfl) ?_
      refine zk_ild (mr := zm_m276) rfl rfl hH (hH.2.2 57 rfl) rfl g2b hjb ?_
      by_cases cj : j = m
      · refine zy_b (mr := zm_m276) rfl rfl (show _ = some (zm_ic .ge z (sz b.toInt.toNat) 258 214, []) from rfl) ?_
        refine zc_ge (fun _ => ?_) (fun e => absurd (Int32.le_iff_toInt_le.mpr (by omega)) e)
        obtain ⟨y1, hy1, ey1⟩ := ht (i + 1) j (by omega) (by omega) (Or.inl (by omega))
        refine zy_n 2 (mr := zm_m276) rfl (show _ = some (261, [(6, .int 1000000000), (0, .ref 55), (1, .int a), (2, .int b), (3, .int g), (4, .int x), (5, .int z)], [.ref 55, .int x]) from rfl) ?_
        refine zk_get (mr := zm_m276) rfl rfl hH (hH.2.2 55 rfl) rfl (xfo_ref (k := 55) (f := 2) (a := 57) hH rfl rfl rfl) ?_
        refine zy_n 1 (mr := zm_m276) rfl (show _ = some (265, [(6, .int 1000000000), (0, .ref 55), (1, .int a), (2, .int b), (3, .int g), (4, .int x), (5, .int z)], [.int a, .ref 57, .int x]) from rfl) ?_
        refine zk_ild (mr := zm_m276) rfl rfl hH (hH.2.2 57 rfl) rfl g2a hja ?_
        refine zy_b (mr := zm_m276) rfl rfl (show _ = some (zm_ic .ge x (sz a.toInt.toNat) 293 269, []) from rfl) ?_
        refine zc_ge (fun e => absurd e (fun z2 => by have z3 := Int32.le_iff_toInt_le.mp z2; omega)) (fun _ => ?_)
        refine zy_n 3 (mr := zm_m276) rfl (show _ = some (273, [(6, .int 1000000000), (0, .ref 55), (1, .int a), (2, .int b), (3, .int g), (4, .int x), (5, .int z)], [.ref 55, .int g, .int 1000000000]) from rfl) ?_
        refine zk_get (mr := zm_m276) rfl rfl hH (hH.2.2 55 rfl) rfl (xfo_ref (k := 55) (f := 106) (a := 115) hH rfl rfl rfl) ?_
        refine zy_n 7 (mr := zm_m276) rfl (show _ = some (286, [(6, .int 1000000000), (0, .ref 55), (1, .int a), (2, .int b), (3, .int g), (4, .int x), (5, .int z)], [.int ((61 * (x + 1)) + z), .ref 115, .int g, .int 1000000000]) from rfl) ?_
        refine zk_ild (mr := zm_m276) rfl rfl hH (hH.2.2 115 rfl) rfl hy1 (x61m hx hz (by omega) (by omega)).2.1 ?_
        refine zy_n 1 (mr := zm_m276) rfl (show _ = some (288, [(6, .int 1000000000), (0, .ref 55), (1, .int a), (2, .int b), (3, .int g), (4, .int x), (5, .int z)], [.int (g + y1), .int 1000000000]) from rfl) ?_
        refine zk_min (mr := zm_m276) rfl rfl rfl (fun v1 ev1 => ?_)
        refine zy_n 3 (mr := zm_m276) rfl (show _ = some (296, [(6, .int v1), (0, .ref 55), (1, .int a), (2, .int b), (3, .int g), (4, .int x), (5, .int z)], [.ref 55, .int z]) from rfl) ?_
        refine zk_get (mr := zm_m276) rfl rfl hH (hH.2.2 55 rfl) rfl (xfo_ref (k := 55) (f := 2) (a := 57) hH rfl rfl rfl) ?_
        refine zy_n 1 (mr := zm_m276) rfl (show _ = some (300, [(6, .int v1), (0, .ref 55), (1, .int a), (2, .int b), (3, .int g), (4, .int x), (5, .int z)], [.int b, .ref 57, .int z]) from rfl) ?_
        refine zk_ild (mr := zm_m276) rfl rfl hH (hH.2.2 57 rfl) rfl g2b hjb ?_
        refine zy_b (mr := zm_m276) rfl rfl (show _ = some (zm_ic .ge z (sz b.toInt.toNat) 328 304, []) from rfl) ?_
        refine zc_ge (fun _ => ?_) (fun e => absurd (Int32.le_iff_toInt_le.mpr (by omega)) e)
        have eg : (g + y1).toInt = g.toInt + (xVV2 g.toInt (fun q => (nm a.toInt.toNat q).toInt) (fun q => (nm b.toInt.toNat q).toInt) n m) (i + 1) j := by rw [xadd32 (by omega) (by omega), ey1]
        exact zy_sub [(0, .ref 55), (1, .int a), (2, .int b), (3, .int g), (4, .int x), (5, .int z), (6, .int v1)] (by simp) (fun q hq => by simp only [List.mem_cons, List.not_mem_nil, or_false] at hq; rcases hq with rfl | rfl | rfl | rfl | rfl | rfl | rfl <;> rfl) (fin v1 (by rw [ev1, eg, e9, cj, xVV2_im (show i < n by omega)]; rw [cj] at b1; omega))
      · refine zy_b (mr := zm_m276) rfl rfl (show _ = some (zm_ic .ge z (sz b.toInt.toNat) 258 214, []) from rfl) ?_
        refine zc_ge (fun e => absurd e (fun z2 => by have z3 := Int32.le_iff_toInt_le.mp z2; omega)) (fun _ => ?_)
        obtain ⟨y1, hy1, ey1⟩ := ht (i + 1) j (by omega) (by omega) (Or.inl (by omega))
        obtain ⟨y2, hy2, ey2⟩ := ht i (j + 1) (by omega) (by omega) (Or.inr ⟨rfl, Nat.le_refl _⟩)
        obtain ⟨y3, hy3, ey3⟩ := ht (i + 1) (j + 1) (by omega) (by omega) (Or.inl (by omega))
        have hXi := okx i (by omega)
        have hYj := oky j (by omega)
        have ex32 := x6432 (x := nm a.toInt.toNat i) (by omega) (by omega)
        have ey32 := x6432 (x := nm b.toInt.toNat j) (by omega) (by omega)
        refine zy_n 4 (mr := zm_m276) rfl (show _ = some (220, [(6, .int 1000000000), (0, .ref 55), (1, .int a), (2, .int b), (3, .int g), (4, .int x), (5, .int z)], [.int x, .int a, .ref 55, .int 1000000000]) from rfl) ?_
        refine zy_c (mr := zm_m276) (mc := zm_m277) rfl rfl (zk_cm (A := [.int a, .int x]) hH rfl rfl) rfl rfl ?_
        refine (zh_at hH hc hp hx (by omega)).mono (fun q h' hq => ?_)
        obtain ⟨hez, rfl⟩ := hq
        rw [hez]
        refine zy_n 4 (mr := zm_m276) rfl (show _ = some (228, [(6, .int 1000000000), (0, .ref 55), (1, .int a), (2, .int b), (3, .int g), (4, .int x), (5, .int z)], [.int z, .int b, .ref 55, .int ((nm a.toInt.toNat i).toInt32), .int 1000000000]) from rfl) ?_
        refine zy_c (mr := zm_m276) (mc := zm_m277) rfl rfl (zk_cm (A := [.int b, .int z]) hH rfl rfl) rfl rfl ?_
        refine (zh_at hH hc hq hz (by omega)).mono (fun q h' hq => ?_)
        obtain ⟨hez, rfl⟩ := hq
        rw [hez]
        refine zy_n 1 (mr := zm_m276) rfl (show _ = some (232, [(6, .int 1000000000), (0, .ref 55), (1, .int a), (2, .int b), (3, .int g), (4, .int x), (5, .int z)], [.int ((nm b.toInt.toNat j).toInt32), .int ((nm a.toInt.toNat i).toInt32), .int 1000000000]) from rfl) ?_
        refine zy_c (mr := zm_m276) (mc := zm_m257) rfl rfl rfl rfl rfl ?_
        refine (zh_apE (by omega) (by omega)).mono (fun q h' hq => ?_)
        obtain ⟨hez, w, rfl, ew⟩ := hq
        rw [hez]
        refine zy_n 1 (mr := zm_m276) rfl (show _ = some (236, [(6, .int 1000000000), (0, .ref 55), (1, .int a), (2, .int b), (3, .int g), (4, .int x), (5, .int z)], [.ref 55, .int w, .int 1000000000]) from rfl) ?_
        refine zk_get (mr := zm_m276) rfl rfl hH (hH.2.2 55 rfl) rfl (xfo_ref (k := 55) (f := 106) (a := 115) hH rfl rfl rfl) ?_
        refine zy_n 9 (mr := zm_m276) rfl (show _ = some (251, [(6, .int 1000000000), (0, .ref 55), (1, .int a), (2, .int b), (3, .int g), (4, .int x), (5, .int z)], [.int (((61 * (x + 1)) + z) + 1), .ref 115, .int w, .int 1000000000]) from rfl) ?_
        refine zk_ild (mr := zm_m276) rfl rfl hH (hH.2.2 115 rfl) rfl hy3 (x61m hx hz (by omega) (by omega)).2.2.2 ?_
        refine zy_n 1 (mr := zm_m276) rfl (show _ = some (253, [(6, .int 1000000000), (0, .ref 55), (1, .int a), (2, .int b), (3, .int g), (4, .int x), (5, .int z)], [.int (w + y3), .int 1000000000]) from rfl) ?_
        refine zk_min (mr := zm_m276) rfl rfl rfl (fun v1 ev1 => ?_)
        refine zy_n 3 (mr := zm_m276) rfl (show _ = some (261, [(6, .int v1), (0, .ref 55), (1, .int a), (2, .int b), (3, .int g), (4, .int x), (5, .int z)], [.ref 55, .int x]) from rfl) ?_
        refine zk_get (mr := zm_m276) rfl rfl hH (hH.2.2 55 rfl) rfl (xfo_ref (k := 55) (f := 2) (a := 57) hH rfl rfl rfl) ?_
        refine zy_n 1 (mr := zm_m276) rfl (show _ = some (265, [(6, .int v1), (0, .ref 55), (1, .int a), (2, .int b), (3, .int g), (4, .int x), (5, .int z)], [.int a, .ref 57, .int x]) from rfl) ?_
        refine zk_ild (mr := zm_m276) rfl rfl hH (hH.2.2 57 rfl) rfl g2a hja ?_
        refine zy_b (mr := zm_m276) rfl rfl (show _ = some (zm_ic .ge x (sz a.toInt.toNat) 293 269, []) from rfl) ?_
        refine zc_ge (fun e => absurd e (fun z2 => by have z3 := Int32.le_iff_toInt_le.mp z2; omega)) (fun _ => ?_)
        refine zy_n 3 (mr := zm_m276) rfl (show _ = some (273, [(6, .int v1), (0, .ref 55), (1, .int a), (2, .int b), (3, .int g), (4, .int x), (5, .int z)], [.ref 55, .int g, .int v1]) from rfl) ?_
        refine zk_get (mr := zm_m276) rfl rfl hH (hH.2.2 55 rfl) rfl (xfo_ref (k := 55) (f := 106) (a := 115) hH rfl rfl rfl) ?_
        refine zy_n 7 (mr := zm_m276) rfl (show _ = some (286, [(6, .int v1), (0, .ref 55), (1, .int a), (2, .int b), (3, .int g), (4, .int x), (5, .int z)], [.int ((61 * (x + 1)) + z), .ref 115, .int g, .int v1]) from rfl) ?_
        refine zk_ild (mr := zm_m276) rfl rfl hH (hH.2.2 115 rfl) rfl hy1 (x61m hx hz (by omega) (by omega)).2.1 ?_
        refine zy_n 1 (mr := zm_m276) rfl (show _ = some (288, [(6, .int v1), (0, .ref 55), (1, .int a), (2, .int b), (3, .int g), (4, .int x), (5, .int z)], [.int (g + y1), .int v1]) from rfl) ?_
        refine zk_min (mr := zm_m276) rfl rfl rfl (fun v2 ev2 => ?_)
        refine zy_n 3 (mr := zm_m276) rfl (show _ = some (296, [(6, .int v2), (0, .ref 55), (1, .int a), (2, .int b), (3, .int g), (4, .int x), (5, .int z)], [.ref 55, .int z]) from rfl) ?_
        refine zk_get (mr := zm_m276) rfl rfl hH (hH.2.2 55 rfl) rfl (xfo_ref (k := 55) (f := 2) (a := 57) hH rfl rfl rfl) ?_
        refine zy_n 1 (mr := zm_m276) rfl (show _ = some (300, [(6, .int v2), (0, .ref 55), (1, .int a), (2, .int b), (3, .int g), (4, .int x), (5, .int z)], [.int b, .ref 57, .int z]) from rfl) ?_
        refine zk_ild (mr := zm_m276) rfl rfl hH (hH.2.2 57 rfl) rfl g2b hjb ?_
        refine zy_b (mr := zm_m276) rfl rfl (show _ = some (zm_ic .ge z (sz b.toInt.toNat) 328 304, []) from rfl) ?_
        refine zc_ge (fun e => absurd e (fun z2 => by have z3 := Int32.le_iff_toInt_le.mp z2; omega)) (fun _ => ?_)
        refine zy_n 3 (mr := zm_m276) rfl (show _ = some (308, [(6, .int v2), (0, .ref 55), (1, .int a), (2, .int b), (3, .int g), (4, .int x), (5, .int z)], [.ref 55, .int g, .int v2]) from rfl) ?_
        refine zk_get (mr := zm_m276) rfl rfl hH (hH.2.2 55 rfl) rfl (xfo_ref (k := 55) (f := 106) (a := 115) hH rfl rfl rfl) ?_
        refine zy_n 7 (mr := zm_m276) rfl (show _ = some (321, [(6, .int v2), (0, .ref 55), (1, .int a), (2, .int b), (3, .int g), (4, .int x), (5, .int z)], [.int (((61 * x) + z) + 1), .ref 115, .int g, .int v2]) from rfl) ?_
        refine zk_ild (mr := zm_m276) rfl rfl hH (hH.2.2 115 rfl) rfl hy2 (x61m hx hz (by omega) (by omega)).2.2.1 ?_
        refine zy_n 1 (mr := zm_m276) rfl (show _ = some (323, [(6, .int v2), (0, .ref 55), (1, .int a), (2, .int b), (3, .int g), (4, .int x), (5, .int z)], [.int (g + y2), .int v2]) from rfl) ?_
        refine zk_min (mr := zm_m276) rfl rfl rfl (fun v3 ev3 => ?_)
        refine zy_n 1 (mr := zm_m276) rfl (show _ = some (328, [(6, .int v3), (0, .ref 55), (1, .int a), (2, .int b), (3, .int g), (4, .int x), (5, .int z)], []) from rfl) ?_
        rw [ex32, ey32] at ew
        have eg3 : (w + y3).toInt = w.toInt + (xVV2 g.toInt (fun q => (nm a.toInt.toNat q).toInt) (fun q => (nm b.toInt.toNat q).toInt) n m) (i + 1) (j + 1) := by rw [xadd32 (by omega) (by omega), ey3]
        have eg1 : (g + y1).toInt = g.toInt + (xVV2 g.toInt (fun q => (nm a.toInt.toNat q).toInt) (fun q => (nm b.toInt.toNat q).toInt) n m) (i + 1) j := by rw [xadd32 (by omega) (by omega), ey1]
        have eg2 : (g + y2).toInt = g.toInt + (xVV2 g.toInt (fun q => (nm a.toInt.toNat q).toInt) (fun q => (nm b.toInt.toNat q).toInt) n m) i (j + 1) := by rw [xadd32 (by omega) (by omega), ey2]
        exact zy_sub [(0, .ref 55), (1, .int a), (2, .int b), (3, .int g), (4, .int x), (5, .int z), (6, .int v3)] (by simp) (fun q hq => by simp only [List.mem_cons, List.not_mem_nil, or_false] at hq; rcases hq with rfl | rfl | rfl | rfl | rfl | rfl | rfl <;> rfl) (fin v3 (by rw [ev3, ev2, ev1, eg1, eg2, eg3, e9, ew, xVV2_s (show i < n by omega) (show j < m by omega)]; omega))
theorem zy_mo {d n m : Nat} {a b g : Int32} {Q : Option Value → zm_H → Prop} (hp : 0 ≤ a.toInt ∧ a.toInt ≤ 3) (hq : 0 ≤ b.toInt ∧ b.toInt ≤ 3) (hg : 0 ≤ g.toInt ∧ g.toInt ≤ 1000) (hn : (sz a.toInt.toNat).toInt = (n : Int)) (hm : (sz b.toInt.toNat).toInt = (m : Int)) (hn60 : n ≤ 60) (hm60 : m ≤ 60) (okx : xokN nm a.toInt.toNat n) (oky : xokN nm b.toInt.toNat m) : ∀ (ir : Nat) (x : Int32) (h : zm_H), x.toInt = (ir : Int) - 1 → ir ≤ n + 1 → xHI xKT xSG τ h → xX τ h → xRM h wd sz nm → xtbl h 115 (xVV2 g.toInt (fun q => (nm a.toInt.toNat q).toInt) (fun q => (nm b.toInt.toNat q).toInt) n m) n m ir 0 → (∀ h1, xHI xKT xSG τ h1 → xX τ h1 → xW h1 ≤ xW h → xF (xms [(115, 0)]) τ h τ h1 → xRM h1 wd sz nm → xtbl h1 115 (xVV2 g.toInt (fun q => (nm a.toInt.toNat q).toInt) (fun q => (nm b.toInt.toNat q).toInt) n m) n m 0 0 → zm_Y og (d + 2) 276 355 [(0, .ref 55), (1, .int a), (2, .int b), (3, .int g)] [] h1 Q) → zm_Y og (d + 2) 276 143 [(0, .ref 55), (1, .int a), (2, .int b), (3, .int g), (4, .int x)] [] h Q
  | 0, x, h, hx, hi, hH, hX, hc, ht, kk => by
    refine zy_n 1 (mr := zm_m276) rfl (show _ = some (145, [(0, .ref 55), (1, .int a), (2, .int b), (3, .int g), (4, .int x)], [.int x]) from rfl) ?_
    refine zy_b (mr := zm_m276) rfl rfl (show _ = some (zm_if .lt x 355 148, []) from rfl) ?_
    refine zi_lt (fun _ => ?_) (fun e => absurd (Int32.lt_iff_toInt_lt.mpr (by rw [hx]; decide)) e)
    exact zy_sub [(0, .ref 55), (1, .int a), (2, .int b), (3, .int g)] (by simp) (fun q hq => by simp only [List.mem_cons, List.not_mem_nil, or_false] at hq; rcases hq with rfl | rfl | rfl | rfl <;> rfl) (kk h hH hX (Nat.le_refl _) (xF_refl _ _ _) hc ht)
  | i + 1, x, h, hx, hi, hH, hX, hc, ht, kk => by
    have hx : x.toInt = (i : Int) := by omega
    have e0 : (0 : Int32).toInt = 0 := rfl
    have em : (-1 : Int32).toInt = -1 := rfl
    have ht : xtbl h 115 (xVV2 g.toInt (fun q => (nm a.toInt.toNat q).toInt) (fun q => (nm b.toInt.toNat q).toInt) n m) n m i (m + 1) := fun i' j' h1 h2 h3 => ht i' j' h1 h2 (by omega)
    have hlb : b.toInt.toNat < 4 := by omega
    have hjb := xnat b (hq).1
    obtain ⟨g1b, g2b, g3b⟩ := hc _ hlb
    refine zy_n 1 (mr := zm_m276) rfl (show _ = some (145, [(0, .ref 55), (1, .int a), (2, .int b), (3, .int g), (4, .int x)], [.int x]) from rfl) ?_
    refine zy_b (mr := zm_m276) rfl rfl (show _ = some (zm_if .lt x 355 148, []) from rfl) ?_
    refine zi_lt (fun e => absurd e (fun z2 => by have z3 := Int32.lt_iff_toInt_lt.mp z2; omega)) (fun _ => ?_)
    refine zy_n 1 (mr := zm_m276) rfl (show _ = some (149, [(0, .ref 55), (1, .int a), (2, .int b), (3, .int g), (4, .int x)], [.ref 55]) from rfl) ?_
    refine zk_get (mr := zm_m276) rfl rfl hH (hH.2.2 55 rfl) rfl (xfo_ref (k := 55) (f := 2) (a := 57) hH rfl rfl rfl) ?_
    refine zy_n 1 (mr := zm_m276) rfl (show _ = some (153, [(0, .ref 55), (1, .int a), (2, .int b), (3, .int g), (4, .int x)], [.int b, .ref 57]) from rfl) ?_
    refine zk_ild (mr := zm_m276) rfl rfl hH (hH.2.2 57 rfl) rfl g2b hjb ?_
    refine zy_n 1 (mr := zm_m276) rfl (show _ = some (156, [(5, .int (sz b.toInt.toNat)), (0, .ref 55), (1, .int a), (2, .int b), (3, .int g), (4, .int x)], []) from rfl) ?_
    refine zy_sub [(0, .ref 55), (1, .int a), (2, .int b), (3, .int g), (4, .int x), (5, .int (sz b.toInt.toNat))] (by simp) (fun q hq => by simp only [List.mem_cons, List.not_mem_nil, or_false] at hq; rcases hq with rfl | rfl | rfl | rfl | rfl | rfl <;> rfl) (zy_mi (d := d) hp hq hg hn hm hn60 hm60 okx oky (show i ≤ n by omega) hx (m + 1) _ h (by rw [hm]; omega) (Nat.le_refl _) hH hX hc ht (fun h1 hH1 hX1 hW1 hF1 hc1 ht1 => ?_))
    have ih := zy_mo (d := d) hp hq hg hn hm hn60 hm60 okx oky i (x + (-1)) h1 (by rw [xadd32 (by omega) (by omega), hx, em]; omega) (by omega) hH1 hX1 hc1 ht1 (fun h2 a1 a2 a3 a4 a5 a6 => kk h2 a1 a2 (by omega) (xF_trans hF1 a4) a5 a6)
    refine zy_n 2 (mr := zm_m276) rfl (show _ = some (143, [(4, .int (x + (-1))), (0, .ref 55), (1, .int a), (2, .int b), (3, .int g)], []) from rfl) ?_
    exact zy_sub [(0, .ref 55), (1, .int a), (2, .int b), (3, .int g), (4, .int (x + (-1)))] (by simp) (fun q hq => by simp only [List.mem_cons, List.not_mem_nil, or_false] at hq; rcases hq with rfl | rfl | rfl | rfl | rfl <;> rfl) ih
end XR2
