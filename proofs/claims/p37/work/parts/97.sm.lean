/-! PLACES and PAIRS: piece 12 (made by a program) -/
section XR2
set_option maxRecDepth 100000
variable {og : Nat → Option zm_C} {τ τ' : List Nat} {h h' : zm_H} {ms : List (Nat × Nat)} {rp : Nat → Nat} {wd sz : Nat → Int32} {nm : Nat → Nat → Int64}
theorem xPP_up {U : Nat → Int32} {i : Nat} {v : Int32} : (fun q => if q < i + 1 then upd U i v q else -1) = upd (fun q => if q < i then U q else (-1 : Int32)) i v := by
  funext q
  show (if q < i + 1 then (if q = i then v else U q) else -1) = (if q = i then v else if q < i then U q else -1)
  by_cases c : q = i
  · rw [if_pos c, if_pos c, if_pos (by omega)]
  · rw [if_neg c, if_neg c]
    by_cases c2 : q < i
    · rw [if_pos c2, if_pos (by omega)]
    · rw [if_neg c2, if_neg (by omega)]
theorem xPP_no {U : Nat → Int32} {i : Nat} : (fun q => if q < i + 1 then upd U i (-1) q else -1) = (fun q => if q < i then U q else (-1 : Int32)) := by
  rw [xPP_up]
  funext q
  show (if q = i then (-1 : Int32) else if q < i then U q else -1) = if q < i then U q else -1
  by_cases c : q = i
  · rw [if_pos c, if_neg (by omega)]
  · rw [if_neg c]
theorem zy_mt {d n m : Nat} {a b g : Int32} (hp : 0 ≤ a.toInt ∧ a.toInt ≤ 3) (hq : 0 ≤ b.toInt ∧ b.toInt ≤ 3) (hg : 0 ≤ g.toInt ∧ g.toInt ≤ 1000) (hn : (sz a.toInt.toNat).toInt = (n : Int)) (hm : (sz b.toInt.toNat).toInt = (m : Int)) (hn60 : n ≤ 60) (hm60 : m ≤ 60) (okx : xokN nm a.toInt.toNat n) (oky : xokN nm b.toInt.toNat m) : ∀ (f i j : Nat) (x z : Int32) (U : Nat → Int32) (h : zm_H), (n - i) + (m - j) ≤ f → x.toInt = (i : Int) → z.toInt = (j : Int) → i ≤ n → j ≤ m → xHI xKT xSG τ h → xX τ h → xRM h wd sz nm → xfd h 55 108 = some (.int (sz a.toInt.toNat)) → xtbl h 115 (xVV2 g.toInt (fun q => (nm a.toInt.toNat q).toInt) (fun q => (nm b.toInt.toNat q).toInt) n m) n m 0 0 → (∀ q, q < i → xar h 116 q = some (.int (U q))) → zm_Y og (d + 2) 276 371 [(0, .ref 55), (1, .int a), (2, .int b), (3, .int g), (4, .int x), (5, .int z)] [] h (xCO τ h 0 [(116, 0)] (fun r => ∃ v : Int32, r = some (.int v) ∧ v.toInt = (xVV2 g.toInt (fun q => (nm a.toInt.toNat q).toInt) (fun q => (nm b.toInt.toNat q).toInt) n m) 0 0) (fun τ1 h1 => xRM h1 wd sz nm ∧ xfd h1 55 108 = some (.int (sz a.toInt.toNat)) ∧ ∀ q, q < n → xar h1 116 q = some (.int ((xtr (xVV2 g.toInt (fun q => (nm a.toInt.toNat q).toInt) (fun q => (nm b.toInt.toNat q).toInt) n m) (fun p q => (((nm a.toInt.toNat p).toInt - (nm b.toInt.toNat q).toInt).natAbs : Int)) g.toInt n m f i j (fun q => if q < i then U q else -1)) q))))
  | 0, i, j, x, z, U, h, hf, hx, hz, hi, hj, hH, hX, hc, hpl, ht, hU => by
    have hla : a.toInt.toNat < 4 := by omega
    have hja := xnat a (hp).1
    obtain ⟨g1a, g2a, g3a⟩ := hc _ hla
    refine zy_n 2 (mr := zm_m276) rfl (show _ = some (374, [(0, .ref 55), (1, .int a), (2, .int b), (3, .int g), (4, .int x), (5, .int z)], [.ref 55, .int x]) from rfl) ?_
    refine zk_get (mr := zm_m276) rfl rfl hH (hH.2.2 55 rfl) rfl (xfo_ref (k := 55) (f := 2) (a := 57) hH rfl rfl rfl) ?_
    refine zy_n 1 (mr := zm_m276) rfl (show _ = some (378, [(0, .ref 55), (1, .int a), (2, .int b), (3, .int g), (4, .int x), (5, .int z)], [.int a, .ref 57, .int x]) from rfl) ?_
    refine zk_ild (mr := zm_m276) rfl rfl hH (hH.2.2 57 rfl) rfl g2a hja ?_
    refine zy_b (mr := zm_m276) rfl rfl (show _ = some (zm_ic .ge x (sz a.toInt.toNat) 510 382, []) from rfl) ?_
    refine zc_ge (fun _ => ?_) (fun e => absurd (Int32.le_iff_toInt_le.mpr (by omega)) e)
    obtain ⟨yy, hyy, eyy⟩ := ht 0 0 (Nat.zero_le _) (Nat.zero_le _) (Or.inr ⟨rfl, Nat.le_refl _⟩)
    have hyy : xar h 115 0 = some (.int yy) := hyy
    refine zy_n 1 (mr := zm_m276) rfl (show _ = some (511, [(0, .ref 55), (1, .int a), (2, .int b), (3, .int g), (4, .int x), (5, .int z)], [.ref 55]) from rfl) ?_
    refine zk_get (mr := zm_m276) rfl rfl hH (hH.2.2 55 rfl) rfl (xfo_ref (k := 55) (f := 106) (a := 115) hH rfl rfl rfl) ?_
    refine zy_n 1 (mr := zm_m276) rfl (show _ = some (515, [(0, .ref 55), (1, .int a), (2, .int b), (3, .int g), (4, .int x), (5, .int z)], [.int 0, .ref 115]) from rfl) ?_
    refine zk_ild (mr := zm_m276) rfl rfl hH (hH.2.2 115 rfl) rfl hyy (show (0 : Int32).toInt = ((0 : Nat) : Int) from rfl) ?_
    refine zy_r (mr := zm_m276) rfl rfl (show _ = some (some (.int yy)) from rfl) ⟨⟨_, rfl, eyy⟩, τ, hH, hX, Nat.le_add_right _ _, xF_refl _ _ _, hc, hpl, fun q hq2 => ?_⟩
    rw [xtr_end (fun z => by omega), if_pos (by omega)]
    exact hU q (by omega)
  | f + 1, i, j, x, z, U, h, hf, hx, hz, hi, hj, hH, hX, hc, hpl, ht, hU => by
    have hla : a.toInt.toNat < 4 := by omega
    have hja := xnat a (hp).1
    obtain ⟨g1a, g2a, g3a⟩ := hc _ hla
    have hlb : b.toInt.toNat < 4 := by omega
    have hjb := xnat b (hq).1
    obtain ⟨g1a, g2a, g3a⟩ := hc _ hla
    obtain ⟨g1b, g2b, g3b⟩ := hc _ hlb
    refine zy_n 2 (mr := zm_m276) rfl (show _ = some (374, [(0, .ref 55), (1, .int a), (2, .int b), (3, .int g), (4, .int x), (5, .int z)], [.ref 55, .int x]) from rfl) ?_
    refine zk_get (mr := zm_m276) rfl rfl hH (hH.2.2 55 rfl) rfl (xfo_ref (k := 55) (f := 2) (a := 57) hH rfl rfl rfl) ?_
    refine zy_n 1 (mr := zm_m276) rfl (show _ = some (378, [(0, .ref 55), (1, .int a), (2, .int b), (3, .int g), (4, .int x), (5, .int z)], [.int a, .ref 57, .int x]) from rfl) ?_
    refine zk_ild (mr := zm_m276) rfl rfl hH (hH.2.2 57 rfl) rfl g2a hja ?_
    by_cases ci : i < n
    rotate_left
    · refine zy_b (mr := zm_m276) rfl rfl (show _ = some (zm_ic .ge x (sz a.toInt.toNat) 510 382, []) from rfl) ?_
      refine zc_ge (fun _ => ?_) (fun e => absurd (Int32.le_iff_toInt_le.mpr (by omega)) e)
      obtain ⟨yy, hyy, eyy⟩ := ht 0 0 (Nat.zero_le _) (Nat.zero_le _) (Or.inr ⟨rfl, Nat.le_refl _⟩)
      have hyy : xar h 115 0 = some (.int yy) := hyy
      refine zy_n 1 (mr := zm_m276) rfl (show _ = some (511, [(0, .ref 55), (1, .int a), (2, .int b), (3, .int g), (4, .int x), (5, .int z)], [.ref 55]) from rfl) ?_
      refine zk_get (mr := zm_m276) rfl rfl hH (hH.2.2 55 rfl) rfl (xfo_ref (k := 55) (f := 106) (a := 115) hH rfl rfl rfl) ?_
      refine zy_n 1 (mr := zm_m276) rfl (show _ = some (515, [(0, .ref 55), (1, .int a), (2, .int b), (3, .int g), (4, .int x), (5, .int z)], [.int 0, .ref 115]) from rfl) ?_
      refine zk_ild (mr := zm_m276) rfl rfl hH (hH.2.2 115 rfl) rfl hyy (show (0 : Int32).toInt = ((0 : Nat) : Int) from rfl) ?_
      refine zy_r (mr := zm_m276) rfl rfl (show _ = some (some (.int yy)) from rfl) ⟨⟨_, rfl, eyy⟩, τ, hH, hX, Nat.le_add_right _ _, xF_refl _ _ _, hc, hpl, fun q hq2 => ?_⟩
      rw [xtr_end (fun z => by omega), if_pos (by omega)]
      exact hU q (by omega)
    refine zy_b (mr := zm_m276) rfl rfl (show _ = some (zm_ic .ge x (sz a.toInt.toNat) 510 382, []) from rfl) ?_
    refine zc_ge (fun e => absurd e (fun z2 => by have z3 := Int32.le_iff_toInt_le.mp z2; omega)) (fun _ => ?_)
    obtain ⟨y0, hy0, ey0⟩ := ht i j hi hj (by omega)
    obtain ⟨y1, hy1, ey1⟩ := ht (i + 1) j (by omega) hj (by omega)
    have bb := fun i j => xVV2_60 (X := fun q => (nm a.toInt.toNat q).toInt) (Y := fun q => (nm b.toInt.toNat q).toInt) (n := n) (m := m) hg.1 hg.2 hn60 hm60 i j
    have b1 := bb (i + 1) j
    have x1 : (x + 1).toInt = ((i + 1 : Nat) : Int) := by rw [xadd32 (by rw [hx, show (1 : Int32).toInt = 1 from rfl]; omega) (by rw [hx, show (1 : Int32).toInt = 1 from rfl]; omega), hx]; rfl
    have eg : (g + y1).toInt = g.toInt + (xVV2 g.toInt (fun q => (nm a.toInt.toNat q).toInt) (fun q => (nm b.toInt.toNat q).toInt) n m) (i + 1) j := by rw [xadd32 (by omega) (by omega), ey1]
    refine zy_n 1 (mr := zm_m276) rfl (show _ = some (383, [(0, .ref 55), (1, .int a), (2, .int b), (3, .int g), (4, .int x), (5, .int z)], [.ref 55]) from rfl) ?_
    refine zk_get (mr := zm_m276) rfl rfl hH (hH.2.2 55 rfl) rfl (xfo_ref (k := 55) (f := 106) (a := 115) hH rfl rfl rfl) ?_
    refine zy_n 5 (mr := zm_m276) rfl (show _ = some (394, [(0, .ref 55), (1, .int a), (2, .int b), (3, .int g), (4, .int x), (5, .int z)], [.int ((61 * x) + z), .ref 115]) from rfl) ?_
    refine zk_ild (mr := zm_m276) rfl rfl hH (hH.2.2 115 rfl) rfl hy0 (x61m hx hz (by omega) (by omega)).1 ?_
    refine zy_n 3 (mr := zm_m276) rfl (show _ = some (400, [(6, .int y0), (0, .ref 55), (1, .int a), (2, .int b), (3, .int g), (4, .int x), (5, .int z)], [.ref 55, .int z]) from rfl) ?_
    refine zk_get (mr := zm_m276) rfl rfl hH (hH.2.2 55 rfl) rfl (xfo_ref (k := 55) (f := 2) (a := 57) hH rfl rfl rfl) ?_
    refine zy_n 1 (mr := zm_m276) rfl (show _ = some (404, [(6, .int y0), (0, .ref 55), (1, .int a), (2, .int b), (3, .int g), (4, .int x), (5, .int z)], [.int b, .ref 57, .int z]) from rfl) ?_
    refine zk_ild (mr := zm_m276) rfl rfl hH (hH.2.2 57 rfl) rfl g2b hjb ?_
    by_cases cj : j < m
    rotate_left
    · refine zy_b (mr := zm_m276) rfl rfl (show _ = some (zm_ic .ge z (sz b.toInt.toNat) 468 408, []) from rfl) ?_
      refine zc_ge (fun _ => ?_) (fun e => absurd (Int32.le_iff_toInt_le.mpr (by omega)) e)
      refine zy_n 3 (mr := zm_m276) rfl (show _ = some (472, [(6, .int y0), (0, .ref 55), (1, .int a), (2, .int b), (3, .int g), (4, .int x), (5, .int z)], [.ref 55, .int g, .int y0]) from rfl) ?_
      refine zk_get (mr := zm_m276) rfl rfl hH (hH.2.2 55 rfl) rfl (xfo_ref (k := 55) (f := 106) (a := 115) hH rfl rfl rfl) ?_
      refine zy_n 7 (mr := zm_m276) rfl (show _ = some (485, [(6, .int y0), (0, .ref 55), (1, .int a), (2, .int b), (3, .int g), (4, .int x), (5, .int z)], [.int ((61 * (x + 1)) + z), .ref 115, .int g, .int y0]) from rfl) ?_
      refine zk_ild (mr := zm_m276) rfl rfl hH (hH.2.2 115 rfl) rfl hy1 (x61m hx hz (by omega) (by omega)).2.1 ?_
      refine zy_n 1 (mr := zm_m276) rfl (show _ = some (487, [(6, .int y0), (0, .ref 55), (1, .int a), (2, .int b), (3, .int g), (4, .int x), (5, .int z)], [.int (g + y1), .int y0]) from rfl) ?_
      have ej : j = m := by omega
      have e0 : y0.toInt = (g + y1).toInt := by rw [eg, ey0, ej]; exact xVV2_im ci
      refine zy_b (mr := zm_m276) rfl rfl (show _ = some (zm_ic .ne y0 (g + y1) 504 490, []) from rfl) ?_
      refine zc_ne (fun e => absurd (Int32.toInt_inj.mp e0) e) (fun _ => ?_)
      refine zy_n 1 (mr := zm_m276) rfl (show _ = some (491, [(6, .int y0), (0, .ref 55), (1, .int a), (2, .int b), (3, .int g), (4, .int x), (5, .int z)], [.ref 55]) from rfl) ?_
      refine zk_get (mr := zm_m276) rfl rfl hH (hH.2.2 55 rfl) rfl (xfo_ref (k := 55) (f := 107) (a := 116) hH rfl rfl rfl) ?_
      refine zy_n 2 (mr := zm_m276) rfl (show _ = some (497, [(6, .int y0), (0, .ref 55), (1, .int a), (2, .int b), (3, .int g), (4, .int x), (5, .int z)], [.int (-1), .int x, .ref 116]) from rfl) ?_
      refine zk_ist (mr := zm_m276) rfl rfl hH hX (hH.2.2 116 rfl) rfl rfl hx (by omega) List.mem_cons_self ⟨_, rfl, by decide, by decide⟩ ⟨by show (0 : Int) ≤ _; omega, by show _ ≤ (59 : Int); omega, Or.inl rfl⟩ ?_
      intro h1 hH1 hX1 hW1 hs1 hg1 hF1
      have hc := xRM_F hH (hF1 [(116, 0)] rfl) rfl hc
      have hpl := hg1.1 _ _ _ (by simp) hpl
      have ht := xtbl_F (hF1 [(116, 0)] rfl) (hH.2.2 115 rfl) rfl ht
      have hU : ∀ q, q < i + 1 → xar h1 116 q = some (.int (upd U i (-1) q)) := fun q hq2 => by
        by_cases e : q = i
        · subst e
          rw [show upd U q (-1) q = (-1) from if_pos rfl]
          exact hs1
        · rw [show upd U i (-1) q = U q from if_neg e]
          exact hg1.2 _ _ _ (by simp [e]) (hU q (by omega))
      obtain ⟨g1a, g2a, g3a⟩ := hc _ hla
      obtain ⟨g1b, g2b, g3b⟩ := hc _ hlb
      have ih := zy_mt (d := d) hp hq hg hn hm hn60 hm60 okx oky f (i + 1) j (x + 1) z (upd U i (-1)) h1 (by omega) x1 hz (by omega) (by omega) hH1 hX1 hc hpl ht hU
      refine zy_n 3 (mr := zm_m276) rfl (show _ = some (371, [(4, .int (x + 1)), (6, .int y0), (0, .ref 55), (1, .int a), (2, .int b), (3, .int g), (5, .int z)], []) from rfl) ?_
      rw [xtr_end (fun z2 => cj z2.2)]
      rw [xtr_end (fun z2 => cj z2.2)] at ih
      have e9 : ∀ q : Nat, (if q < i + 1 then upd U i (-1) q else -1) = (if q < i then U q else (-1 : Int32)) := fun q => congrFun (xPP_no (U := U) (i := i)) q
      simp only [e9] at ih
      refine (zy_sub [(0, .ref 55), (1, .int a), (2, .int b), (3, .int g), (4, .int (x + 1)), (5, .int z)] (by simp) (fun q hq => by simp only [List.mem_cons, List.not_mem_nil, or_false] at hq; rcases hq with rfl | rfl | rfl | rfl | rfl | rfl <;> rfl) ih).mono (fun r h2 hq => xCO_tr (g1 := 0) (g2 := 0) ((hF1 _ rfl)) (by omega) (Nat.le_refl _) hq)
    refine zy_b (mr := zm_m276) rfl rfl (show _ = some (zm_ic .ge z (sz b.toInt.toNat) 468 408, []) from rfl) ?_
    refine zc_ge (fun e => absurd e (fun z2 => by have z3 := Int32.le_iff_toInt_le.mp z2; omega)) (fun _ => ?_)
    obtain ⟨y3, hy3, ey3⟩ := ht (i + 1) (j + 1) (by omega) (by omega) (by omega)
    have b3 := bb (i + 1) (j + 1)
    have hXi := okx i (by omega)
    have hYj := oky j (by omega)
    have z1 : (z + 1).toInt = ((j + 1 : Nat) : Int) := by rw [xadd32 (by rw [hz, show (1 : Int32).toInt = 1 from rfl]; omega) (by rw [hz, show (1 : Int32).toInt = 1 from rfl]; omega), hz]; rfl
    have ex32 := x6432 (x := nm a.toInt.toNat i) (by omega) (by omega)
    have ey32 := x6432 (x := nm b.toInt.toNat j) (by omega) (by omega)
    refine zy_n 4 (mr := zm_m276) rfl (show _ = some (414, [(6, .int y0), (0, .ref 55), (1, .int a), (2, .int b), (3, .int g), (4, .int x), (5, .int z)], [.int x, .int a, .ref 55, .int y0]) from rfl) ?_
    refine zy_c (mr := zm_m276) (mc := zm_m277) rfl rfl (zk_cm (A := [.int a, .int x]) hH rfl rfl) rfl rfl ?_
    refine (zh_at hH hc hp hx (by omega)).mono (fun q h' hq => ?_)
    obtain ⟨hez, rfl⟩ := hq
    rw [hez]
    refine zy_n 4 (mr := zm_m276) rfl (show _ = some (422, [(6, .int y0), (0, .ref 55), (1, .int a), (2, .int b), (3, .int g), (4, .int x), (5, .int z)], [.int z, .int b, .ref 55, .int ((nm a.toInt.toNat i).toInt32), .int y0]) from rfl) ?_
    refine zy_c (mr := zm_m276) (mc := zm_m277) rfl rfl (zk_cm (A := [.int b, .int z]) hH rfl rfl) rfl rfl ?_
    refine (zh_at hH hc hq hz (by omega)).mono (fun q h' hq => ?_)
    obtain ⟨hez, rfl⟩ := hq
    rw [hez]
    refine zy_n 1 (mr := zm_m276) rfl (show _ = some (426, [(6, .int y0), (0, .ref 55), (1, .int a), (2, .int b), (3, .int g), (4, .int x), (5, .int z)], [.int ((nm b.toInt.toNat j).toInt32), .int ((nm a.toInt.toNat i).toInt32), .int y0]) from rfl) ?_
    refine zy_c (mr := zm_m276) (mc := zm_m257) rfl rfl rfl rfl rfl ?_
    refine (zh_apE (by omega) (by omega)).mono (fun q h' hq => ?_)
    obtain ⟨hez, w, rfl, ew⟩ := hq
    rw [hez]
    refine zy_n 1 (mr := zm_m276) rfl (show _ = some (430, [(6, .int y0), (0, .ref 55), (1, .int a), (2, .int b), (3, .int g), (4, .int x), (5, .int z)], [.ref 55, .int w, .int y0]) from rfl) ?_
    refine zk_get (mr := zm_m276) rfl rfl hH (hH.2.2 55 rfl) rfl (xfo_ref (k := 55) (f := 106) (a := 115) hH rfl rfl rfl) ?_
    refine zy_n 9 (mr := zm_m276) rfl (show _ = some (445, [(6, .int y0), (0, .ref 55), (1, .int a), (2, .int b), (3, .int g), (4, .int x), (5, .int z)], [.int (((61 * (x + 1)) + z) + 1), .ref 115, .int w, .int y0]) from rfl) ?_
    refine zk_ild (mr := zm_m276) rfl rfl hH (hH.2.2 115 rfl) rfl hy3 (x61m hx hz (by omega) (by omega)).2.2.2 ?_
    refine zy_n 1 (mr := zm_m276) rfl (show _ = some (447, [(6, .int y0), (0, .ref 55), (1, .int a), (2, .int b), (3, .int g), (4, .int x), (5, .int z)], [.int (w + y3), .int y0]) from rfl) ?_
    rw [ex32, ey32] at ew
    have eg3 : (w + y3).toInt = w.toInt + (xVV2 g.toInt (fun q => (nm a.toInt.toNat q).toInt) (fun q => (nm b.toInt.toNat q).toInt) n m) (i + 1) (j + 1) := by rw [xadd32 (by omega) (by omega), ey3]
    refine zy_b (mr := zm_m276) rfl rfl (show _ = some (zm_ic .ne y0 (w + y3) 468 450, []) from rfl) ?_
    refine zc_ne (fun c1 => ?_) (fun c1 => ?_)
    · have c1 : ¬ y0.toInt = (w + y3).toInt := fun z2 => c1 (Int32.toInt_inj.mp z2)
      rw [eg3, ew, ey0] at c1
      have d0 : ¬ xdec (xVV2 g.toInt (fun q => (nm a.toInt.toNat q).toInt) (fun q => (nm b.toInt.toNat q).toInt) n m) (fun p q => (((nm a.toInt.toNat p).toInt - (nm b.toInt.toNat q).toInt).natAbs : Int)) g.toInt i j = 0 := by
        unfold xdec
        rw [if_neg c1]
        split <;> decide
      refine zy_n 3 (mr := zm_m276) rfl (show _ = some (472, [(6, .int y0), (0, .ref 55), (1, .int a), (2, .int b), (3, .int g), (4, .int x), (5, .int z)], [.ref 55, .int g, .int y0]) from rfl) ?_
      refine zk_get (mr := zm_m276) rfl rfl hH (hH.2.2 55 rfl) rfl (xfo_ref (k := 55) (f := 106) (a := 115) hH rfl rfl rfl) ?_
      refine zy_n 7 (mr := zm_m276) rfl (show _ = some (485, [(6, .int y0), (0, .ref 55), (1, .int a), (2, .int b), (3, .int g), (4, .int x), (5, .int z)], [.int ((61 * (x + 1)) + z), .ref 115, .int g, .int y0]) from rfl) ?_
      refine zk_ild (mr := zm_m276) rfl rfl hH (hH.2.2 115 rfl) rfl hy1 (x61m hx hz (by omega) (by omega)).2.1 ?_
      refine zy_n 1 (mr := zm_m276) rfl (show _ = some (487, [(6, .int y0), (0, .ref 55), (1, .int a), (2, .int b), (3, .int g), (4, .int x), (5, .int z)], [.int (g + y1), .int y0]) from rfl) ?_
      refine zy_b (mr := zm_m276) rfl rfl (show _ = some (zm_ic .ne y0 (g + y1) 504 490, []) from rfl) ?_
      refine zc_ne (fun c2 => ?_) (fun c2 => ?_)
      · have c2 : ¬ y0.toInt = (g + y1).toInt := fun z2 => c2 (Int32.toInt_inj.mp z2)
        rw [eg, ey0] at c2
        have d1 : ¬ xdec (xVV2 g.toInt (fun q => (nm a.toInt.toNat q).toInt) (fun q => (nm b.toInt.toNat q).toInt) n m) (fun p q => (((nm a.toInt.toNat p).toInt - (nm b.toInt.toNat q).toInt).natAbs : Int)) g.toInt i j = 1 := by
          unfold xdec
          rw [if_neg c1, if_neg c2]
          decide
        have ih := zy_mt (d := d) hp hq hg hn hm hn60 hm60 okx oky f i (j + 1) x (z + 1) U h (by omega) hx z1 (by omega) (by omega) hH hX hc hpl ht hU
        refine zy_n 2 (mr := zm_m276) rfl (show _ = some (371, [(5, .int (z + 1)), (6, .int y0), (0, .ref 55), (1, .int a), (2, .int b), (3, .int g), (4, .int x)], []) from rfl) ?_
        rw [xtr_2 ⟨ci, cj⟩ d0 d1]
        refine (zy_sub [(0, .ref 55), (1, .int a), (2, .int b), (3, .int g), (4, .int x), (5, .int (z + 1))] (by simp) (fun q hq => by simp only [List.mem_cons, List.not_mem_nil, or_false] at hq; rcases hq with rfl | rfl | rfl | rfl | rfl | rfl <;> rfl) ih).mono (fun r h2 hq => xCO_tr (g1 := 0) (g2 := 0) (xF_refl _ _ _) (by omega) (Nat.le_refl _) hq)
      · have c2 := congrArg Int32.toInt c2
        rw [eg, ey0] at c2
        have d1 : xdec (xVV2 g.toInt (fun q => (nm a.toInt.toNat q).toInt) (fun q => (nm b.toInt.toNat q).toInt) n m) (fun p q => (((nm a.toInt.toNat p).toInt - (nm b.toInt.toNat q).toInt).natAbs : Int)) g.toInt i j = 1 := by
          unfold xdec
          rw [if_neg c1, if_pos c2]
        refine zy_n 1 (mr := zm_m276) rfl (show _ = some (491, [(6, .int y0), (0, .ref 55), (1, .int a), (2, .int b), (3, .int g), (4, .int x), (5, .int z)], [.ref 55]) from rfl) ?_
        refine zk_get (mr := zm_m276) rfl rfl hH (hH.2.2 55 rfl) rfl (xfo_ref (k := 55) (f := 107) (a := 116) hH rfl rfl rfl) ?_
        refine zy_n 2 (mr := zm_m276) rfl (show _ = some (497, [(6, .int y0), (0, .ref 55), (1, .int a), (2, .int b), (3, .int g), (4, .int x), (5, .int z)], [.int (-1), .int x, .ref 116]) from rfl) ?_
        refine zk_ist (mr := zm_m276) rfl rfl hH hX (hH.2.2 116 rfl) rfl rfl hx (by omega) List.mem_cons_self ⟨_, rfl, by decide, by decide⟩ ⟨by show (0 : Int) ≤ _; omega, by show _ ≤ (59 : Int); omega, Or.inl rfl⟩ ?_
        intro h1 hH1 hX1 hW1 hs1 hg1 hF1
        have hc := xRM_F hH (hF1 [(116, 0)] rfl) rfl hc
        have hpl := hg1.1 _ _ _ (by simp) hpl
        have ht := xtbl_F (hF1 [(116, 0)] rfl) (hH.2.2 115 rfl) rfl ht
        have hU : ∀ q, q < i + 1 → xar h1 116 q = some (.int (upd U i (-1) q)) := fun q hq2 => by
          by_cases e : q = i
          · subst e
            rw [show upd U q (-1) q = (-1) from if_pos rfl]
            exact hs1
          · rw [show upd U i (-1) q = U q from if_neg e]
            exact hg1.2 _ _ _ (by simp [e]) (hU q (by omega))
        obtain ⟨g1a, g2a, g3a⟩ := hc _ hla
        obtain ⟨g1b, g2b, g3b⟩ := hc _ hlb
        have ih := zy_mt (d := d) hp hq hg hn hm hn60 hm60 okx oky f (i + 1) j (x + 1) z (upd U i (-1)) h1 (by omega) x1 hz (by omega) (by omega) hH1 hX1 hc hpl ht hU
        refine zy_n 3 (mr := zm_m276) rfl (show _ = some (371, [(4, .int (x + 1)), (6, .int y0), (0, .ref 55), (1, .int a), (2, .int b), (3, .int g), (5, .int z)], []) from rfl) ?_
        rw [xtr_1 ⟨ci, cj⟩ d1, ← xPP_no]
        refine (zy_sub [(0, .ref 55), (1, .int a), (2, .int b), (3, .int g), (4, .int (x + 1)), (5, .int z)] (by simp) (fun q hq => by simp only [List.mem_cons, List.not_mem_nil, or_false] at hq; rcases hq with rfl | rfl | rfl | rfl | rfl | rfl <;> rfl) ih).mono (fun r h2 hq => xCO_tr (g1 := 0) (g2 := 0) ((hF1 _ rfl)) (by omega) (Nat.le_refl _) hq)
    · have c1 := congrArg Int32.toInt c1
      rw [eg3, ew, ey0] at c1
      have d0 : xdec (xVV2 g.toInt (fun q => (nm a.toInt.toNat q).toInt) (fun q => (nm b.toInt.toNat q).toInt) n m) (fun p q => (((nm a.toInt.toNat p).toInt - (nm b.toInt.toNat q).toInt).natAbs : Int)) g.toInt i j = 0 := by
        unfold xdec
        rw [if_pos c1]
      refine zy_n 1 (mr := zm_m276) rfl (show _ = some (451, [(6, .int y0), (0, .ref 55), (1, .int a), (2, .int b), (3, .int g), (4, .int x), (5, .int z)], [.ref 55]) from rfl) ?_
      refine zk_get (mr := zm_m276) rfl rfl hH (hH.2.2 55 rfl) rfl (xfo_ref (k := 55) (f := 107) (a := 116) hH rfl rfl rfl) ?_
      refine zy_n 2 (mr := zm_m276) rfl (show _ = some (458, [(6, .int y0), (0, .ref 55), (1, .int a), (2, .int b), (3, .int g), (4, .int x), (5, .int z)], [.int z, .int x, .ref 116]) from rfl) ?_
      refine zk_ist (mr := zm_m276) rfl rfl hH hX (hH.2.2 116 rfl) rfl rfl hx (by omega) List.mem_cons_self ⟨_, rfl, (xb_rng _).1, (xb_rng _).2⟩ ⟨by show (0 : Int) ≤ _; omega, by show _ ≤ (59 : Int); omega, Or.inl rfl⟩ ?_
      intro h1 hH1 hX1 hW1 hs1 hg1 hF1
      have hc := xRM_F hH (hF1 [(116, 0)] rfl) rfl hc
      have hpl := hg1.1 _ _ _ (by simp) hpl
      have ht := xtbl_F (hF1 [(116, 0)] rfl) (hH.2.2 115 rfl) rfl ht
      have hU : ∀ q, q < i + 1 → xar h1 116 q = some (.int (upd U i (Int32.ofNat j) q)) := fun q hq2 => by
        by_cases e : q = i
        · subst e
          rw [show upd U q (Int32.ofNat j) q = (Int32.ofNat j) from if_pos rfl, ← xeqn hz (by omega)]
          exact hs1
        · rw [show upd U i (Int32.ofNat j) q = U q from if_neg e]
          exact hg1.2 _ _ _ (by simp [e]) (hU q (by omega))
      obtain ⟨g1a, g2a, g3a⟩ := hc _ hla
      obtain ⟨g1b, g2b, g3b⟩ := hc _ hlb
      have ih := zy_mt (d := d) hp hq hg hn hm hn60 hm60 okx oky f (i + 1) (j + 1) (x + 1) (z + 1) (upd U i (Int32.ofNat j)) h1 (by omega) x1 z1 (by omega) (by omega) hH1 hX1 hc hpl ht hU
      refine zy_n 4 (mr := zm_m276) rfl (show _ = some (371, [(5, .int (z + 1)), (4, .int (x + 1)), (6, .int y0), (0, .ref 55), (1, .int a), (2, .int b), (3, .int g)], []) from rfl) ?_
      rw [xtr_0 ⟨ci, cj⟩ d0, ← xPP_up]
      refine (zy_sub [(0, .ref 55), (1, .int a), (2, .int b), (3, .int g), (4, .int (x + 1)), (5, .int (z + 1))] (by simp) (fun q hq => by simp only [List.mem_cons, List.not_mem_nil, or_false] at hq; rcases hq with rfl | rfl | rfl | rfl | rfl | rfl <;> rfl) ih).mono (fun r h2 hq => xCO_tr (g1 := 0) (g2 := 0) ((hF1 _ rfl)) (by omega) (Nat.le_refl _) hq)
end XR2
