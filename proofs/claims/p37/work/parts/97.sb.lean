/-! PLACES and PAIRS: piece 1 (made by a program) -/
section XR2
set_option maxRecDepth 100000
variable {og : Nat → Option zm_C} {τ τ' : List Nat} {h h' : zm_H} {ms : List (Nat × Nat)} {rp : Nat → Nat} {wd sz : Nat → Int32} {nm : Nat → Nat → Int64}
theorem zh_ipE {d : Nat} {a : Int32} : zm_Y og (d + 1) 19 0 [(0, .int a)] [] h (fun r h' => h' = h ∧ r = some (.int (if (0 : Int32).toInt ≤ a.toInt ∧ a.toInt ≤ (3 : Int32).toInt then 1 else 0))) := by
  refine zy_n 3 (mr := zm_m19) rfl rfl ?_
  refine zy_c (mr := zm_m19) (mc := zm_m10) rfl rfl rfl rfl rfl ?_
  refine zh_withinE.mono (fun q h' hq => ?_)
  obtain ⟨rfl, rfl⟩ := hq
  by_cases c : (0 : Int32).toInt ≤ a.toInt ∧ a.toInt ≤ (3 : Int32).toInt
  · rw [if_pos c]
    exact zy_r (mr := zm_m19) rfl rfl rfl ⟨rfl, rfl⟩
  · rw [if_neg c]
    exact zy_r (mr := zm_m19) rfl rfl rfl ⟨rfl, rfl⟩
theorem zh_mpE {d : Nat} {a : Int32} : zm_Y og (d + 1) 182 0 [(0, .int a)] [] h (fun r h' => h' = h ∧ r = some (.int (if (0 : Int64).toInt ≤ a.toInt64.toInt ∧ a.toInt64.toInt ≤ (3 : Int64).toInt then 1 else 0))) := by
  refine zy_n 4 (mr := zm_m182) rfl rfl ?_
  refine zy_c (mr := zm_m182) (mc := zm_m183) rfl rfl rfl rfl rfl ?_
  refine zh_minE.mono (fun q h' hq => ?_)
  obtain ⟨rfl, rfl⟩ := hq
  by_cases c : (0 : Int64).toInt ≤ a.toInt64.toInt ∧ a.toInt64.toInt ≤ (3 : Int64).toInt
  · rw [if_pos c]
    exact zy_r (mr := zm_m182) rfl rfl rfl ⟨rfl, rfl⟩
  · rw [if_neg c]
    exact zy_r (mr := zm_m182) rfl rfl rfl ⟨rfl, rfl⟩
def xcut (w : Int32) (v : Int64) : Int64 := if w = 0 then v.toInt32.toInt8.toInt32.toInt64 else if w = 1 then v.toInt32.toInt16.toInt32.toInt64 else if w = 2 then v.toInt32.toInt64 else v
theorem zh_hasE {d : Nat} {a : Int32} (hH : xHI xKT xSG τ h) (hc : xRXa rp τ h wd sz nm) (hp : 0 ≤ a.toInt ∧ a.toInt ≤ 3) : zm_Y og d 20 0 [(0, .ref 45), (1, .int a)] [] h (fun r h' => h' = h ∧ r = some (.int (if ¬ wd a.toInt.toNat = -1 then 1 else 0))) := by
  have hla : a.toInt.toNat < 4 := by omega
  have hja := xnat a (hp).1
  obtain ⟨g1a, g2a, g3a, g4a, g5a⟩ := hc.1 _ hla
  refine zy_n 1 (mr := zm_m20) rfl (show _ = some (1, [(0, .ref 45), (1, .int a)], [.ref 45]) from rfl) ?_
  refine zk_get (mr := zm_m20) rfl rfl hH (hH.2.2 45 rfl) rfl (xfo_ref (k := 45) (f := 1) (a := 51) hH rfl rfl rfl) ?_
  refine zy_n 1 (mr := zm_m20) rfl (show _ = some (5, [(0, .ref 45), (1, .int a)], [.int a, .ref 51]) from rfl) ?_
  refine zk_ild (mr := zm_m20) rfl rfl hH (hH.2.2 51 rfl) rfl g1a hja ?_
  refine zy_n 1 (mr := zm_m20) rfl (show _ = some (7, [(0, .ref 45), (1, .int a)], [.int (-1), .int (wd a.toInt.toNat)]) from rfl) ?_
  refine zy_b (mr := zm_m20) rfl rfl (show _ = some (zm_ic .eq (wd a.toInt.toNat) (-1) 14 10, []) from rfl) ?_
  refine zc_eq (fun c => ?_) (fun c => ?_)
  · refine zy_n 1 (mr := zm_m20) rfl (show _ = some (15, [(0, .ref 45), (1, .int a)], [.int 0]) from rfl) ?_
    refine zy_r (mr := zm_m20) rfl rfl (show _ = some (some (.int 0)) from rfl) ⟨rfl, by rw [if_neg (fun z => z c)]⟩
  · refine zy_n 2 (mr := zm_m20) rfl (show _ = some (15, [(0, .ref 45), (1, .int a)], [.int 1]) from rfl) ?_
    refine zy_r (mr := zm_m20) rfl rfl (show _ = some (some (.int 1)) from rfl) ⟨rfl, by rw [if_pos c]⟩
theorem xl64 {a b : Int32} : (a.toInt64 + b.toInt64).toInt = a.toInt + b.toInt := by
  have ra := xb_rng a
  have rb := xb_rng b
  have ea : xI32a = -2147483648 := rfl
  have eb : xI32b = 2147483647 := rfl
  rw [ea, eb] at ra rb
  have ec : xI64a = -9223372036854775808 := rfl
  have ed : xI64b = 9223372036854775807 := rfl
  rw [Int64.toInt_add, Int32.toInt_toInt64, Int32.toInt_toInt64, xb_bm64 (by omega) (by omega)]
theorem zh_rchE {d : Nat} {a b c : Int32} (hH : xHI xKT xSG τ h) (hc : xRXa rp τ h wd sz nm) (hp : 0 ≤ a.toInt ∧ a.toInt ≤ 3) : zm_Y og d 179 0 [(0, .ref 45), (1, .int a), (2, .int b), (3, .int c)] [] h (fun r h' => h' = h ∧ r = some (.int (if 0 ≤ b.toInt ∧ 0 ≤ c.toInt ∧ b.toInt + c.toInt ≤ (sz a.toInt.toNat).toInt then 1 else 0))) := by
  have hla : a.toInt.toNat < 4 := by omega
  have hja := xnat a (hp).1
  obtain ⟨g1a, g2a, g3a, g4a, g5a⟩ := hc.1 _ hla
  refine zy_n 1 (mr := zm_m179) rfl (show _ = some (1, [(0, .ref 45), (1, .int a), (2, .int b), (3, .int c)], [.int b]) from rfl) ?_
  refine zy_b (mr := zm_m179) rfl rfl (show _ = some (zm_if .lt b 28 4, []) from rfl) ?_
  refine zi_lt (fun c1 => ?_) (fun c1 => ?_)
  · have c1 := Int32.lt_iff_toInt_lt.mp c1
    have e0 : (0 : Int32).toInt = 0 := rfl
    refine zy_n 1 (mr := zm_m179) rfl (show _ = some (29, [(0, .ref 45), (1, .int a), (2, .int b), (3, .int c)], [.int 0]) from rfl) ?_
    refine zy_r (mr := zm_m179) rfl rfl (show _ = some (some (.int 0)) from rfl) ⟨rfl, by rw [if_neg (fun z => by omega)]⟩
  · have c1 := Int32.le_iff_toInt_le.mp (Int32.not_lt.mp c1)
    have e0 : (0 : Int32).toInt = 0 := rfl
    refine zy_n 1 (mr := zm_m179) rfl (show _ = some (5, [(0, .ref 45), (1, .int a), (2, .int b), (3, .int c)], [.int c]) from rfl) ?_
    refine zy_b (mr := zm_m179) rfl rfl (show _ = some (zm_if .lt c 28 8, []) from rfl) ?_
    refine zi_lt (fun c2 => ?_) (fun c2 => ?_)
    · have c2 := Int32.lt_iff_toInt_lt.mp c2
      refine zy_n 1 (mr := zm_m179) rfl (show _ = some (29, [(0, .ref 45), (1, .int a), (2, .int b), (3, .int c)], [.int 0]) from rfl) ?_
      refine zy_r (mr := zm_m179) rfl rfl (show _ = some (some (.int 0)) from rfl) ⟨rfl, by rw [if_neg (fun z => by omega)]⟩
    · have c2 := Int32.le_iff_toInt_le.mp (Int32.not_lt.mp c2)
      refine zy_n 6 (mr := zm_m179) rfl (show _ = some (14, [(0, .ref 45), (1, .int a), (2, .int b), (3, .int c)], [.ref 45, .long (b.toInt64 + c.toInt64)]) from rfl) ?_
      refine zk_get (mr := zm_m179) rfl rfl hH (hH.2.2 45 rfl) rfl (xfo_ref (k := 45) (f := 2) (a := 52) hH rfl rfl rfl) ?_
      refine zy_n 1 (mr := zm_m179) rfl (show _ = some (18, [(0, .ref 45), (1, .int a), (2, .int b), (3, .int c)], [.int a, .ref 52, .long (b.toInt64 + c.toInt64)]) from rfl) ?_
      refine zk_ild (mr := zm_m179) rfl rfl hH (hH.2.2 52 rfl) rfl g2a hja ?_
      refine zy_n 2 (mr := zm_m179) rfl (show _ = some (21, [(0, .ref 45), (1, .int a), (2, .int b), (3, .int c)], [.int (lg_cmp (b.toInt64 + c.toInt64) ((sz a.toInt.toNat).toInt64))]) from rfl) ?_
      refine zy_b (mr := zm_m179) rfl rfl (show _ = some (zm_if .gt (lg_cmp (b.toInt64 + c.toInt64) ((sz a.toInt.toNat).toInt64)) 28 24, []) from rfl) ?_
      refine zi_gt (fun c3 => ?_) (fun c3 => ?_)
      · have c3 := (xlgc _ _).2.mp c3
        rw [xl64, Int32.toInt_toInt64] at c3
        refine zy_n 1 (mr := zm_m179) rfl (show _ = some (29, [(0, .ref 45), (1, .int a), (2, .int b), (3, .int c)], [.int 0]) from rfl) ?_
        refine zy_r (mr := zm_m179) rfl rfl (show _ = some (some (.int 0)) from rfl) ⟨rfl, by rw [if_neg (fun z => by omega)]⟩
      · have c3 := mt (xlgc _ _).2.mpr c3
        rw [xl64, Int32.toInt_toInt64] at c3
        refine zy_n 2 (mr := zm_m179) rfl (show _ = some (29, [(0, .ref 45), (1, .int a), (2, .int b), (3, .int c)], [.int 1]) from rfl) ?_
        refine zy_r (mr := zm_m179) rfl rfl (show _ = some (some (.int 1)) from rfl) ⟨rfl, by rw [if_pos ⟨by omega, by omega, by omega⟩]⟩
theorem yt_x_bad {d : Nat} {a : Int32} (hH : xHI xKT xSG τ h) (hX : xX τ h) (hc : xRXa rp τ h wd sz nm) (hp : ¬ (0 ≤ a.toInt ∧ a.toInt ≤ 3)) : zm_Y og (d + 2) 175 0 [(0, .ref 0), (1, .int a)] [] h (xCO τ h 0 [(51, 0)] (fun r => r = some (.int 0)) (fun τ1 h1 => xRX τ1 h1 wd sz nm)) := by
  refine zy_n 1 (mr := zm_m175) rfl (show _ = some (1, [(0, .ref 0), (1, .int a)], [.int a]) from rfl) ?_
  refine zy_c (mr := zm_m175) (mc := zm_m19) rfl rfl rfl rfl rfl ?_
  refine zh_ipE.mono (fun q h' hq => ?_)
  obtain ⟨hez, rfl⟩ := hq
  rw [hez]
  rw [if_neg (show ¬ ((0 : Int32).toInt ≤ a.toInt ∧ a.toInt ≤ (3 : Int32).toInt) from by rw [show (0 : Int32).toInt = 0 from rfl, show (3 : Int32).toInt = 3 from rfl]; exact hp)]
  refine zy_b (mr := zm_m175) rfl rfl (show _ = some (18, []) from rfl) ?_
  refine zy_n 1 (mr := zm_m175) rfl (show _ = some (19, [(0, .ref 0), (1, .int a)], [.int 0]) from rfl) ?_
  refine zy_r (mr := zm_m175) rfl rfl (show _ = some (some (.int 0)) from rfl) ⟨rfl, τ, hH, hX, Nat.le_add_right _ _, xF_refl _ _ _, ⟨rp, hc⟩⟩
theorem yt_x_no {d : Nat} {a : Int32} (hH : xHI xKT xSG τ h) (hX : xX τ h) (hc : xRXa rp τ h wd sz nm) (hp : 0 ≤ a.toInt ∧ a.toInt ≤ 3) (hn : wd a.toInt.toNat = -1) : zm_Y og (d + 2) 175 0 [(0, .ref 0), (1, .int a)] [] h (xCO τ h 0 [(51, 0)] (fun r => r = some (.int 0)) (fun τ1 h1 => xRX τ1 h1 wd sz nm)) := by
  have hla : a.toInt.toNat < 4 := by omega
  have hja := xnat a (hp).1
  obtain ⟨g1a, g2a, g3a, g4a, g5a⟩ := hc.1 _ hla
  refine zy_n 1 (mr := zm_m175) rfl (show _ = some (1, [(0, .ref 0), (1, .int a)], [.int a]) from rfl) ?_
  refine zy_c (mr := zm_m175) (mc := zm_m19) rfl rfl rfl rfl rfl ?_
  refine zh_ipE.mono (fun q h' hq => ?_)
  obtain ⟨hez, rfl⟩ := hq
  rw [hez]
  rw [if_pos (show (0 : Int32).toInt ≤ a.toInt ∧ a.toInt ≤ (3 : Int32).toInt from by rw [show (0 : Int32).toInt = 0 from rfl, show (3 : Int32).toInt = 3 from rfl]; exact hp)]
  refine zy_b (mr := zm_m175) rfl rfl (show _ = some (7, []) from rfl) ?_
  refine zy_n 1 (mr := zm_m175) rfl (show _ = some (8, [(0, .ref 0), (1, .int a)], [.ref 0]) from rfl) ?_
  refine zk_get (mr := zm_m175) rfl rfl hH (hH.2.2 0 rfl) rfl (xfo_ref (k := 0) (f := 12) (a := 45) hH rfl rfl rfl) ?_
  refine zy_n 1 (mr := zm_m175) rfl (show _ = some (12, [(0, .ref 0), (1, .int a)], [.int a, .ref 45]) from rfl) ?_
  refine zy_c (mr := zm_m175) (mc := zm_m20) rfl rfl (zk_co (A := [.int a]) hH rfl rfl rfl rfl) rfl rfl ?_
  refine (zh_hasE hH hc hp).mono (fun q h' hq => ?_)
  obtain ⟨hez, rfl⟩ := hq
  rw [hez]
  rw [if_neg (fun z => z hn)]
  refine zy_b (mr := zm_m175) rfl rfl (show _ = some (18, []) from rfl) ?_
  refine zy_n 1 (mr := zm_m175) rfl (show _ = some (19, [(0, .ref 0), (1, .int a)], [.int 0]) from rfl) ?_
  refine zy_r (mr := zm_m175) rfl rfl (show _ = some (some (.int 0)) from rfl) ⟨rfl, τ, hH, hX, Nat.le_add_right _ _, xF_refl _ _ _, ⟨rp, hc⟩⟩
theorem yt_x_ok {d : Nat} {a : Int32} (hH : xHI xKT xSG τ h) (hX : xX τ h) (hc : xRXa rp τ h wd sz nm) (hp : 0 ≤ a.toInt ∧ a.toInt ≤ 3) (hn : ¬ wd a.toInt.toNat = -1) (hw : 0 ≤ (wd a.toInt.toNat).toInt ∧ (wd a.toInt.toNat).toInt ≤ 3) : zm_Y og (d + 2) 175 0 [(0, .ref 0), (1, .int a)] [] h (xCO τ h 0 [(51, 0)] (fun r => r = some (.int 1)) (fun τ1 h1 => xRX τ1 h1 (upd wd a.toInt.toNat (-1)) sz nm)) := by
  have hla : a.toInt.toNat < 4 := by omega
  have hja := xnat a (hp).1
  obtain ⟨g1a, g2a, g3a, g4a, g5a⟩ := hc.1 _ hla
  refine zy_n 1 (mr := zm_m175) rfl (show _ = some (1, [(0, .ref 0), (1, .int a)], [.int a]) from rfl) ?_
  refine zy_c (mr := zm_m175) (mc := zm_m19) rfl rfl rfl rfl rfl ?_
  refine zh_ipE.mono (fun q h' hq => ?_)
  obtain ⟨hez, rfl⟩ := hq
  rw [hez]
  rw [if_pos (show (0 : Int32).toInt ≤ a.toInt ∧ a.toInt ≤ (3 : Int32).toInt from by rw [show (0 : Int32).toInt = 0 from rfl, show (3 : Int32).toInt = 3 from rfl]; exact hp)]
  refine zy_b (mr := zm_m175) rfl rfl (show _ = some (7, []) from rfl) ?_
  refine zy_n 1 (mr := zm_m175) rfl (show _ = some (8, [(0, .ref 0), (1, .int a)], [.ref 0]) from rfl) ?_
  refine zk_get (mr := zm_m175) rfl rfl hH (hH.2.2 0 rfl) rfl (xfo_ref (k := 0) (f := 12) (a := 45) hH rfl rfl rfl) ?_
  refine zy_n 1 (mr := zm_m175) rfl (show _ = some (12, [(0, .ref 0), (1, .int a)], [.int a, .ref 45]) from rfl) ?_
  refine zy_c (mr := zm_m175) (mc := zm_m20) rfl rfl (zk_co (A := [.int a]) hH rfl rfl rfl rfl) rfl rfl ?_
  refine (zh_hasE hH hc hp).mono (fun q h' hq => ?_)
  obtain ⟨hez, rfl⟩ := hq
  rw [hez]
  rw [if_pos hn]
  refine zy_b (mr := zm_m175) rfl rfl (show _ = some (20, []) from rfl) ?_
  refine zy_n 1 (mr := zm_m175) rfl (show _ = some (21, [(0, .ref 0), (1, .int a)], [.ref 0]) from rfl) ?_
  refine zk_get (mr := zm_m175) rfl rfl hH (hH.2.2 0 rfl) rfl (xfo_ref (k := 0) (f := 12) (a := 45) hH rfl rfl rfl) ?_
  refine zk_get (mr := zm_m175) rfl rfl hH (hH.2.2 45 rfl) rfl (xfo_ref (k := 45) (f := 1) (a := 51) hH rfl rfl rfl) ?_
  refine zy_n 2 (mr := zm_m175) rfl (show _ = some (29, [(0, .ref 0), (1, .int a)], [.int (-1), .int a, .ref 51]) from rfl) ?_
  refine zk_ist (mr := zm_m175) rfl rfl hH hX (hH.2.2 51 rfl) rfl rfl hja (by omega) List.mem_cons_self ⟨_, rfl, by decide, by decide⟩ ⟨by show (0 : Int) ≤ _; omega, by show _ ≤ (3 : Int); omega, Or.inl rfl⟩ ?_
  intro h1 hH1 hX1 hW1 hs1 hg1 hF1
  have hc := xRXa_wd hH hc hg1 hs1
  obtain ⟨g1a, g2a, g3a, g4a, g5a⟩ := hc.1 _ hla
  refine zy_n 1 (mr := zm_m175) rfl (show _ = some (31, [(0, .ref 0), (1, .int a)], [.int 1]) from rfl) ?_
  refine zy_r (mr := zm_m175) rfl rfl (show _ = some (some (.int 1)) from rfl) ⟨rfl, τ, hH1, hX1, by omega, (hF1 _ rfl), ⟨rp, hc⟩⟩
theorem yt_m_bad {d : Nat} {a : Int32} (hH : xHI xKT xSG τ h) (hX : xX τ h) (hc : xRM h wd sz nm) (hp : ¬ (0 ≤ a.toInt ∧ a.toInt ≤ 3)) : zm_Y og (d + 2) 184 0 [(0, .ref 55), (1, .int a)] [] h (xCO τ h 0 [(55, 0), (56, 0)] (fun r => r = some (.int 0)) (fun τ1 h1 => xRM h1 wd sz nm)) := by
  refine zy_n 2 (mr := zm_m184) rfl (show _ = some (2, [(0, .ref 55), (1, .int a)], [.int 0, .ref 55]) from rfl) ?_
  refine zk_put (mr := zm_m184) rfl rfl hH hX (hH.2.2 55 rfl) rfl rfl rfl rfl ⟨_, List.mem_cons_self, ⟨_, rfl, by decide, by decide⟩⟩ ?_
  intro h1 hH1 hX1 hW1 hs1 hg1 hF1
  have hc := xRM_F hH (hF1 [(55, 0)] rfl) rfl hc
  refine zy_n 1 (mr := zm_m184) rfl (show _ = some (6, [(0, .ref 55), (1, .int a)], [.int a]) from rfl) ?_
  refine zy_c (mr := zm_m184) (mc := zm_m182) rfl rfl rfl rfl rfl ?_
  refine zh_mpE.mono (fun q h' hq => ?_)
  obtain ⟨hez, rfl⟩ := hq
  rw [hez]
  rw [if_neg (show ¬ ((0 : Int64).toInt ≤ a.toInt64.toInt ∧ a.toInt64.toInt ≤ (3 : Int64).toInt) from by rw [Int32.toInt_toInt64, show (0 : Int64).toInt = 0 from rfl, show (3 : Int64).toInt = 3 from rfl]; exact hp)]
  refine zy_b (mr := zm_m184) rfl rfl (show _ = some (21, []) from rfl) ?_
  refine zy_n 1 (mr := zm_m184) rfl (show _ = some (22, [(0, .ref 55), (1, .int a)], [.int 0]) from rfl) ?_
  refine zy_r (mr := zm_m184) rfl rfl (show _ = some (some (.int 0)) from rfl) ⟨rfl, τ, hH1, hX1, by omega, (hF1 _ rfl), hc⟩
theorem yt_m_no {d : Nat} {a : Int32} (hH : xHI xKT xSG τ h) (hX : xX τ h) (hc : xRM h wd sz nm) (hp : 0 ≤ a.toInt ∧ a.toInt ≤ 3) (hn : wd a.toInt.toNat = -1) : zm_Y og (d + 2) 184 0 [(0, .ref 55), (1, .int a)] [] h (xCO τ h 0 [(55, 0), (56, 0)] (fun r => r = some (.int 0)) (fun τ1 h1 => xRM h1 wd sz nm)) := by
  have hla : a.toInt.toNat < 4 := by omega
  have hja := xnat a (hp).1
  obtain ⟨g1a, g2a, g3a⟩ := hc _ hla
  refine zy_n 2 (mr := zm_m184) rfl (show _ = some (2, [(0, .ref 55), (1, .int a)], [.int 0, .ref 55]) from rfl) ?_
  refine zk_put (mr := zm_m184) rfl rfl hH hX (hH.2.2 55 rfl) rfl rfl rfl rfl ⟨_, List.mem_cons_self, ⟨_, rfl, by decide, by decide⟩⟩ ?_
  intro h1 hH1 hX1 hW1 hs1 hg1 hF1
  have hc := xRM_F hH (hF1 [(55, 0)] rfl) rfl hc
  obtain ⟨g1a, g2a, g3a⟩ := hc _ hla
  refine zy_n 1 (mr := zm_m184) rfl (show _ = some (6, [(0, .ref 55), (1, .int a)], [.int a]) from rfl) ?_
  refine zy_c (mr := zm_m184) (mc := zm_m182) rfl rfl rfl rfl rfl ?_
  refine zh_mpE.mono (fun q h' hq => ?_)
  obtain ⟨hez, rfl⟩ := hq
  rw [hez]
  rw [if_pos (show (0 : Int64).toInt ≤ a.toInt64.toInt ∧ a.toInt64.toInt ≤ (3 : Int64).toInt from by rw [Int32.toInt_toInt64, show (0 : Int64).toInt = 0 from rfl, show (3 : Int64).toInt = 3 from rfl]; exact hp)]
  refine zy_b (mr := zm_m184) rfl rfl (show _ = some (12, []) from rfl) ?_
  refine zy_n 1 (mr := zm_m184) rfl (show _ = some (13, [(0, .ref 55), (1, .int a)], [.ref 55]) from rfl) ?_
  refine zk_get (mr := zm_m184) rfl rfl hH1 (hH1.2.2 55 rfl) rfl (xfo_ref (k := 55) (f := 1) (a := 56) hH1 rfl rfl rfl) ?_
  refine zy_n 1 (mr := zm_m184) rfl (show _ = some (17, [(0, .ref 55), (1, .int a)], [.int a, .ref 56]) from rfl) ?_
  refine zk_ild (mr := zm_m184) rfl rfl hH1 (hH1.2.2 56 rfl) rfl g1a hja ?_
  refine zy_b (mr := zm_m184) rfl rfl (show _ = some (zm_if .ge (wd a.toInt.toNat) 23 21, []) from rfl) ?_
  refine zi_ge (fun e => absurd e (by rw [hn]; decide)) (fun _ => ?_)
  refine zy_n 1 (mr := zm_m184) rfl (show _ = some (22, [(0, .ref 55), (1, .int a)], [.int 0]) from rfl) ?_
  refine zy_r (mr := zm_m184) rfl rfl (show _ = some (some (.int 0)) from rfl) ⟨rfl, τ, hH1, hX1, by omega, (hF1 _ rfl), hc⟩
theorem yt_m_ok {d : Nat} {a : Int32} (hH : xHI xKT xSG τ h) (hX : xX τ h) (hc : xRM h wd sz nm) (hp : 0 ≤ a.toInt ∧ a.toInt ≤ 3) (hn : ¬ wd a.toInt.toNat = -1) (hw : 0 ≤ (wd a.toInt.toNat).toInt ∧ (wd a.toInt.toNat).toInt ≤ 3) : zm_Y og (d + 2) 184 0 [(0, .ref 55), (1, .int a)] [] h (xCO τ h 0 [(55, 0), (56, 0)] (fun r => r = some (.int 1)) (fun τ1 h1 => xRM h1 (upd wd a.toInt.toNat (-1)) sz nm)) := by
  have hla : a.toInt.toNat < 4 := by omega
  have hja := xnat a (hp).1
  obtain ⟨g1a, g2a, g3a⟩ := hc _ hla
  refine zy_n 2 (mr := zm_m184) rfl (show _ = some (2, [(0, .ref 55), (1, .int a)], [.int 0, .ref 55]) from rfl) ?_
  refine zk_put (mr := zm_m184) rfl rfl hH hX (hH.2.2 55 rfl) rfl rfl rfl rfl ⟨_, List.mem_cons_self, ⟨_, rfl, by decide, by decide⟩⟩ ?_
  intro h1 hH1 hX1 hW1 hs1 hg1 hF1
  have hc := xRM_F hH (hF1 [(55, 0)] rfl) rfl hc
  obtain ⟨g1a, g2a, g3a⟩ := hc _ hla
  refine zy_n 1 (mr := zm_m184) rfl (show _ = some (6, [(0, .ref 55), (1, .int a)], [.int a]) from rfl) ?_
  refine zy_c (mr := zm_m184) (mc := zm_m182) rfl rfl rfl rfl rfl ?_
  refine zh_mpE.mono (fun q h' hq => ?_)
  obtain ⟨hez, rfl⟩ := hq
  rw [hez]
  rw [if_pos (show (0 : Int64).toInt ≤ a.toInt64.toInt ∧ a.toInt64.toInt ≤ (3 : Int64).toInt from by rw [Int32.toInt_toInt64, show (0 : Int64).toInt = 0 from rfl, show (3 : Int64).toInt = 3 from rfl]; exact hp)]
  refine zy_b (mr := zm_m184) rfl rfl (show _ = some (12, []) from rfl) ?_
  refine zy_n 1 (mr := zm_m184) rfl (show _ = some (13, [(0, .ref 55), (1, .int a)], [.ref 55]) from rfl) ?_
  refine zk_get (mr := zm_m184) rfl rfl hH1 (hH1.2.2 55 rfl) rfl (xfo_ref (k := 55) (f := 1) (a := 56) hH1 rfl rfl rfl) ?_
  refine zy_n 1 (mr := zm_m184) rfl (show _ = some (17, [(0, .ref 55), (1, .int a)], [.int a, .ref 56]) from rfl) ?_
  refine zk_ild (mr := zm_m184) rfl rfl hH1 (hH1.2.2 56 rfl) rfl g1a hja ?_
  refine zy_b (mr := zm_m184) rfl rfl (show _ = some (zm_if .ge (wd a.toInt.toNat) 23 21, []) from rfl) ?_
  refine zi_ge (fun _ => ?_) (fun e => absurd (Int32.le_iff_toInt_le.mpr (by show (0 : Int) ≤ _; omega)) e)
  refine zy_n 1 (mr := zm_m184) rfl (show _ = some (24, [(0, .ref 55), (1, .int a)], [.ref 55]) from rfl) ?_
  refine zk_get (mr := zm_m184) rfl rfl hH1 (hH1.2.2 55 rfl) rfl (xfo_ref (k := 55) (f := 1) (a := 56) hH1 rfl rfl rfl) ?_
  refine zy_n 2 (mr := zm_m184) rfl (show _ = some (29, [(0, .ref 55), (1, .int a)], [.int (-1), .int a, .ref 56]) from rfl) ?_
  refine zk_ist (mr := zm_m184) rfl rfl hH1 hX1 (hH1.2.2 56 rfl) rfl rfl hja (by omega) List.mem_cons_self ⟨_, rfl, by decide, by decide⟩ ⟨by show (0 : Int) ≤ _; omega, by show _ ≤ (3 : Int); omega, Or.inl rfl⟩ ?_
  intro h2 hH2 hX2 hW2 hs2 hg2 hF2
  have hc := xRM_wd hc hg2 hs2
  obtain ⟨g1a, g2a, g3a⟩ := hc _ hla
  refine zy_n 1 (mr := zm_m184) rfl (show _ = some (31, [(0, .ref 55), (1, .int a)], [.int 1]) from rfl) ?_
  refine zy_r (mr := zm_m184) rfl rfl (show _ = some (some (.int 1)) from rfl) ⟨rfl, τ, hH2, hX2, by omega, (xF_trans (hF1 _ rfl) (hF2 _ rfl)), hc⟩
end XR2
