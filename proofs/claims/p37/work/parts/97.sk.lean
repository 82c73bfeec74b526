/-! PLACES and PAIRS: piece 10 (made by a program) -/
section XR2
set_option maxRecDepth 100000
variable {og : Nat → Option zm_C} {τ τ' : List Nat} {h h' : zm_H} {ms : List (Nat × Nat)} {rp : Nat → Nat} {wd sz : Nat → Int32} {nm : Nat → Nat → Int64}
theorem zh_at {d i : Nat} {a x : Int32} (hH : xHI xKT xSG τ h) (hc : xRM h wd sz nm) (hp : 0 ≤ a.toInt ∧ a.toInt ≤ 3) (hx : x.toInt = (i : Int)) (hi : i < 60) : zm_Y og d 277 0 [(0, .ref 55), (1, .int a), (2, .int x)] [] h (fun r h' => h' = h ∧ r = some (.long (nm a.toInt.toNat i))) := by
  have hla : a.toInt.toNat < 4 := by omega
  refine zy_n 1 (mr := zm_m277) rfl (show _ = some (1, [(0, .ref 55), (1, .int a), (2, .int x)], [.ref 55]) from rfl) ?_
  refine zk_get (mr := zm_m277) rfl rfl hH (hH.2.2 55 rfl) rfl (xfo_ref (k := 55) (f := 3) (a := 58) hH rfl rfl rfl) ?_
  refine zy_n 5 (mr := zm_m277) rfl (show _ = some (10, [(0, .ref 55), (1, .int a), (2, .int x)], [.int (60 * a + x), .ref 58]) from rfl) ?_
  refine zk_lld (mr := zm_m277) rfl rfl hH (hH.2.2 58 rfl) rfl ((hc _ hla).2.2 i hi) (xix hp hx hi) ?_
  exact zy_r (mr := zm_m277) rfl rfl rfl ⟨rfl, rfl⟩
theorem zh_apE {d : Nat} {x y : Int32} (hx : 0 ≤ x.toInt ∧ x.toInt ≤ 10000) (hy : 0 ≤ y.toInt ∧ y.toInt ≤ 10000) : zm_Y og d 257 0 [(0, .int x), (1, .int y)] [] h (fun r h' => h' = h ∧ ∃ v : Int32, r = some (.int v) ∧ v.toInt = ((x.toInt - y.toInt).natAbs : Int)) := by
  refine zy_n 2 (mr := zm_m257) rfl (show _ = some (2, [(0, .int x), (1, .int y)], [.int y, .int x]) from rfl) ?_
  refine zy_b (mr := zm_m257) rfl rfl (show _ = some (zm_ic .ge x y 11 5, []) from rfl) ?_
  refine zc_ge (fun c => ?_) (fun c => ?_)
  · have c := Int32.le_iff_toInt_le.mp c
    refine zy_n 3 (mr := zm_m257) rfl (show _ = some (14, [(0, .int x), (1, .int y)], [.int (x - y)]) from rfl) ?_
    refine zy_r (mr := zm_m257) rfl rfl (show _ = some (some (.int (x - y))) from rfl) ⟨rfl, _, rfl, ?_⟩
    rw [xsub32 (by omega) (by omega)]
    omega
  · have c := Int32.lt_iff_toInt_lt.mp (Int32.not_le.mp c)
    refine zy_n 4 (mr := zm_m257) rfl (show _ = some (14, [(0, .int x), (1, .int y)], [.int (y - x)]) from rfl) ?_
    refine zy_r (mr := zm_m257) rfl rfl (show _ = some (some (.int (y - x))) from rfl) ⟨rfl, _, rfl, ?_⟩
    rw [xsub32 (by omega) (by omega)]
    omega
theorem xVV2_nj {g : Int} {X Y : Nat → Int} {n m j : Nat} (hj : j < m) : xVV2 g X Y n m n j = g + xVV2 g X Y n m n (j + 1) := by
  rw [xVV2_n, xVV2_n, show m - j = (m - (j + 1)) + 1 by omega, Int.natCast_add, Int.add_mul]
  simp
  omega
theorem xVV2_im {g : Int} {X Y : Nat → Int} {n m i : Nat} (hi : i < n) : xVV2 g X Y n m i m = g + xVV2 g X Y n m (i + 1) m := by
  rw [xVV2_m, xVV2_m, show n - i = (n - (i + 1)) + 1 by omega, Int.natCast_add, Int.add_mul]
  simp
  omega
theorem zy_mc1 {d n m : Nat} {a b g : Int32} {Q : Option Value → zm_H → Prop} (hH : xHI xKT xSG τ h) (hc : xRM h wd sz nm) (hp : 0 ≤ a.toInt ∧ a.toInt ≤ 3) (hq : 0 ≤ b.toInt ∧ b.toInt ≤ 3) (hn : (sz a.toInt.toNat).toInt = (n : Int)) (hm : (sz b.toInt.toNat).toInt = (m : Int)) (hn60 : n ≤ 60) (hm60 : m ≤ 60) (kk : xokN nm a.toInt.toNat n → zm_Y og (d + 2) 276 95 [(0, .ref 55), (1, .int a), (2, .int b), (3, .int g)] [] h Q) (kn : ¬ xokN nm a.toInt.toNat n → Q (some (.int (-4))) h) : ∀ (f k : Nat), k + f = n → (∀ i, i < k → 0 ≤ (nm a.toInt.toNat i).toInt ∧ (nm a.toInt.toNat i).toInt ≤ 10000) → zm_Y og (d + 2) 276 58 [(0, .ref 55), (1, .int a), (2, .int b), (3, .int g), (4, .int (Int32.ofNat k))] [] h Q
  | 0, k, hk, hok => by
    have hkn : k = n := by omega
    have hjk := (xofn (k := k) (by omega)).1
    have hla : a.toInt.toNat < 4 := by omega
    have hja := xnat a (hp).1
    obtain ⟨g1a, g2a, g3a⟩ := hc _ hla
    have hlb : b.toInt.toNat < 4 := by omega
    have hjb := xnat b (hq).1
    obtain ⟨g1a, g2a, g3a⟩ := hc _ hla
    obtain ⟨g1b, g2b, g3b⟩ := hc _ hlb
    refine zy_n 2 (mr := zm_m276) rfl (show _ = some (61, [(0, .ref 55), (1, .int a), (2, .int b), (3, .int g), (4, .int (Int32.ofNat k))], [.ref 55, .int (Int32.ofNat k)]) from rfl) ?_
    refine zk_get (mr := zm_m276) rfl rfl hH (hH.2.2 55 rfl) rfl (xfo_ref (k := 55) (f := 2) (a := 57) hH rfl rfl rfl) ?_
    refine zy_n 1 (mr := zm_m276) rfl (show _ = some (65, [(0, .ref 55), (1, .int a), (2, .int b), (3, .int g), (4, .int (Int32.ofNat k))], [.int a, .ref 57, .int (Int32.ofNat k)]) from rfl) ?_
    refine zk_ild (mr := zm_m276) rfl rfl hH (hH.2.2 57 rfl) rfl g2a hja ?_
    refine zy_b (mr := zm_m276) rfl rfl (show _ = some (zm_ic .ge (Int32.ofNat k) (sz a.toInt.toNat) 95 69, []) from rfl) ?_
    refine zc_ge (fun _ => ?_) (fun e => absurd (Int32.le_iff_toInt_le.mpr (by omega)) e)
    exact zy_sub [(0, .ref 55), (1, .int a), (2, .int b), (3, .int g)] (by simp) (fun q hq => by simp only [List.mem_cons, List.not_mem_nil, or_false] at hq; rcases hq with rfl | rfl | rfl | rfl <;> rfl) (kk (by rw [← hkn]; exact hok))
  | f + 1, k, hk, hok => by
    have hjk := (xofn (k := k) (by omega)).1
    have e0 : (0 : Int64).toInt = 0 := rfl
    have e1 : (10000 : Int64).toInt = 10000 := rfl
    have hla : a.toInt.toNat < 4 := by omega
    have hja := xnat a (hp).1
    obtain ⟨g1a, g2a, g3a⟩ := hc _ hla
    have hlb : b.toInt.toNat < 4 := by omega
    have hjb := xnat b (hq).1
    obtain ⟨g1a, g2a, g3a⟩ := hc _ hla
    obtain ⟨g1b, g2b, g3b⟩ := hc _ hlb
    refine zy_n 2 (mr := zm_m276) rfl (show _ = some (61, [(0, .ref 55), (1, .int a), (2, .int b), (3, .int g), (4, .int (Int32.ofNat k))], [.ref 55, .int (Int32.ofNat k)]) from rfl) ?_
    refine zk_get (mr := zm_m276) rfl rfl hH (hH.2.2 55 rfl) rfl (xfo_ref (k := 55) (f := 2) (a := 57) hH rfl rfl rfl) ?_
    refine zy_n 1 (mr := zm_m276) rfl (show _ = some (65, [(0, .ref 55), (1, .int a), (2, .int b), (3, .int g), (4, .int (Int32.ofNat k))], [.int a, .ref 57, .int (Int32.ofNat k)]) from rfl) ?_
    refine zk_ild (mr := zm_m276) rfl rfl hH (hH.2.2 57 rfl) rfl g2a hja ?_
    refine zy_b (mr := zm_m276) rfl rfl (show _ = some (zm_ic .ge (Int32.ofNat k) (sz a.toInt.toNat) 95 69, []) from rfl) ?_
    refine zc_ge (fun e => absurd e (fun z => by have := Int32.le_iff_toInt_le.mp z; omega)) (fun _ => ?_)
    by_cases ck : 0 ≤ (nm a.toInt.toNat k).toInt ∧ (nm a.toInt.toNat k).toInt ≤ 10000
    · refine zy_n 3 (mr := zm_m276) rfl (show _ = some (73, [(0, .ref 55), (1, .int a), (2, .int b), (3, .int g), (4, .int (Int32.ofNat k))], [.int (Int32.ofNat k), .int a, .ref 55]) from rfl) ?_
      refine zy_c (mr := zm_m276) (mc := zm_m277) rfl rfl (zk_cm (A := [.int a, .int (Int32.ofNat k)]) hH rfl rfl) rfl rfl ?_
      refine (zh_at hH hc hp (show (Int32.ofNat k).toInt = ((k : Nat) : Int) from hjk) (by omega)).mono (fun q h' hq => ?_)
      obtain ⟨hez, rfl⟩ := hq
      rw [hez]
      refine zy_n 2 (mr := zm_m276) rfl (show _ = some (80, [(0, .ref 55), (1, .int a), (2, .int b), (3, .int g), (4, .int (Int32.ofNat k))], [.long 10000, .long 0, .long (nm a.toInt.toNat k)]) from rfl) ?_
      refine zy_c (mr := zm_m276) (mc := zm_m183) rfl rfl rfl rfl rfl ?_
      refine zh_minE.mono (fun q h' hq => ?_)
      obtain ⟨hez, rfl⟩ := hq
      rw [hez]
      rw [if_pos (show ((0 : Int64).toInt ≤ (nm a.toInt.toNat k).toInt ∧ (nm a.toInt.toNat k).toInt ≤ (10000 : Int64).toInt) from ck)]
      refine zy_b (mr := zm_m276) rfl rfl (show _ = some (89, []) from rfl) ?_
      have ih := zy_mc1 hH hc hp hq hn hm hn60 hm60 kk kn f (k + 1) (by omega) (fun i hi => by
        by_cases e : i = k
        · subst e
          exact ck
        · exact hok i (by omega))
      refine zy_n 2 (mr := zm_m276) rfl (show _ = some (58, [(4, .int ((Int32.ofNat k) + 1)), (0, .ref 55), (1, .int a), (2, .int b), (3, .int g)], []) from rfl) ?_
      rw [xofs (by omega)]
      exact zy_sub [(0, .ref 55), (1, .int a), (2, .int b), (3, .int g), (4, .int (Int32.ofNat (k + 1)))] (by simp) (fun q hq => by simp only [List.mem_cons, List.not_mem_nil, or_false] at hq; rcases hq with rfl | rfl | rfl | rfl | rfl <;> rfl) ih
    · refine zy_n 3 (mr := zm_m276) rfl (show _ = some (73, [(0, .ref 55), (1, .int a), (2, .int b), (3, .int g), (4, .int (Int32.ofNat k))], [.int (Int32.ofNat k), .int a, .ref 55]) from rfl) ?_
      refine zy_c (mr := zm_m276) (mc := zm_m277) rfl rfl (zk_cm (A := [.int a, .int (Int32.ofNat k)]) hH rfl rfl) rfl rfl ?_
      refine (zh_at hH hc hp (show (Int32.ofNat k).toInt = ((k : Nat) : Int) from hjk) (by omega)).mono (fun q h' hq => ?_)
      obtain ⟨hez, rfl⟩ := hq
      rw [hez]
      refine zy_n 2 (mr := zm_m276) rfl (show _ = some (80, [(0, .ref 55), (1, .int a), (2, .int b), (3, .int g), (4, .int (Int32.ofNat k))], [.long 10000, .long 0, .long (nm a.toInt.toNat k)]) from rfl) ?_
      refine zy_c (mr := zm_m276) (mc := zm_m183) rfl rfl rfl rfl rfl ?_
      refine zh_minE.mono (fun q h' hq => ?_)
      obtain ⟨hez, rfl⟩ := hq
      rw [hez]
      rw [if_neg (show ¬ ((0 : Int64).toInt ≤ (nm a.toInt.toNat k).toInt ∧ (nm a.toInt.toNat k).toInt ≤ (10000 : Int64).toInt) from ck)]
      refine zy_b (mr := zm_m276) rfl rfl (show _ = some (86, []) from rfl) ?_
      refine zy_n 1 (mr := zm_m276) rfl (show _ = some (88, [(0, .ref 55), (1, .int a), (2, .int b), (3, .int g), (4, .int (Int32.ofNat k))], [.int (-4)]) from rfl) ?_
      refine zy_r (mr := zm_m276) rfl rfl (show _ = some (some (.int (-4))) from rfl) (kn (fun z => ck (z k (by omega))))
theorem zy_mc2 {d n m : Nat} {a b g : Int32} {Q : Option Value → zm_H → Prop} (hH : xHI xKT xSG τ h) (hc : xRM h wd sz nm) (hp : 0 ≤ a.toInt ∧ a.toInt ≤ 3) (hq : 0 ≤ b.toInt ∧ b.toInt ≤ 3) (hn : (sz a.toInt.toNat).toInt = (n : Int)) (hm : (sz b.toInt.toNat).toInt = (m : Int)) (hn60 : n ≤ 60) (hm60 : m ≤ 60) (kk : xokN nm b.toInt.toNat m → zm_Y og (d + 2) 276 135 [(0, .ref 55), (1, .int a), (2, .int b), (3, .int g)] [] h Q) (kn : ¬ xokN nm b.toInt.toNat m → Q (some (.int (-4))) h) : ∀ (f k : Nat), k + f = m → (∀ i, i < k → 0 ≤ (nm b.toInt.toNat i).toInt ∧ (nm b.toInt.toNat i).toInt ≤ 10000) → zm_Y og (d + 2) 276 98 [(0, .ref 55), (1, .int a), (2, .int b), (3, .int g), (4, .int (Int32.ofNat k))] [] h Q
  | 0, k, hk, hok => by
    have hkn : k = m := by omega
    have hjk := (xofn (k := k) (by omega)).1
    have hla : a.toInt.toNat < 4 := by omega
    have hja := xnat a (hp).1
    obtain ⟨g1a, g2a, g3a⟩ := hc _ hla
    have hlb : b.toInt.toNat < 4 := by omega
    have hjb := xnat b (hq).1
    obtain ⟨g1a, g2a, g3a⟩ := hc _ hla
    obtain ⟨g1b, g2b, g3b⟩ := hc _ hlb
    refine zy_n 2 (mr := zm_m276) rfl (show _ = some (101, [(0, .ref 55), (1, .int a), (2, .int b), (3, .int g), (4, .int (Int32.ofNat k))], [.ref 55, .int (Int32.ofNat k)]) from rfl) ?_
    refine zk_get (mr := zm_m276) rfl rfl hH (hH.2.2 55 rfl) rfl (xfo_ref (k := 55) (f := 2) (a := 57) hH rfl rfl rfl) ?_
    refine zy_n 1 (mr := zm_m276) rfl (show _ = some (105, [(0, .ref 55), (1, .int a), (2, .int b), (3, .int g), (4, .int (Int32.ofNat k))], [.int b, .ref 57, .int (Int32.ofNat k)]) from rfl) ?_
    refine zk_ild (mr := zm_m276) rfl rfl hH (hH.2.2 57 rfl) rfl g2b hjb ?_
    refine zy_b (mr := zm_m276) rfl rfl (show _ = some (zm_ic .ge (Int32.ofNat k) (sz b.toInt.toNat) 135 109, []) from rfl) ?_
    refine zc_ge (fun _ => ?_) (fun e => absurd (Int32.le_iff_toInt_le.mpr (by omega)) e)
    exact zy_sub [(0, .ref 55), (1, .int a), (2, .int b), (3, .int g)] (by simp) (fun q hq => by simp only [List.mem_cons, List.not_mem_nil, or_false] at hq; rcases hq with rfl | rfl | rfl | rfl <;> rfl) (kk (by rw [← hkn]; exact hok))
  | f + 1, k, hk, hok => by
    have hjk := (xofn (k := k) (by omega)).1
    have e0 : (0 : Int64).toInt = 0 := rfl
    have e1 : (10000 : Int64).toInt = 10000 := rfl
    have hla : a.toInt.toNat < 4 := by omega
    have hja := xnat a (hp).1
    obtain ⟨g1a, g2a, g3a⟩ := hc _ hla
    have hlb : b.toInt.toNat < 4 := by omega
    have hjb := xnat b (hq).1
    obtain ⟨g1a, g2a, g3a⟩ := hc _ hla
    obtain ⟨g1b, g2b, g3b⟩ := hc _ hlb
    refine zy_n 2 (mr := zm_m276) rfl (show _ = some (101, [(0, .ref 55), (1, .int a), (2, .int b), (3, .int g), (4, .int (Int32.ofNat k))], [.ref 55, .int (Int32.ofNat k)]) from rfl) ?_
    refine zk_get (mr := zm_m276) rfl rfl hH (hH.2.2 55 rfl) rfl (xfo_ref (k := 55) (f := 2) (a := 57) hH rfl rfl rfl) ?_
    refine zy_n 1 (mr := zm_m276) rfl (show _ = some (105, [(0, .ref 55), (1, .int a), (2, .int b), (3, .int g), (4, .int (Int32.ofNat k))], [.int b, .ref 57, .int (Int32.ofNat k)]) from rfl) ?_
    refine zk_ild (mr := zm_m276) rfl rfl hH (hH.2.2 57 rfl) rfl g2b hjb ?_
    refine zy_b (mr := zm_m276) rfl rfl (show _ = some (zm_ic .ge (Int32.ofNat k) (sz b.toInt.toNat) 135 109, []) from rfl) ?_
    refine zc_ge (fun e => absurd e (fun z => by have := Int32.le_iff_toInt_le.mp z; omega)) (fun _ => ?_)
    by_cases ck : 0 ≤ (nm b.toInt.toNat k).toInt ∧ (nm b.toInt.toNat k).toInt ≤ 10000
    · refine zy_n 3 (mr := zm_m276) rfl (show _ = some (113, [(0, .ref 55), (1, .int a), (2, .int b), (3, .int g), (4, .int (Int32.ofNat k))], [.int (Int32.ofNat k), .int b, .ref 55]) from rfl) ?_
      refine zy_c (mr := zm_m276) (mc := zm_m277) rfl rfl (zk_cm (A := [.int b, .int (Int32.ofNat k)]) hH rfl rfl) rfl rfl ?_
      refine (zh_at hH hc hq (show (Int32.ofNat k).toInt = ((k : Nat) : Int) from hjk) (by omega)).mono (fun q h' hq => ?_)
      obtain ⟨hez, rfl⟩ := hq
      rw [hez]
      refine zy_n 2 (mr := zm_m276) rfl (show _ = some (120, [(0, .ref 55), (1, .int a), (2, .int b), (3, .int g), (4, .int (Int32.ofNat k))], [.long 10000, .long 0, .long (nm b.toInt.toNat k)]) from rfl) ?_
      refine zy_c (mr := zm_m276) (mc := zm_m183) rfl rfl rfl rfl rfl ?_
      refine zh_minE.mono (fun q h' hq => ?_)
      obtain ⟨hez, rfl⟩ := hq
      rw [hez]
      rw [if_pos (show ((0 : Int64).toInt ≤ (nm b.toInt.toNat k).toInt ∧ (nm b.toInt.toNat k).toInt ≤ (10000 : Int64).toInt) from ck)]
      refine zy_b (mr := zm_m276) rfl rfl (show _ = some (129, []) from rfl) ?_
      have ih := zy_mc2 hH hc hp hq hn hm hn60 hm60 kk kn f (k + 1) (by omega) (fun i hi => by
        by_cases e : i = k
        · subst e
          exact ck
        · exact hok i (by omega))
      refine zy_n 2 (mr := zm_m276) rfl (show _ = some (98, [(4, .int ((Int32.ofNat k) + 1)), (0, .ref 55), (1, .int a), (2, .int b), (3, .int g)], []) from rfl) ?_
      rw [xofs (by omega)]
      exact zy_sub [(0, .ref 55), (1, .int a), (2, .int b), (3, .int g), (4, .int (Int32.ofNat (k + 1)))] (by simp) (fun q hq => by simp only [List.mem_cons, List.not_mem_nil, or_false] at hq; rcases hq with rfl | rfl | rfl | rfl | rfl <;> rfl) ih
    · refine zy_n 3 (mr := zm_m276) rfl (show _ = some (113, [(0, .ref 55), (1, .int a), (2, .int b), (3, .int g), (4, .int (Int32.ofNat k))], [.int (Int32.ofNat k), .int b, .ref 55]) from rfl) ?_
      refine zy_c (mr := zm_m276) (mc := zm_m277) rfl rfl (zk_cm (A := [.int b, .int (Int32.ofNat k)]) hH rfl rfl) rfl rfl ?_
      refine (zh_at hH hc hq (show (Int32.ofNat k).toInt = ((k : Nat) : Int) from hjk) (by omega)).mono (fun q h' hq => ?_)
      obtain ⟨hez, rfl⟩ := hq
      rw [hez]
      refine zy_n 2 (mr := zm_m276) rfl (show _ = some (120, [(0, .ref 55), (1, .int a), (2, .int b), (3, .int g), (4, .int (Int32.ofNat k))], [.long 10000, .long 0, .long (nm b.toInt.toNat k)]) from rfl) ?_
      refine zy_c (mr := zm_m276) (mc := zm_m183) rfl rfl rfl rfl rfl ?_
      refine zh_minE.mono (fun q h' hq => ?_)
      obtain ⟨hez, rfl⟩ := hq
      rw [hez]
      rw [if_neg (show ¬ ((0 : Int64).toInt ≤ (nm b.toInt.toNat k).toInt ∧ (nm b.toInt.toNat k).toInt ≤ (10000 : Int64).toInt) from ck)]
      refine zy_b (mr := zm_m276) rfl rfl (show _ = some (126, []) from rfl) ?_
      refine zy_n 1 (mr := zm_m276) rfl (show _ = some (128, [(0, .ref 55), (1, .int a), (2, .int b), (3, .int g), (4, .int (Int32.ofNat k))], [.int (-4)]) from rfl) ?_
      refine zy_r (mr := zm_m276) rfl rfl (show _ = some (some (.int (-4))) from rfl) (kn (fun z => ck (z k (by omega))))
end XR2
