/-! ROOMS and OPENINGS (made by a program) -/
section XR5
set_option maxRecDepth 100000
variable {og : Nat → Option zm_C} {τ τ' : List Nat} {h h' : zm_H} {ms : List (Nat × Nat)} {ad rp : Nat → Nat} {n : Nat} {dn rc oc : Nat → Int32} {st rf : Nat → Int32} {nr y L : Int32} {wk : Nat → Int32} {wd sz : Nat → Int32} {nm : Nat → Nat → Int64}
theorem xsb64 {x y : Int64} (h1 : -1000000000 ≤ x.toInt - y.toInt) (h2 : x.toInt - y.toInt ≤ 1000000000) : (x - y).toInt = x.toInt - y.toInt := by
  have ea : xI64a = -9223372036854775808 := rfl
  have eb : xI64b = 9223372036854775807 := rfl
  rw [Int64.toInt_sub, xb_bm64 (by omega) (by omega)]
abbrev xokO (v : Int64) : Prop := (1 ≤ v.toInt ∧ v.toInt ≤ 30) ∨ (101 ≤ v.toInt ∧ v.toInt ≤ 130) ∨ (-30 ≤ v.toInt ∧ v.toInt ≤ -1) ∨ (-130 ≤ v.toInt ∧ v.toInt ≤ -101)
abbrev xallO (nm : Nat → Nat → Int64) (p n : Nat) : Prop := ∀ i, i < n → xokO (nm p i)
abbrev xbndO (nm : Nat → Nat → Int64) (p n : Nat) : Prop := ∀ i, i < n → -130 ≤ (nm p i).toInt ∧ (nm p i).toInt ≤ 130
theorem zy_aw5 {d n : Nat} {a : Int32} {lo hi : Int64} (hlo : lo.toInt = -130) (hhi : hi.toInt = 130) (hH : xHI xKT xSG τ h) (hc : xRXa rp τ h wd sz nm) (hp : 0 ≤ a.toInt ∧ a.toInt ≤ 3) (hn : (sz a.toInt.toNat).toInt = (n : Int)) (hn60 : n ≤ 60) : ∀ (m k : Nat), k + m = n → (∀ i, i < k → -130 ≤ (nm a.toInt.toNat i).toInt ∧ (nm a.toInt.toNat i).toInt ≤ 130) → zm_Y og d 22 3 [(0, .ref 45), (1, .int a), (2, .long lo), (4, .long hi), (6, .int (Int32.ofNat k))] [] h (fun r h' => h' = h ∧ r = some (.int (if xbndO nm a.toInt.toNat n then 1 else 0)))
  | 0, k, hk, hok => by
    have hkn : k = n := by omega
    have hjk := (xofn (k := k) (by omega)).1
    have hla : a.toInt.toNat < 4 := by omega
    have hja := xnat a (hp).1
    obtain ⟨g1a, g2a, g3a, g4a, g5a⟩ := hc.1 _ hla
    refine zy_n 2 (mr := zm_m22) rfl (show _ = some (6, [(0, .ref 45), (1, .int a), (2, .long lo), (4, .long hi), (6, .int (Int32.ofNat k))], [.ref 45, .int (Int32.ofNat k)]) from rfl) ?_
    refine zk_get (mr := zm_m22) rfl rfl hH (hH.2.2 45 rfl) rfl (xfo_ref (k := 45) (f := 2) (a := 52) hH rfl rfl rfl) ?_
    refine zy_n 1 (mr := zm_m22) rfl (show _ = some (10, [(0, .ref 45), (1, .int a), (2, .long lo), (4, .long hi), (6, .int (Int32.ofNat k))], [.int a, .ref 52, .int (Int32.ofNat k)]) from rfl) ?_
    refine zk_ild (mr := zm_m22) rfl rfl hH (hH.2.2 52 rfl) rfl g2a hja ?_
    refine zy_b (mr := zm_m22) rfl rfl (show _ = some (zm_ic .ge (Int32.ofNat k) (sz a.toInt.toNat) 51 14, []) from rfl) ?_
    refine zc_ge (fun _ => ?_) (fun e => absurd (Int32.le_iff_toInt_le.mpr (by omega)) e)
    refine zy_n 1 (mr := zm_m22) rfl (show _ = some (52, [(0, .ref 45), (1, .int a), (2, .long lo), (4, .long hi), (6, .int (Int32.ofNat k))], [.int 1]) from rfl) ?_
    refine zy_r (mr := zm_m22) rfl rfl (show _ = some (some (.int 1)) from rfl) ⟨rfl, by rw [if_pos (show xbndO nm a.toInt.toNat n from by rw [← hkn]; exact hok)]⟩
  | m + 1, k, hk, hok => by
    have hjk := (xofn (k := k) (by omega)).1
    have hla : a.toInt.toNat < 4 := by omega
    have hja := xnat a (hp).1
    obtain ⟨g1a, g2a, g3a, g4a, g5a⟩ := hc.1 _ hla
    refine zy_n 2 (mr := zm_m22) rfl (show _ = some (6, [(0, .ref 45), (1, .int a), (2, .long lo), (4, .long hi), (6, .int (Int32.ofNat k))], [.ref 45, .int (Int32.ofNat k)]) from rfl) ?_
    refine zk_get (mr := zm_m22) rfl rfl hH (hH.2.2 45 rfl) rfl (xfo_ref (k := 45) (f := 2) (a := 52) hH rfl rfl rfl) ?_
    refine zy_n 1 (mr := zm_m22) rfl (show _ = some (10, [(0, .ref 45), (1, .int a), (2, .long lo), (4, .long hi), (6, .int (Int32.ofNat k))], [.int a, .ref 52, .int (Int32.ofNat k)]) from rfl) ?_
    refine zk_ild (mr := zm_m22) rfl rfl hH (hH.2.2 52 rfl) rfl g2a hja ?_
    refine zy_b (mr := zm_m22) rfl rfl (show _ = some (zm_ic .ge (Int32.ofNat k) (sz a.toInt.toNat) 51 14, []) from rfl) ?_
    refine zc_ge (fun e => absurd e (fun z => by have z2 := Int32.le_iff_toInt_le.mp z; omega)) (fun _ => ?_)
    refine zy_n 1 (mr := zm_m22) rfl (show _ = some (15, [(0, .ref 45), (1, .int a), (2, .long lo), (4, .long hi), (6, .int (Int32.ofNat k))], [.ref 45]) from rfl) ?_
    refine zk_get (mr := zm_m22) rfl rfl hH (hH.2.2 45 rfl) rfl (xfo_ref (k := 45) (f := 0) (a := 46) hH rfl rfl rfl) ?_
    refine zy_n 1 (mr := zm_m22) rfl (show _ = some (19, [(0, .ref 45), (1, .int a), (2, .long lo), (4, .long hi), (6, .int (Int32.ofNat k))], [.int a, .ref 46]) from rfl) ?_
    refine zk_ald (mr := zm_m22) rfl rfl hH (hH.2.2 46 rfl) rfl rfl g3a hja ?_
    refine zy_n 1 (mr := zm_m22) rfl (show _ = some (22, [(0, .ref 45), (1, .int a), (2, .long lo), (4, .long hi), (6, .int (Int32.ofNat k))], [.int (Int32.ofNat k), .ref ((rp a.toInt.toNat))]) from rfl) ?_
    refine zk_lld (mr := zm_m22) rfl rfl hH g4a rfl (g5a _ (by omega)) hjk ?_
    refine zy_n 2 (mr := zm_m22) rfl (show _ = some (25, [(0, .ref 45), (1, .int a), (2, .long lo), (4, .long hi), (6, .int (Int32.ofNat k))], [.int (lg_cmp (nm a.toInt.toNat k) lo)]) from rfl) ?_
    refine zy_b (mr := zm_m22) rfl rfl (show _ = some (zm_if .lt (lg_cmp (nm a.toInt.toNat k) lo) 43 28, []) from rfl) ?_
    refine zi_lt (fun c1 => ?_) (fun c1 => ?_)
    · have c1 := (xlgc _ _).1.mp c1
      refine zy_n 1 (mr := zm_m22) rfl (show _ = some (44, [(0, .ref 45), (1, .int a), (2, .long lo), (4, .long hi), (6, .int (Int32.ofNat k))], [.int 0]) from rfl) ?_
      refine zy_r (mr := zm_m22) rfl rfl (show _ = some (some (.int 0)) from rfl) ⟨rfl, by rw [if_neg (show ¬ xbndO nm a.toInt.toNat n from fun z => by have := z k (by omega); omega)]⟩
    · have c1 := mt (xlgc _ _).1.mpr c1
      refine zy_n 1 (mr := zm_m22) rfl (show _ = some (29, [(0, .ref 45), (1, .int a), (2, .long lo), (4, .long hi), (6, .int (Int32.ofNat k))], [.ref 45]) from rfl) ?_
      refine zk_get (mr := zm_m22) rfl rfl hH (hH.2.2 45 rfl) rfl (xfo_ref (k := 45) (f := 0) (a := 46) hH rfl rfl rfl) ?_
      refine zy_n 1 (mr := zm_m22) rfl (show _ = some (33, [(0, .ref 45), (1, .int a), (2, .long lo), (4, .long hi), (6, .int (Int32.ofNat k))], [.int a, .ref 46]) from rfl) ?_
      refine zk_ald (mr := zm_m22) rfl rfl hH (hH.2.2 46 rfl) rfl rfl g3a hja ?_
      refine zy_n 1 (mr := zm_m22) rfl (show _ = some (36, [(0, .ref 45), (1, .int a), (2, .long lo), (4, .long hi), (6, .int (Int32.ofNat k))], [.int (Int32.ofNat k), .ref ((rp a.toInt.toNat))]) from rfl) ?_
      refine zk_lld (mr := zm_m22) rfl rfl hH g4a rfl (g5a _ (by omega)) hjk ?_
      refine zy_n 2 (mr := zm_m22) rfl (show _ = some (40, [(0, .ref 45), (1, .int a), (2, .long lo), (4, .long hi), (6, .int (Int32.ofNat k))], [.int (lg_cmp (nm a.toInt.toNat k) hi)]) from rfl) ?_
      refine zy_b (mr := zm_m22) rfl rfl (show _ = some (zm_if .le (lg_cmp (nm a.toInt.toNat k) hi) 45 43, []) from rfl) ?_
      refine zi_le (fun c2 => ?_) (fun c2 => ?_)
      · have c2 : ¬ 0 < lg_cmp (nm a.toInt.toNat k) hi := Int32.not_lt.mpr c2
        have c2 := mt (xlgc _ _).2.mpr c2
        have ih := zy_aw5 (d := d) hlo hhi hH hc hp hn hn60 m (k + 1) (by omega) (fun i hi => by
          by_cases e : i = k
          · subst e
            exact ⟨by omega, by omega⟩
          · exact hok i (by omega))
        refine zy_n 2 (mr := zm_m22) rfl (show _ = some (3, [(6, .int ((Int32.ofNat k) + 1)), (0, .ref 45), (1, .int a), (2, .long lo), (4, .long hi)], []) from rfl) ?_
        rw [xofs (by omega)]
        exact zy_sub [(0, .ref 45), (1, .int a), (2, .long lo), (4, .long hi), (6, .int (Int32.ofNat (k + 1)))] (by simp) (fun q hq => by simp only [List.mem_cons, List.not_mem_nil, or_false] at hq; rcases hq with rfl | rfl | rfl | rfl | rfl <;> rfl) ih
      · have c2 : 0 < lg_cmp (nm a.toInt.toNat k) hi := Int32.not_le.mp c2
        have c2 := (xlgc _ _).2.mp c2
        refine zy_n 1 (mr := zm_m22) rfl (show _ = some (44, [(0, .ref 45), (1, .int a), (2, .long lo), (4, .long hi), (6, .int (Int32.ofNat k))], [.int 0]) from rfl) ?_
        refine zy_r (mr := zm_m22) rfl rfl (show _ = some (some (.int 0)) from rfl) ⟨rfl, by rw [if_neg (show ¬ xbndO nm a.toInt.toNat n from fun z => by have := z k (by omega); omega)]⟩
theorem zh_aw5 {d n : Nat} {a : Int32} {lo hi : Int64} (hlo : lo.toInt = -130) (hhi : hi.toInt = 130) (hH : xHI xKT xSG τ h) (hc : xRXa rp τ h wd sz nm) (hp : 0 ≤ a.toInt ∧ a.toInt ≤ 3) (hn : (sz a.toInt.toNat).toInt = (n : Int)) (hn60 : n ≤ 60) : zm_Y og d 22 0 [(0, .ref 45), (1, .int a), (2, .long lo), (4, .long hi)] [] h (fun r h' => h' = h ∧ r = some (.int (if xbndO nm a.toInt.toNat n then 1 else 0))) := by
  refine zy_n 2 (mr := zm_m22) rfl (show _ = some (3, [(6, .int 0), (0, .ref 45), (1, .int a), (2, .long lo), (4, .long hi)], []) from rfl) ?_
  exact zy_sub [(0, .ref 45), (1, .int a), (2, .long lo), (4, .long hi), (6, .int (Int32.ofNat 0))] (by simp) (fun q hq => by simp only [List.mem_cons, List.not_mem_nil, or_false] at hq; rcases hq with rfl | rfl | rfl | rfl | rfl <;> rfl) (zy_aw5 hlo hhi hH hc hp hn hn60 n 0 (by omega) (fun i hi => absurd hi (Nat.not_lt_zero i)))
theorem zy_to {d n : Nat} {a : Int32} (hH : xHI xKT xSG τ h) (hc : xRXa rp τ h wd sz nm) (hp : 0 ≤ a.toInt ∧ a.toInt ≤ 3) (hn : (sz a.toInt.toNat).toInt = (n : Int)) (hn60 : n ≤ 60) (hb : xbndO nm a.toInt.toNat n) : ∀ (m k : Nat), k + m = n → (∀ i, i < k → xokO (nm a.toInt.toNat i)) → zm_Y og d 21 26 [(0, .ref 45), (1, .int a), (2, .int 100), (3, .int (Int32.ofNat k))] [] h (fun r h' => h' = h ∧ r = some (.int (if xallO nm a.toInt.toNat n then 1 else 0)))
  | 0, k, hk, hok => by
    have hkn : k = n := by omega
    have hjk := (xofn (k := k) (by omega)).1
    have hla : a.toInt.toNat < 4 := by omega
    have hja := xnat a (hp).1
    obtain ⟨g1a, g2a, g3a, g4a, g5a⟩ := hc.1 _ hla
    refine zy_n 2 (mr := zm_m21) rfl (show _ = some (28, [(0, .ref 45), (1, .int a), (2, .int 100), (3, .int (Int32.ofNat k))], [.ref 45, .int (Int32.ofNat k)]) from rfl) ?_
    refine zk_get (mr := zm_m21) rfl rfl hH (hH.2.2 45 rfl) rfl (xfo_ref (k := 45) (f := 2) (a := 52) hH rfl rfl rfl) ?_
    refine zy_n 1 (mr := zm_m21) rfl (show _ = some (32, [(0, .ref 45), (1, .int a), (2, .int 100), (3, .int (Int32.ofNat k))], [.int a, .ref 52, .int (Int32.ofNat k)]) from rfl) ?_
    refine zk_ild (mr := zm_m21) rfl rfl hH (hH.2.2 52 rfl) rfl g2a hja ?_
    refine zy_b (mr := zm_m21) rfl rfl (show _ = some (zm_ic .ge (Int32.ofNat k) (sz a.toInt.toNat) 93 36, []) from rfl) ?_
    refine zc_ge (fun _ => ?_) (fun e => absurd (Int32.le_iff_toInt_le.mpr (by omega)) e)
    refine zy_n 1 (mr := zm_m21) rfl (show _ = some (94, [(0, .ref 45), (1, .int a), (2, .int 100), (3, .int (Int32.ofNat k))], [.int 1]) from rfl) ?_
    refine zy_r (mr := zm_m21) rfl rfl (show _ = some (some (.int 1)) from rfl) ⟨rfl, by rw [if_pos (show xallO nm a.toInt.toNat n from by rw [← hkn]; exact hok)]⟩
  | m + 1, k, hk, hok => by
    have hjk := (xofn (k := k) (by omega)).1
    have hbk := hb k (by omega)
    have e1 : (1 : Int64).toInt = 1 := rfl
    have e30 : (30 : Int64).toInt = 30 := rfl
    have e100 : (100 : Int64).toInt = 100 := rfl
    have hla : a.toInt.toNat < 4 := by omega
    have hja := xnat a (hp).1
    obtain ⟨g1a, g2a, g3a, g4a, g5a⟩ := hc.1 _ hla
    refine zy_n 2 (mr := zm_m21) rfl (show _ = some (28, [(0, .ref 45), (1, .int a), (2, .int 100), (3, .int (Int32.ofNat k))], [.ref 45, .int (Int32.ofNat k)]) from rfl) ?_
    refine zk_get (mr := zm_m21) rfl rfl hH (hH.2.2 45 rfl) rfl (xfo_ref (k := 45) (f := 2) (a := 52) hH rfl rfl rfl) ?_
    refine zy_n 1 (mr := zm_m21) rfl (show _ = some (32, [(0, .ref 45), (1, .int a), (2, .int 100), (3, .int (Int32.ofNat k))], [.int a, .ref 52, .int (Int32.ofNat k)]) from rfl) ?_
    refine zk_ild (mr := zm_m21) rfl rfl hH (hH.2.2 52 rfl) rfl g2a hja ?_
    refine zy_b (mr := zm_m21) rfl rfl (show _ = some (zm_ic .ge (Int32.ofNat k) (sz a.toInt.toNat) 93 36, []) from rfl) ?_
    refine zc_ge (fun e => absurd e (fun z => by have z2 := Int32.le_iff_toInt_le.mp z; omega)) (fun _ => ?_)
    refine zy_n 1 (mr := zm_m21) rfl (show _ = some (37, [(0, .ref 45), (1, .int a), (2, .int 100), (3, .int (Int32.ofNat k))], [.ref 45]) from rfl) ?_
    refine zk_get (mr := zm_m21) rfl rfl hH (hH.2.2 45 rfl) rfl (xfo_ref (k := 45) (f := 0) (a := 46) hH rfl rfl rfl) ?_
    refine zy_n 1 (mr := zm_m21) rfl (show _ = some (41, [(0, .ref 45), (1, .int a), (2, .int 100), (3, .int (Int32.ofNat k))], [.int a, .ref 46]) from rfl) ?_
    refine zk_ald (mr := zm_m21) rfl rfl hH (hH.2.2 46 rfl) rfl rfl g3a hja ?_
    refine zy_n 1 (mr := zm_m21) rfl (show _ = some (43, [(0, .ref 45), (1, .int a), (2, .int 100), (3, .int (Int32.ofNat k))], [.int (Int32.ofNat k), .ref ((rp a.toInt.toNat))]) from rfl) ?_
    refine zk_lld (mr := zm_m21) rfl rfl hH g4a rfl (g5a _ (by omega)) hjk ?_
    refine zk_absL (mr := zm_m21) rfl rfl rfl (by omega) (fun v1 ev1 => ?_)
    refine zy_n 5 (mr := zm_m21) rfl (show _ = some (54, [(4, .long v1), (0, .ref 45), (1, .int a), (2, .int 100), (3, .int (Int32.ofNat k))], [.int (lg_cmp v1 100)]) from rfl) ?_
    refine zy_b (mr := zm_m21) rfl rfl (show _ = some (zm_if .le (lg_cmp v1 100) 65 57, []) from rfl) ?_
    refine zi_le (fun c1 => ?_) (fun c1 => ?_)
    · have c1 := mt (xlgc _ _).2.mpr (Int32.not_lt.mpr c1)
      refine zy_n 5 (mr := zm_m21) rfl (show _ = some (73, [(6, .long v1), (4, .long v1), (0, .ref 45), (1, .int a), (2, .int 100), (3, .int (Int32.ofNat k))], [.int (lg_cmp v1 1)]) from rfl) ?_
      refine zy_b (mr := zm_m21) rfl rfl (show _ = some (zm_if .lt (lg_cmp v1 1) 85 76, []) from rfl) ?_
      refine zi_lt (fun c2 => ?_) (fun c2 => ?_)
      · have c2 := (xlgc _ _).1.mp c2
        refine zy_n 1 (mr := zm_m21) rfl (show _ = some (86, [(6, .long v1), (4, .long v1), (0, .ref 45), (1, .int a), (2, .int 100), (3, .int (Int32.ofNat k))], [.int 0]) from rfl) ?_
        refine zy_r (mr := zm_m21) rfl rfl (show _ = some (some (.int 0)) from rfl) ⟨rfl, by rw [if_neg (show ¬ xallO nm a.toInt.toNat n from fun z => by have z2 := z k (by omega); unfold xokO at z2; omega)]⟩
      · have c2 := mt (xlgc _ _).1.mpr c2
        refine zy_n 3 (mr := zm_m21) rfl (show _ = some (82, [(6, .long v1), (4, .long v1), (0, .ref 45), (1, .int a), (2, .int 100), (3, .int (Int32.ofNat k))], [.int (lg_cmp v1 30)]) from rfl) ?_
        refine zy_b (mr := zm_m21) rfl rfl (show _ = some (zm_if .le (lg_cmp v1 30) 87 85, []) from rfl) ?_
        refine zi_le (fun c3 => ?_) (fun c3 => ?_)
        · have c3 : ¬ 0 < lg_cmp v1 30 := Int32.not_lt.mpr c3
          have c3 := mt (xlgc _ _).2.mpr c3
          have ih := zy_to (d := d) hH hc hp hn hn60 hb m (k + 1) (by omega) (fun i hi => by
            by_cases e : i = k
            · subst e
              show xokO _
              unfold xokO
              omega
            · exact hok i (by omega))
          refine zy_n 2 (mr := zm_m21) rfl (show _ = some (26, [(3, .int ((Int32.ofNat k) + 1)), (6, .long v1), (4, .long v1), (0, .ref 45), (1, .int a), (2, .int 100)], []) from rfl) ?_
          rw [xofs (by omega)]
          exact zy_sub [(0, .ref 45), (1, .int a), (2, .int 100), (3, .int (Int32.ofNat (k + 1)))] (by simp) (fun q hq => by simp only [List.mem_cons, List.not_mem_nil, or_false] at hq; rcases hq with rfl | rfl | rfl | rfl <;> rfl) ih
        · have c3 : 0 < lg_cmp v1 30 := Int32.not_le.mp c3
          have c3 := (xlgc _ _).2.mp c3
          refine zy_n 1 (mr := zm_m21) rfl (show _ = some (86, [(6, .long v1), (4, .long v1), (0, .ref 45), (1, .int a), (2, .int 100), (3, .int (Int32.ofNat k))], [.int 0]) from rfl) ?_
          refine zy_r (mr := zm_m21) rfl rfl (show _ = some (some (.int 0)) from rfl) ⟨rfl, by rw [if_neg (show ¬ xallO nm a.toInt.toNat n from fun z => by have z2 := z k (by omega); unfold xokO at z2; omega)]⟩
    · have c1 := (xlgc _ _).2.mp (Int32.not_le.mp c1)
      refine zy_n 4 (mr := zm_m21) rfl (show _ = some (62, [(4, .long v1), (0, .ref 45), (1, .int a), (2, .int 100), (3, .int (Int32.ofNat k))], [.long (v1 - 100)]) from rfl) ?_
      have ew1 : (v1 - 100).toInt = v1.toInt - 100 := by rw [xsb64 (by omega) (by omega), e100]
      generalize (v1 - 100) = w1 at ew1 ⊢
      refine zy_n 5 (mr := zm_m21) rfl (show _ = some (73, [(6, .long w1), (4, .long v1), (0, .ref 45), (1, .int a), (2, .int 100), (3, .int (Int32.ofNat k))], [.int (lg_cmp w1 1)]) from rfl) ?_
      refine zy_b (mr := zm_m21) rfl rfl (show _ = some (zm_if .lt (lg_cmp w1 1) 85 76, []) from rfl) ?_
      refine zi_lt (fun c2 => ?_) (fun c2 => ?_)
      · have c2 := (xlgc _ _).1.mp c2
        refine zy_n 1 (mr := zm_m21) rfl (show _ = some (86, [(6, .long w1), (4, .long v1), (0, .ref 45), (1, .int a), (2, .int 100), (3, .int (Int32.ofNat k))], [.int 0]) from rfl) ?_
        refine zy_r (mr := zm_m21) rfl rfl (show _ = some (some (.int 0)) from rfl) ⟨rfl, by rw [if_neg (show ¬ xallO nm a.toInt.toNat n from fun z => by have z2 := z k (by omega); unfold xokO at z2; omega)]⟩
      · have c2 := mt (xlgc _ _).1.mpr c2
        refine zy_n 3 (mr := zm_m21) rfl (show _ = some (82, [(6, .long w1), (4, .long v1), (0, .ref 45), (1, .int a), (2, .int 100), (3, .int (Int32.ofNat k))], [.int (lg_cmp w1 30)]) from rfl) ?_
        refine zy_b (mr := zm_m21) rfl rfl (show _ = some (zm_if .le (lg_cmp w1 30) 87 85, []) from rfl) ?_
        refine zi_le (fun c3 => ?_) (fun c3 => ?_)
        · have c3 : ¬ 0 < lg_cmp w1 30 := Int32.not_lt.mpr c3
          have c3 := mt (xlgc _ _).2.mpr c3
          have ih := zy_to (d := d) hH hc hp hn hn60 hb m (k + 1) (by omega) (fun i hi => by
            by_cases e : i = k
            · subst e
              show xokO _
              unfold xokO
              omega
            · exact hok i (by omega))
          refine zy_n 2 (mr := zm_m21) rfl (show _ = some (26, [(3, .int ((Int32.ofNat k) + 1)), (6, .long w1), (4, .long v1), (0, .ref 45), (1, .int a), (2, .int 100)], []) from rfl) ?_
          rw [xofs (by omega)]
          exact zy_sub [(0, .ref 45), (1, .int a), (2, .int 100), (3, .int (Int32.ofNat (k + 1)))] (by simp) (fun q hq => by simp only [List.mem_cons, List.not_mem_nil, or_false] at hq; rcases hq with rfl | rfl | rfl | rfl <;> rfl) ih
        · have c3 : 0 < lg_cmp w1 30 := Int32.not_le.mp c3
          have c3 := (xlgc _ _).2.mp c3
          refine zy_n 1 (mr := zm_m21) rfl (show _ = some (86, [(6, .long w1), (4, .long v1), (0, .ref 45), (1, .int a), (2, .int 100), (3, .int (Int32.ofNat k))], [.int 0]) from rfl) ?_
          refine zy_r (mr := zm_m21) rfl rfl (show _ = some (some (.int 0)) from rfl) ⟨rfl, by rw [if_neg (show ¬ xallO nm a.toInt.toNat n from fun z => by have z2 := z k (by omega); unfold xokO at z2; omega)]⟩
theorem zh_to {d n : Nat} {a : Int32} (hH : xHI xKT xSG τ h) (hc : xRXa rp τ h wd sz nm) (hp : 0 ≤ a.toInt ∧ a.toInt ≤ 3) (hn : (sz a.toInt.toNat).toInt = (n : Int)) (hn60 : n ≤ 60) : zm_Y og (d + 1) 21 0 [(0, .ref 45), (1, .int a)] [] h (fun r h' => h' = h ∧ r = some (.int (if xallO nm a.toInt.toNat n then 1 else 0))) := by
  have hla : a.toInt.toNat < 4 := by omega
  have hja := xnat a (hp).1
  obtain ⟨g1a, g2a, g3a, g4a, g5a⟩ := hc.1 _ hla
  by_cases hb : xbndO nm a.toInt.toNat n
  rotate_left
  · refine zy_n 13 (mr := zm_m21) rfl (show _ = some (16, [(2, .int 100), (0, .ref 45), (1, .int a)], [.long 130, .long (-130), .int a, .ref 45]) from rfl) ?_
    refine zy_c (mr := zm_m21) (mc := zm_m22) rfl rfl (zk_co (A := [.int a, .long (-130), .long 130]) hH rfl rfl rfl rfl) rfl rfl ?_
    refine (zh_aw5 rfl rfl hH hc hp hn hn60).mono (fun q h' hq => ?_)
    obtain ⟨hez, rfl⟩ := hq
    rw [hez]
    rw [if_neg hb]
    refine zy_b (mr := zm_m21) rfl rfl (show _ = some (22, []) from rfl) ?_
    refine zy_n 1 (mr := zm_m21) rfl (show _ = some (23, [(2, .int 100), (0, .ref 45), (1, .int a)], [.int 0]) from rfl) ?_
    refine zy_r (mr := zm_m21) rfl rfl (show _ = some (some (.int 0)) from rfl) ⟨rfl, by rw [if_neg (show ¬ xallO nm a.toInt.toNat n from fun z => hb (fun i hi => by have z2 := z i hi; unfold xokO at z2; omega))]⟩
  · refine zy_n 13 (mr := zm_m21) rfl (show _ = some (16, [(2, .int 100), (0, .ref 45), (1, .int a)], [.long 130, .long (-130), .int a, .ref 45]) from rfl) ?_
    refine zy_c (mr := zm_m21) (mc := zm_m22) rfl rfl (zk_co (A := [.int a, .long (-130), .long 130]) hH rfl rfl rfl rfl) rfl rfl ?_
    refine (zh_aw5 rfl rfl hH hc hp hn hn60).mono (fun q h' hq => ?_)
    obtain ⟨hez, rfl⟩ := hq
    rw [hez]
    rw [if_pos hb]
    refine zy_b (mr := zm_m21) rfl rfl (show _ = some (24, []) from rfl) ?_
    refine zy_n 2 (mr := zm_m21) rfl (show _ = some (26, [(3, .int 0), (2, .int 100), (0, .ref 45), (1, .int a)], []) from rfl) ?_
    exact zy_sub [(0, .ref 45), (1, .int a), (2, .int 100), (3, .int (Int32.ofNat 0))] (by simp) (fun q hq => by simp only [List.mem_cons, List.not_mem_nil, or_false] at hq; rcases hq with rfl | rfl | rfl | rfl <;> rfl) (zy_to hH hc hp hn hn60 hb n 0 (by omega) (fun i hi => absurd hi (Nat.not_lt_zero i)))
end XR5
