/-! ROOMS and OPENINGS (made by a program) -/
section XR5
set_option maxRecDepth 100000
variable {og : Nat → Option zm_C} {τ τ' : List Nat} {h h' : zm_H} {ms : List (Nat × Nat)} {ad rp : Nat → Nat} {n : Nat} {dn rc oc : Nat → Int32} {st rf : Nat → Int32} {nr y L : Int32} {wk : Nat → Int32} {wd sz : Nat → Int32} {nm : Nat → Nat → Int64}
theorem xHM_oc {i : Nat} {v : Int32} (hc : xHM h n dn rc oc) (hg : xag [(1, 67, i)] h h') (hs : xar h' 67 i = some (.int v)) : xHM h' n dn rc (upd oc i v) := by
  obtain ⟨hn, f1, hh, hz⟩ := hc
  refine ⟨hn, hg.1 _ _ _ (by simp) f1, fun j hj => ?_, hz⟩
  obtain ⟨k1, k2, k3⟩ := hh j hj
  refine ⟨hg.2 _ _ _ (by simp) k1, hg.2 _ _ _ (by simp) k2, ?_⟩
  by_cases e : j = i
  · subst e
    rw [show upd oc j v j = v from if_pos rfl]
    exact hs
  · rw [show upd oc i v j = oc j from if_neg e]
    exact hg.2 _ _ _ (by simp [e]) k3
theorem xHM_rc {i : Nat} {v : Int32} (hc : xHM h n dn rc oc) (hg : xag [(1, 66, i)] h h') (hs : xar h' 66 i = some (.int v)) : xHM h' n dn (upd rc i v) oc := by
  obtain ⟨hn, f1, hh, hz⟩ := hc
  refine ⟨hn, hg.1 _ _ _ (by simp) f1, fun j hj => ?_, hz⟩
  obtain ⟨k1, k2, k3⟩ := hh j hj
  refine ⟨hg.2 _ _ _ (by simp) k1, ?_, hg.2 _ _ _ (by simp) k3⟩
  by_cases e : j = i
  · subst e
    rw [show upd rc j v j = v from if_pos rfl]
    exact hs
  · rw [show upd rc i v j = rc j from if_neg e]
    exact hg.2 _ _ _ (by simp [e]) k2
theorem xi5 {c : Int32} {a r : Int32} {i q w : Nat} (hc : c.toInt = (w : Int)) (hw : w ≤ 10) (ha : a.toInt = (i : Int)) (hr : r.toInt = (q : Int)) (hi : i < 16) (hq : q ≤ 10) : (c * a + r).toInt = ((w * i + q : Nat) : Int) := by
  have ea : xI32a = -2147483648 := rfl
  have eb : xI32b = 2147483647 := rfl
  have hm : w * i ≤ 10 * 15 := Nat.mul_le_mul hw (by omega)
  have m1 : (c * a).toInt = ((w * i : Nat) : Int) := by rw [Int32.toInt_mul, hc, ha, ← Int.natCast_mul, xb_bm32 (by omega) (by omega)]
  rw [Int32.toInt_add, m1, hr, xb_bm32 (by omega) (by omega)]
  omega
theorem zy_mck {d m : Nat} {a b f p : Int32} {Q : Option Value → zm_H → Prop} (hH : xHI xKT xSG τ h) (hc : xRM h wd sz nm) (hp : 0 ≤ p.toInt ∧ p.toInt ≤ 3) (hm : (sz p.toInt.toNat).toInt = (m : Int)) (hm60 : m ≤ 60) (kk : xallO nm p.toInt.toNat m → zm_Y og (d + 2) 191 166 [(0, .ref 55), (1, .int a), (2, .int b), (3, .int f), (4, .int p)] [] h Q) (kn : ¬ xallO nm p.toInt.toNat m → Q (some (.int (-4))) h) : ∀ (f2 k : Nat), k + f2 = m → (∀ i, i < k → xokO (nm p.toInt.toNat i)) → zm_Y og (d + 2) 191 64 [(0, .ref 55), (1, .int a), (2, .int b), (3, .int f), (4, .int p), (5, .int (Int32.ofNat k))] [] h Q
  | 0, k, hk, hok => by
    have hkn : k = m := by omega
    have hjk := (xofn (k := k) (by omega)).1
    have hlp : p.toInt.toNat < 4 := by omega
    have hjp := xnat p (hp).1
    obtain ⟨g1p, g2p, g3p⟩ := hc _ hlp
    refine zy_n 2 (mr := zm_m191) rfl (show _ = some (67, [(0, .ref 55), (1, .int a), (2, .int b), (3, .int f), (4, .int p), (5, .int (Int32.ofNat k))], [.ref 55, .int (Int32.ofNat k)]) from rfl) ?_
    refine zk_get (mr := zm_m191) rfl rfl hH (hH.2.2 55 rfl) rfl (xfo_ref (k := 55) (f := 2) (a := 57) hH rfl rfl rfl) ?_
    refine zy_n 1 (mr := zm_m191) rfl (show _ = some (72, [(0, .ref 55), (1, .int a), (2, .int b), (3, .int f), (4, .int p), (5, .int (Int32.ofNat k))], [.int p, .ref 57, .int (Int32.ofNat k)]) from rfl) ?_
    refine zk_ild (mr := zm_m191) rfl rfl hH (hH.2.2 57 rfl) rfl g2p hjp ?_
    refine zy_b (mr := zm_m191) rfl rfl (show _ = some (zm_ic .ge (Int32.ofNat k) (sz p.toInt.toNat) 166 76, []) from rfl) ?_
    refine zc_ge (fun _ => ?_) (fun e => absurd (Int32.le_iff_toInt_le.mpr (by omega)) e)
    exact zy_sub [(0, .ref 55), (1, .int a), (2, .int b), (3, .int f), (4, .int p)] (by simp) (fun q hq => by simp only [List.mem_cons, List.not_mem_nil, or_false] at hq; rcases hq with rfl | rfl | rfl | rfl | rfl <;> rfl) (kk (by rw [← hkn]; exact hok))
  | f2 + 1, k, hk, hok => by
    have hjk := (xofn (k := k) (by omega)).1
    have hix := xix hp hjk (by omega)
    have hlp : p.toInt.toNat < 4 := by omega
    have hjp := xnat p (hp).1
    obtain ⟨g1p, g2p, g3p⟩ := hc _ hlp
    refine zy_n 2 (mr := zm_m191) rfl (show _ = some (67, [(0, .ref 55), (1, .int a), (2, .int b), (3, .int f), (4, .int p), (5, .int (Int32.ofNat k))], [.ref 55, .int (Int32.ofNat k)]) from rfl) ?_
    refine zk_get (mr := zm_m191) rfl rfl hH (hH.2.2 55 rfl) rfl (xfo_ref (k := 55) (f := 2) (a := 57) hH rfl rfl rfl) ?_
    refine zy_n 1 (mr := zm_m191) rfl (show _ = some (72, [(0, .ref 55), (1, .int a), (2, .int b), (3, .int f), (4, .int p), (5, .int (Int32.ofNat k))], [.int p, .ref 57, .int (Int32.ofNat k)]) from rfl) ?_
    refine zk_ild (mr := zm_m191) rfl rfl hH (hH.2.2 57 rfl) rfl g2p hjp ?_
    refine zy_b (mr := zm_m191) rfl rfl (show _ = some (zm_ic .ge (Int32.ofNat k) (sz p.toInt.toNat) 166 76, []) from rfl) ?_
    refine zc_ge (fun e => absurd e (fun z => by have := Int32.le_iff_toInt_le.mp z; omega)) (fun _ => ?_)
    have e1 : (1 : Int64).toInt = 1 := rfl
    have e30 : (30 : Int64).toInt = 30 := rfl
    have e101 : (101 : Int64).toInt = 101 := rfl
    have e130 : (130 : Int64).toInt = 130 := rfl
    have en30 : (-30 : Int64).toInt = -30 := rfl
    have en1 : (-1 : Int64).toInt = -1 := rfl
    have en130 : (-130 : Int64).toInt = -130 := rfl
    have en101 : (-101 : Int64).toInt = -101 := rfl
    by_cases c0 : (1 : Int64).toInt ≤ (nm p.toInt.toNat k).toInt ∧ (nm p.toInt.toNat k).toInt ≤ (30 : Int64).toInt
    · refine zy_n 1 (mr := zm_m191) rfl (show _ = some (77, [(0, .ref 55), (1, .int a), (2, .int b), (3, .int f), (4, .int p), (5, .int (Int32.ofNat k))], [.ref 55]) from rfl) ?_
      refine zk_get (mr := zm_m191) rfl rfl hH (hH.2.2 55 rfl) rfl (xfo_ref (k := 55) (f := 3) (a := 58) hH rfl rfl rfl) ?_
      refine zy_n 5 (mr := zm_m191) rfl (show _ = some (88, [(0, .ref 55), (1, .int a), (2, .int b), (3, .int f), (4, .int p), (5, .int (Int32.ofNat k))], [.int ((60 * p) + (Int32.ofNat k)), .ref 58]) from rfl) ?_
      refine zk_lld (mr := zm_m191) rfl rfl hH (hH.2.2 58 rfl) rfl ((hc _ hlp).2.2 _ (by omega)) hix ?_
      refine zy_n 4 (mr := zm_m191) rfl (show _ = some (97, [(6, .long (nm p.toInt.toNat k)), (0, .ref 55), (1, .int a), (2, .int b), (3, .int f), (4, .int p), (5, .int (Int32.ofNat k))], [.long 30, .long 1, .long (nm p.toInt.toNat k)]) from rfl) ?_
      refine zy_c (mr := zm_m191) (mc := zm_m183) rfl rfl rfl rfl rfl ?_
      refine zh_minE.mono (fun q h' hq => ?_)
      obtain ⟨hez, rfl⟩ := hq
      rw [hez]
      rw [if_pos c0]
      refine zy_b (mr := zm_m191) rfl rfl (show _ = some (145, []) from rfl) ?_
      refine zy_n 4 (mr := zm_m191) rfl (show _ = some (154, [(8, .int 1), (6, .long (nm p.toInt.toNat k)), (0, .ref 55), (1, .int a), (2, .int b), (3, .int f), (4, .int p), (5, .int (Int32.ofNat k))], [.int 1]) from rfl) ?_
      refine zy_b (mr := zm_m191) rfl rfl (show _ = some (160, []) from rfl) ?_
      have ih := zy_mck (a := a) (b := b) (f := f) hH hc hp hm hm60 kk kn f2 (k + 1) (by omega) (fun i hi => by
        by_cases e : i = k
        · subst e
          show xokO _
          unfold xokO
          omega
        · exact hok i (by omega))
      refine zy_n 2 (mr := zm_m191) rfl (show _ = some (64, [(5, .int ((Int32.ofNat k) + 1)), (8, .int 1), (6, .long (nm p.toInt.toNat k)), (0, .ref 55), (1, .int a), (2, .int b), (3, .int f), (4, .int p)], []) from rfl) ?_
      rw [xofs (by omega)]
      exact zy_sub [(0, .ref 55), (1, .int a), (2, .int b), (3, .int f), (4, .int p), (5, .int (Int32.ofNat (k + 1)))] (by simp) (fun q hq => by simp only [List.mem_cons, List.not_mem_nil, or_false] at hq; rcases hq with rfl | rfl | rfl | rfl | rfl | rfl <;> rfl) ih
    by_cases c1 : (101 : Int64).toInt ≤ (nm p.toInt.toNat k).toInt ∧ (nm p.toInt.toNat k).toInt ≤ (130 : Int64).toInt
    · refine zy_n 1 (mr := zm_m191) rfl (show _ = some (77, [(0, .ref 55), (1, .int a), (2, .int b), (3, .int f), (4, .int p), (5, .int (Int32.ofNat k))], [.ref 55]) from rfl) ?_
      refine zk_get (mr := zm_m191) rfl rfl hH (hH.2.2 55 rfl) rfl (xfo_ref (k := 55) (f := 3) (a := 58) hH rfl rfl rfl) ?_
      refine zy_n 5 (mr := zm_m191) rfl (show _ = some (88, [(0, .ref 55), (1, .int a), (2, .int b), (3, .int f), (4, .int p), (5, .int (Int32.ofNat k))], [.int ((60 * p) + (Int32.ofNat k)), .ref 58]) from rfl) ?_
      refine zk_lld (mr := zm_m191) rfl rfl hH (hH.2.2 58 rfl) rfl ((hc _ hlp).2.2 _ (by omega)) hix ?_
      refine zy_n 4 (mr := zm_m191) rfl (show _ = some (97, [(6, .long (nm p.toInt.toNat k)), (0, .ref 55), (1, .int a), (2, .int b), (3, .int f), (4, .int p), (5, .int (Int32.ofNat k))], [.long 30, .long 1, .long (nm p.toInt.toNat k)]) from rfl) ?_
      refine zy_c (mr := zm_m191) (mc := zm_m183) rfl rfl rfl rfl rfl ?_
      refine zh_minE.mono (fun q h' hq => ?_)
      obtain ⟨hez, rfl⟩ := hq
      rw [hez]
      rw [if_neg c0]
      refine zy_b (mr := zm_m191) rfl rfl (show _ = some (103, []) from rfl) ?_
      refine zy_n 3 (mr := zm_m191) rfl (show _ = some (111, [(6, .long (nm p.toInt.toNat k)), (0, .ref 55), (1, .int a), (2, .int b), (3, .int f), (4, .int p), (5, .int (Int32.ofNat k))], [.long 130, .long 101, .long (nm p.toInt.toNat k)]) from rfl) ?_
      refine zy_c (mr := zm_m191) (mc := zm_m183) rfl rfl rfl rfl rfl ?_
      refine zh_minE.mono (fun q h' hq => ?_)
      obtain ⟨hez, rfl⟩ := hq
      rw [hez]
      rw [if_pos c1]
      refine zy_b (mr := zm_m191) rfl rfl (show _ = some (145, []) from rfl) ?_
      refine zy_n 4 (mr := zm_m191) rfl (show _ = some (154, [(8, .int 1), (6, .long (nm p.toInt.toNat k)), (0, .ref 55), (1, .int a), (2, .int b), (3, .int f), (4, .int p), (5, .int (Int32.ofNat k))], [.int 1]) from rfl) ?_
      refine zy_b (mr := zm_m191) rfl rfl (show _ = some (160, []) from rfl) ?_
      have ih := zy_mck (a := a) (b := b) (f := f) hH hc hp hm hm60 kk kn f2 (k + 1) (by omega) (fun i hi => by
        by_cases e : i = k
        · subst e
          show xokO _
          unfold xokO
          omega
        · exact hok i (by omega))
      refine zy_n 2 (mr := zm_m191) rfl (show _ = some (64, [(5, .int ((Int32.ofNat k) + 1)), (8, .int 1), (6, .long (nm p.toInt.toNat k)), (0, .ref 55), (1, .int a), (2, .int b), (3, .int f), (4, .int p)], []) from rfl) ?_
      rw [xofs (by omega)]
      exact zy_sub [(0, .ref 55), (1, .int a), (2, .int b), (3, .int f), (4, .int p), (5, .int (Int32.ofNat (k + 1)))] (by simp) (fun q hq => by simp only [List.mem_cons, List.not_mem_nil, or_false] at hq; rcases hq with rfl | rfl | rfl | rfl | rfl | rfl <;> rfl) ih
    by_cases c2 : (-30 : Int64).toInt ≤ (nm p.toInt.toNat k).toInt ∧ (nm p.toInt.toNat k).toInt ≤ (-1 : Int64).toInt
    · refine zy_n 1 (mr := zm_m191) rfl (show _ = some (77, [(0, .ref 55), (1, .int a), (2, .int b), (3, .int f), (4, .int p), (5, .int (Int32.ofNat k))], [.ref 55]) from rfl) ?_
      refine zk_get (mr := zm_m191) rfl rfl hH (hH.2.2 55 rfl) rfl (xfo_ref (k := 55) (f := 3) (a := 58) hH rfl rfl rfl) ?_
      refine zy_n 5 (mr := zm_m191) rfl (show _ = some (88, [(0, .ref 55), (1, .int a), (2, .int b), (3, .int f), (4, .int p), (5, .int (Int32.ofNat k))], [.int ((60 * p) + (Int32.ofNat k)), .ref 58]) from rfl) ?_
      refine zk_lld (mr := zm_m191) rfl rfl hH (hH.2.2 58 rfl) rfl ((hc _ hlp).2.2 _ (by omega)) hix ?_
      refine zy_n 4 (mr := zm_m191) rfl (show _ = some (97, [(6, .long (nm p.toInt.toNat k)), (0, .ref 55), (1, .int a), (2, .int b), (3, .int f), (4, .int p), (5, .int (Int32.ofNat k))], [.long 30, .long 1, .long (nm p.toInt.toNat k)]) from rfl) ?_
      refine zy_c (mr := zm_m191) (mc := zm_m183) rfl rfl rfl rfl rfl ?_
      refine zh_minE.mono (fun q h' hq => ?_)
      obtain ⟨hez, rfl⟩ := hq
      rw [hez]
      rw [if_neg c0]
      refine zy_b (mr := zm_m191) rfl rfl (show _ = some (103, []) from rfl) ?_
      refine zy_n 3 (mr := zm_m191) rfl (show _ = some (111, [(6, .long (nm p.toInt.toNat k)), (0, .ref 55), (1, .int a), (2, .int b), (3, .int f), (4, .int p), (5, .int (Int32.ofNat k))], [.long 130, .long 101, .long (nm p.toInt.toNat k)]) from rfl) ?_
      refine zy_c (mr := zm_m191) (mc := zm_m183) rfl rfl rfl rfl rfl ?_
      refine zh_minE.mono (fun q h' hq => ?_)
      obtain ⟨hez, rfl⟩ := hq
      rw [hez]
      rw [if_neg c1]
      refine zy_b (mr := zm_m191) rfl rfl (show _ = some (117, []) from rfl) ?_
      refine zy_n 3 (mr := zm_m191) rfl (show _ = some (125, [(6, .long (nm p.toInt.toNat k)), (0, .ref 55), (1, .int a), (2, .int b), (3, .int f), (4, .int p), (5, .int (Int32.ofNat k))], [.long (-1), .long (-30), .long (nm p.toInt.toNat k)]) from rfl) ?_
      refine zy_c (mr := zm_m191) (mc := zm_m183) rfl rfl rfl rfl rfl ?_
      refine zh_minE.mono (fun q h' hq => ?_)
      obtain ⟨hez, rfl⟩ := hq
      rw [hez]
      rw [if_pos c2]
      refine zy_b (mr := zm_m191) rfl rfl (show _ = some (145, []) from rfl) ?_
      refine zy_n 4 (mr := zm_m191) rfl (show _ = some (154, [(8, .int 1), (6, .long (nm p.toInt.toNat k)), (0, .ref 55), (1, .int a), (2, .int b), (3, .int f), (4, .int p), (5, .int (Int32.ofNat k))], [.int 1]) from rfl) ?_
      refine zy_b (mr := zm_m191) rfl rfl (show _ = some (160, []) from rfl) ?_
      have ih := zy_mck (a := a) (b := b) (f := f) hH hc hp hm hm60 kk kn f2 (k + 1) (by omega) (fun i hi => by
        by_cases e : i = k
        · subst e
          show xokO _
          unfold xokO
          omega
        · exact hok i (by omega))
      refine zy_n 2 (mr := zm_m191) rfl (show _ = some (64, [(5, .int ((Int32.ofNat k) + 1)), (8, .int 1), (6, .long (nm p.toInt.toNat k)), (0, .ref 55), (1, .int a), (2, .int b), (3, .int f), (4, .int p)], []) from rfl) ?_
      rw [xofs (by omega)]
      exact zy_sub [(0, .ref 55), (1, .int a), (2, .int b), (3, .int f), (4, .int p), (5, .int (Int32.ofNat (k + 1)))] (by simp) (fun q hq => by simp only [List.mem_cons, List.not_mem_nil, or_false] at hq; rcases hq with rfl | rfl | rfl | rfl | rfl | rfl <;> rfl) ih
    by_cases c3 : (-130 : Int64).toInt ≤ (nm p.toInt.toNat k).toInt ∧ (nm p.toInt.toNat k).toInt ≤ (-101 : Int64).toInt
    · refine zy_n 1 (mr := zm_m191) rfl (show _ = some (77, [(0, .ref 55), (1, .int a), (2, .int b), (3, .int f), (4, .int p), (5, .int (Int32.ofNat k))], [.ref 55]) from rfl) ?_
      refine zk_get (mr := zm_m191) rfl rfl hH (hH.2.2 55 rfl) rfl (xfo_ref (k := 55) (f := 3) (a := 58) hH rfl rfl rfl) ?_
      refine zy_n 5 (mr := zm_m191) rfl (show _ = some (88, [(0, .ref 55), (1, .int a), (2, .int b), (3, .int f), (4, .int p), (5, .int (Int32.ofNat k))], [.int ((60 * p) + (Int32.ofNat k)), .ref 58]) from rfl) ?_
      refine zk_lld (mr := zm_m191) rfl rfl hH (hH.2.2 58 rfl) rfl ((hc _ hlp).2.2 _ (by omega)) hix ?_
      refine zy_n 4 (mr := zm_m191) rfl (show _ = some (97, [(6, .long (nm p.toInt.toNat k)), (0, .ref 55), (1, .int a), (2, .int b), (3, .int f), (4, .int p), (5, .int (Int32.ofNat k))], [.long 30, .long 1, .long (nm p.toInt.toNat k)]) from rfl) ?_
      refine zy_c (mr := zm_m191) (mc := zm_m183) rfl rfl rfl rfl rfl ?_
      refine zh_minE.mono (fun q h' hq => ?_)
      obtain ⟨hez, rfl⟩ := hq
      rw [hez]
      rw [if_neg c0]
      refine zy_b (mr := zm_m191) rfl rfl (show _ = some (103, []) from rfl) ?_
      refine zy_n 3 (mr := zm_m191) rfl (show _ = some (111, [(6, .long (nm p.toInt.toNat k)), (0, .ref 55), (1, .int a), (2, .int b), (3, .int f), (4, .int p), (5, .int (Int32.ofNat k))], [.long 130, .long 101, .long (nm p.toInt.toNat k)]) from rfl) ?_
      refine zy_c (mr := zm_m191) (mc := zm_m183) rfl rfl rfl rfl rfl ?_
      refine zh_minE.mono (fun q h' hq => ?_)
      obtain ⟨hez, rfl⟩ := hq
      rw [hez]
      rw [if_neg c1]
      refine zy_b (mr := zm_m191) rfl rfl (show _ = some (117, []) from rfl) ?_
      refine zy_n 3 (mr := zm_m191) rfl (show _ = some (125, [(6, .long (nm p.toInt.toNat k)), (0, .ref 55), (1, .int a), (2, .int b), (3, .int f), (4, .int p), (5, .int (Int32.ofNat k))], [.long (-1), .long (-30), .long (nm p.toInt.toNat k)]) from rfl) ?_
      refine zy_c (mr := zm_m191) (mc := zm_m183) rfl rfl rfl rfl rfl ?_
      refine zh_minE.mono (fun q h' hq => ?_)
      obtain ⟨hez, rfl⟩ := hq
      rw [hez]
      rw [if_neg c2]
      refine zy_b (mr := zm_m191) rfl rfl (show _ = some (131, []) from rfl) ?_
      refine zy_n 3 (mr := zm_m191) rfl (show _ = some (139, [(6, .long (nm p.toInt.toNat k)), (0, .ref 55), (1, .int a), (2, .int b), (3, .int f), (4, .int p), (5, .int (Int32.ofNat k))], [.long (-101), .long (-130), .long (nm p.toInt.toNat k)]) from rfl) ?_
      refine zy_c (mr := zm_m191) (mc := zm_m183) rfl rfl rfl rfl rfl ?_
      refine zh_minE.mono (fun q h' hq => ?_)
      obtain ⟨hez, rfl⟩ := hq
      rw [hez]
      rw [if_pos c3]
      refine zy_b (mr := zm_m191) rfl rfl (show _ = some (145, []) from rfl) ?_
      refine zy_n 4 (mr := zm_m191) rfl (show _ = some (154, [(8, .int 1), (6, .long (nm p.toInt.toNat k)), (0, .ref 55), (1, .int a), (2, .int b), (3, .int f), (4, .int p), (5, .int (Int32.ofNat k))], [.int 1]) from rfl) ?_
      refine zy_b (mr := zm_m191) rfl rfl (show _ = some (160, []) from rfl) ?_
      have ih := zy_mck (a := a) (b := b) (f := f) hH hc hp hm hm60 kk kn f2 (k + 1) (by omega) (fun i hi => by
        by_cases e : i = k
        · subst e
          show xokO _
          unfold xokO
          omega
        · exact hok i (by omega))
      refine zy_n 2 (mr := zm_m191) rfl (show _ = some (64, [(5, .int ((Int32.ofNat k) + 1)), (8, .int 1), (6, .long (nm p.toInt.toNat k)), (0, .ref 55), (1, .int a), (2, .int b), (3, .int f), (4, .int p)], []) from rfl) ?_
      rw [xofs (by omega)]
      exact zy_sub [(0, .ref 55), (1, .int a), (2, .int b), (3, .int f), (4, .int p), (5, .int (Int32.ofNat (k + 1)))] (by simp) (fun q hq => by simp only [List.mem_cons, List.not_mem_nil, or_false] at hq; rcases hq with rfl | rfl | rfl | rfl | rfl | rfl <;> rfl) ih
    refine zy_n 1 (mr := zm_m191) rfl (show _ = some (77, [(0, .ref 55), (1, .int a), (2, .int b), (3, .int f), (4, .int p), (5, .int (Int32.ofNat k))], [.ref 55]) from rfl) ?_
    refine zk_get (mr := zm_m191) rfl rfl hH (hH.2.2 55 rfl) rfl (xfo_ref (k := 55) (f := 3) (a := 58) hH rfl rfl rfl) ?_
    refine zy_n 5 (mr := zm_m191) rfl (show _ = some (88, [(0, .ref 55), (1, .int a), (2, .int b), (3, .int f), (4, .int p), (5, .int (Int32.ofNat k))], [.int ((60 * p) + (Int32.ofNat k)), .ref 58]) from rfl) ?_
    refine zk_lld (mr := zm_m191) rfl rfl hH (hH.2.2 58 rfl) rfl ((hc _ hlp).2.2 _ (by omega)) hix ?_
    refine zy_n 4 (mr := zm_m191) rfl (show _ = some (97, [(6, .long (nm p.toInt.toNat k)), (0, .ref 55), (1, .int a), (2, .int b), (3, .int f), (4, .int p), (5, .int (Int32.ofNat k))], [.long 30, .long 1, .long (nm p.toInt.toNat k)]) from rfl) ?_
    refine zy_c (mr := zm_m191) (mc := zm_m183) rfl rfl rfl rfl rfl ?_
    refine zh_minE.mono (fun q h' hq => ?_)
    obtain ⟨hez, rfl⟩ := hq
    rw [hez]
    rw [if_neg c0]
    refine zy_b (mr := zm_m191) rfl rfl (show _ = some (103, []) from rfl) ?_
    refine zy_n 3 (mr := zm_m191) rfl (show _ = some (111, [(6, .long (nm p.toInt.toNat k)), (0, .ref 55), (1, .int a), (2, .int b), (3, .int f), (4, .int p), (5, .int (Int32.ofNat k))], [.long 130, .long 101, .long (nm p.toInt.toNat k)]) from rfl) ?_
    refine zy_c (mr := zm_m191) (mc := zm_m183) rfl rfl rfl rfl rfl ?_
    refine zh_minE.mono (fun q h' hq => ?_)
    obtain ⟨hez, rfl⟩ := hq
    rw [hez]
    rw [if_neg c1]
    refine zy_b (mr := zm_m191) rfl rfl (show _ = some (117, []) from rfl) ?_
    refine zy_n 3 (mr := zm_m191) rfl (show _ = some (125, [(6, .long (nm p.toInt.toNat k)), (0, .ref 55), (1, .int a), (2, .int b), (3, .int f), (4, .int p), (5, .int (Int32.ofNat k))], [.long (-1), .long (-30), .long (nm p.toInt.toNat k)]) from rfl) ?_
    refine zy_c (mr := zm_m191) (mc := zm_m183) rfl rfl rfl rfl rfl ?_
    refine zh_minE.mono (fun q h' hq => ?_)
    obtain ⟨hez, rfl⟩ := hq
    rw [hez]
    rw [if_neg c2]
    refine zy_b (mr := zm_m191) rfl rfl (show _ = some (131, []) from rfl) ?_
    refine zy_n 3 (mr := zm_m191) rfl (show _ = some (139, [(6, .long (nm p.toInt.toNat k)), (0, .ref 55), (1, .int a), (2, .int b), (3, .int f), (4, .int p), (5, .int (Int32.ofNat k))], [.long (-101), .long (-130), .long (nm p.toInt.toNat k)]) from rfl) ?_
    refine zy_c (mr := zm_m191) (mc := zm_m183) rfl rfl rfl rfl rfl ?_
    refine zh_minE.mono (fun q h' hq => ?_)
    obtain ⟨hez, rfl⟩ := hq
    rw [hez]
    rw [if_neg c3]
    refine zy_b (mr := zm_m191) rfl rfl (show _ = some (149, []) from rfl) ?_
    refine zy_n 3 (mr := zm_m191) rfl (show _ = some (154, [(8, .int 0), (6, .long (nm p.toInt.toNat k)), (0, .ref 55), (1, .int a), (2, .int b), (3, .int f), (4, .int p), (5, .int (Int32.ofNat k))], [.int 0]) from rfl) ?_
    refine zy_b (mr := zm_m191) rfl rfl (show _ = some (157, []) from rfl) ?_
    refine zy_n 1 (mr := zm_m191) rfl (show _ = some (159, [(8, .int 0), (6, .long (nm p.toInt.toNat k)), (0, .ref 55), (1, .int a), (2, .int b), (3, .int f), (4, .int p), (5, .int (Int32.ofNat k))], [.int (-4)]) from rfl) ?_
    refine zy_r (mr := zm_m191) rfl rfl (show _ = some (some (.int (-4))) from rfl) (kn (fun z => by have z2 := z k (by omega); unfold xokO at z2; omega))
end XR5
