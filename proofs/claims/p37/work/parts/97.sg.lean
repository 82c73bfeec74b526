/-! PLACES and PAIRS: piece 6 (made by a program) -/
section XR2
set_option maxRecDepth 100000
variable {og : Nat → Option zm_C} {τ τ' : List Nat} {h h' : zm_H} {ms : List (Nat × Nat)} {rp : Nat → Nat} {wd sz : Nat → Int32} {nm : Nat → Nat → Int64}
abbrev xokN (nm : Nat → Nat → Int64) (p n : Nat) : Prop := ∀ i, i < n → 0 ≤ (nm p i).toInt ∧ (nm p i).toInt ≤ 10000
/-- the table, from a place on -/
def xtbl (h : zm_H) (A : Nat) (V : Nat → Nat → Int) (n m i j : Nat) : Prop := ∀ i' j', i' ≤ n → j' ≤ m → (i < i' ∨ i' = i ∧ j ≤ j') → ∃ z : Int32, xar h A (61 * i' + j') = some (.int z) ∧ z.toInt = V i' j'
theorem xtbl_up {A n m i j : Nat} {V : Nat → Nat → Int} {z : Int32} (ht : xtbl h A V n m i (j + 1)) (hg : xag [(1, A, 61 * i + j)] h h') (hs : xar h' A (61 * i + j) = some (.int z)) (hz : z.toInt = V i j) (hm : m ≤ 60) (hj : j ≤ m) : xtbl h' A V n m i j := by
  intro i' j' h1 h2 h3
  by_cases e : i' = i ∧ j' = j
  · obtain ⟨rfl, rfl⟩ := e
    exact ⟨z, hs, hz⟩
  · obtain ⟨y, y1, y2⟩ := ht i' j' h1 h2 (by omega)
    refine ⟨y, hg.2 _ _ _ ?_ y1, y2⟩
    have e2 : ¬ 61 * i' + j' = 61 * i + j := by omega
    simp only [List.mem_singleton, Prod.mk.injEq, true_and]
    exact e2
theorem xtbl_F {A kd n m i j : Nat} {V : Nat → Nat → Int} (hf : xF (xms ms) τ h τ' h') (hA : τ[A]? = some kd) (hk : xms ms kd 0 = false) (ht : xtbl h A V n m i j) : xtbl h' A V n m i j := fun i' j' h1 h2 h3 => by
  obtain ⟨y, y1, y2⟩ := ht i' j' h1 h2 h3
  exact ⟨y, xar_F hf hA hk y1, y2⟩
theorem x61a {x z : Int32} {i j : Nat} (hx : x.toInt = (i : Int)) (hz : z.toInt = (j : Int)) (hi : i ≤ 60) (hj : j ≤ 60) : (x * 61 + z).toInt = ((61 * i + j : Nat) : Int) ∧ ((x + 1) * 61 + z).toInt = ((61 * (i + 1) + j : Nat) : Int) ∧ (x * 61 + z + 1).toInt = ((61 * i + (j + 1) : Nat) : Int) ∧ ((x + 1) * 61 + z + 1).toInt = ((61 * (i + 1) + (j + 1) : Nat) : Int) := by
  have ea : xI32a = -2147483648 := rfl
  have eb : xI32b = 2147483647 := rfl
  have e1 : (1 : Int32).toInt = 1 := rfl
  have e61 : (61 : Int32).toInt = 61 := rfl
  have a1 : (x + 1).toInt = (i : Int) + 1 := by rw [Int32.toInt_add, hx, e1, xb_bm32 (by omega) (by omega)]
  have m1 : (x * 61).toInt = (i : Int) * 61 := by rw [Int32.toInt_mul, hx, e61, xb_bm32 (by omega) (by omega)]
  have m2 : ((x + 1) * 61).toInt = ((i : Int) + 1) * 61 := by rw [Int32.toInt_mul, a1, e61, xb_bm32 (by omega) (by omega)]
  have b1 : (x * 61 + z).toInt = (i : Int) * 61 + j := by rw [Int32.toInt_add, m1, hz, xb_bm32 (by omega) (by omega)]
  have b2 : ((x + 1) * 61 + z).toInt = ((i : Int) + 1) * 61 + j := by rw [Int32.toInt_add, m2, hz, xb_bm32 (by omega) (by omega)]
  refine ⟨by rw [b1]; omega, by rw [b2]; omega, ?_, ?_⟩
  · rw [Int32.toInt_add, b1, e1, xb_bm32 (by omega) (by omega)]
    omega
  · rw [Int32.toInt_add, b2, e1, xb_bm32 (by omega) (by omega)]
    omega
theorem x61m {x z : Int32} {i j : Nat} (hx : x.toInt = (i : Int)) (hz : z.toInt = (j : Int)) (hi : i ≤ 60) (hj : j ≤ 60) : (61 * x + z).toInt = ((61 * i + j : Nat) : Int) ∧ (61 * (x + 1) + z).toInt = ((61 * (i + 1) + j : Nat) : Int) ∧ (61 * x + z + 1).toInt = ((61 * i + (j + 1) : Nat) : Int) ∧ (61 * (x + 1) + z + 1).toInt = ((61 * (i + 1) + (j + 1) : Nat) : Int) := by
  have c : ∀ y : Int32, 61 * y = y * 61 := fun y => Int32.mul_comm _ _
  rw [c, c]
  exact x61a hx hz hi hj
theorem xadd32 {x y : Int32} (h1 : -1000000000 ≤ x.toInt + y.toInt) (h2 : x.toInt + y.toInt ≤ 1000000000) : (x + y).toInt = x.toInt + y.toInt := by
  have ea : xI32a = -2147483648 := rfl
  have eb : xI32b = 2147483647 := rfl
  rw [Int32.toInt_add, xb_bm32 (by omega) (by omega)]
theorem xsub32 {x y : Int32} (h1 : -1000000000 ≤ x.toInt - y.toInt) (h2 : x.toInt - y.toInt ≤ 1000000000) : (x - y).toInt = x.toInt - y.toInt := by
  have ea : xI32a = -2147483648 := rfl
  have eb : xI32b = 2147483647 := rfl
  rw [Int32.toInt_sub, xb_bm32 (by omega) (by omega)]
theorem xsub64 {x y : Int64} (h1 : -1000000000 ≤ x.toInt - y.toInt) (h2 : x.toInt - y.toInt ≤ 1000000000) : (x - y).toInt = x.toInt - y.toInt := by
  have ea : xI64a = -9223372036854775808 := rfl
  have eb : xI64b = 9223372036854775807 := rfl
  rw [Int64.toInt_sub, xb_bm64 (by omega) (by omega)]
theorem x6432 {x : Int64} (h1 : -1000000000 ≤ x.toInt) (h2 : x.toInt ≤ 1000000000) : x.toInt32.toInt = x.toInt := by
  have ea : xI32a = -2147483648 := rfl
  have eb : xI32b = 2147483647 := rfl
  rw [Int64.toInt_toInt32, xb_bm32 (by omega) (by omega)]
theorem zy_aw {d n : Nat} {a : Int32} (hH : xHI xKT xSG τ h) (hc : xRXa rp τ h wd sz nm) (hp : 0 ≤ a.toInt ∧ a.toInt ≤ 3) (hn : (sz a.toInt.toNat).toInt = (n : Int)) (hn60 : n ≤ 60) : ∀ (m k : Nat), k + m = n → (∀ i, i < k → 0 ≤ (nm a.toInt.toNat i).toInt ∧ (nm a.toInt.toNat i).toInt ≤ 10000) → zm_Y og d 22 3 [(0, .ref 45), (1, .int a), (2, .long 0), (4, .long 10000), (6, .int (Int32.ofNat k))] [] h (fun r h' => h' = h ∧ r = some (.int (if xokN nm a.toInt.toNat n then 1 else 0)))
  | 0, k, hk, hok => by
    have hkn : k = n := by omega
    have hjk := (xofn (k := k) (by omega)).1
    have hla : a.toInt.toNat < 4 := by omega
    have hja := xnat a (hp).1
    obtain ⟨g1a, g2a, g3a, g4a, g5a⟩ := hc.1 _ hla
    refine zy_n 2 (mr := zm_m22) rfl (show _ = some (6, [(0, .ref 45), (1, .int a), (2, .long 0), (4, .long 10000), (6, .int (Int32.ofNat k))], [.ref 45, .int (Int32.ofNat k)]) from rfl) ?_
    refine zk_get (mr := zm_m22) rfl rfl hH (hH.2.2 45 rfl) rfl (xfo_ref (k := 45) (f := 2) (a := 52) hH rfl rfl rfl) ?_
    refine zy_n 1 (mr := zm_m22) rfl (show _ = some (10, [(0, .ref 45), (1, .int a), (2, .long 0), (4, .long 10000), (6, .int (Int32.ofNat k))], [.int a, .ref 52, .int (Int32.ofNat k)]) from rfl) ?_
    refine zk_ild (mr := zm_m22) rfl rfl hH (hH.2.2 52 rfl) rfl g2a hja ?_
    refine zy_b (mr := zm_m22) rfl rfl (show _ = some (zm_ic .ge (Int32.ofNat k) (sz a.toInt.toNat) 51 14, []) from rfl) ?_
    refine zc_ge (fun _ => ?_) (fun e => absurd (Int32.le_iff_toInt_le.mpr (by omega)) e)
    refine zy_n 1 (mr := zm_m22) rfl (show _ = some (52, [(0, .ref 45), (1, .int a), (2, .long 0), (4, .long 10000), (6, .int (Int32.ofNat k))], [.int 1]) from rfl) ?_
    refine zy_r (mr := zm_m22) rfl rfl (show _ = some (some (.int 1)) from rfl) ⟨rfl, by rw [if_pos (show xokN nm a.toInt.toNat n from by rw [← hkn]; exact hok)]⟩
  | m + 1, k, hk, hok => by
    have hjk := (xofn (k := k) (by omega)).1
    have e0 : (0 : Int64).toInt = 0 := rfl
    have e1 : (10000 : Int64).toInt = 10000 := rfl
    have hla : a.toInt.toNat < 4 := by omega
    have hja := xnat a (hp).1
    obtain ⟨g1a, g2a, g3a, g4a, g5a⟩ := hc.1 _ hla
    refine zy_n 2 (mr := zm_m22) rfl (show _ = some (6, [(0, .ref 45), (1, .int a), (2, .long 0), (4, .long 10000), (6, .int (Int32.ofNat k))], [.ref 45, .int (Int32.ofNat k)]) from rfl) ?_
    refine zk_get (mr := zm_m22) rfl rfl hH (hH.2.2 45 rfl) rfl (xfo_ref (k := 45) (f := 2) (a := 52) hH rfl rfl rfl) ?_
    refine zy_n 1 (mr := zm_m22) rfl (show _ = some (10, [(0, .ref 45), (1, .int a), (2, .long 0), (4, .long 10000), (6, .int (Int32.ofNat k))], [.int a, .ref 52, .int (Int32.ofNat k)]) from rfl) ?_
    refine zk_ild (mr := zm_m22) rfl rfl hH (hH.2.2 52 rfl) rfl g2a hja ?_
    refine zy_b (mr := zm_m22) rfl rfl (show _ = some (zm_ic .ge (Int32.ofNat k) (sz a.toInt.toNat) 51 14, []) from rfl) ?_
    refine zc_ge (fun e => absurd e (fun z => by have z2 := Int32.le_iff_toInt_le.mp z; omega)) (fun _ => ?_)
    refine zy_n 1 (mr := zm_m22) rfl (show _ = some (15, [(0, .ref 45), (1, .int a), (2, .long 0), (4, .long 10000), (6, .int (Int32.ofNat k))], [.ref 45]) from rfl) ?_
    refine zk_get (mr := zm_m22) rfl rfl hH (hH.2.2 45 rfl) rfl (xfo_ref (k := 45) (f := 0) (a := 46) hH rfl rfl rfl) ?_
    refine zy_n 1 (mr := zm_m22) rfl (show _ = some (19, [(0, .ref 45), (1, .int a), (2, .long 0), (4, .long 10000), (6, .int (Int32.ofNat k))], [.int a, .ref 46]) from rfl) ?_
    refine zk_ald (mr := zm_m22) rfl rfl hH (hH.2.2 46 rfl) rfl rfl g3a hja ?_
    refine zy_n 1 (mr := zm_m22) rfl (show _ = some (22, [(0, .ref 45), (1, .int a), (2, .long 0), (4, .long 10000), (6, .int (Int32.ofNat k))], [.int (Int32.ofNat k), .ref ((rp a.toInt.toNat))]) from rfl) ?_
    refine zk_lld (mr := zm_m22) rfl rfl hH g4a rfl (g5a _ (by omega)) hjk ?_
    refine zy_n 2 (mr := zm_m22) rfl (show _ = some (25, [(0, .ref 45), (1, .int a), (2, .long 0), (4, .long 10000), (6, .int (Int32.ofNat k))], [.int (lg_cmp (nm a.toInt.toNat k) 0)]) from rfl) ?_
    refine zy_b (mr := zm_m22) rfl rfl (show _ = some (zm_if .lt (lg_cmp (nm a.toInt.toNat k) 0) 43 28, []) from rfl) ?_
    refine zi_lt (fun c1 => ?_) (fun c1 => ?_)
    · have c1 := (xlgc _ _).1.mp c1
      refine zy_n 1 (mr := zm_m22) rfl (show _ = some (44, [(0, .ref 45), (1, .int a), (2, .long 0), (4, .long 10000), (6, .int (Int32.ofNat k))], [.int 0]) from rfl) ?_
      refine zy_r (mr := zm_m22) rfl rfl (show _ = some (some (.int 0)) from rfl) ⟨rfl, by rw [if_neg (show ¬ xokN nm a.toInt.toNat n from fun z => by have := z k (by omega); omega)]⟩
    · have c1 := mt (xlgc _ _).1.mpr c1
      refine zy_n 1 (mr := zm_m22) rfl (show _ = some (29, [(0, .ref 45), (1, .int a), (2, .long 0), (4, .long 10000), (6, .int (Int32.ofNat k))], [.ref 45]) from rfl) ?_
      refine zk_get (mr := zm_m22) rfl rfl hH (hH.2.2 45 rfl) rfl (xfo_ref (k := 45) (f := 0) (a := 46) hH rfl rfl rfl) ?_
      refine zy_n 1 (mr := zm_m22) rfl (show _ = some (33, [(0, .ref 45), (1, .int a), (2, .long 0), (4, .long 10000), (6, .int (Int32.ofNat k))], [.int a, .ref 46]) from rfl) ?_
      refine zk_ald (mr := zm_m22) rfl rfl hH (hH.2.2 46 rfl) rfl rfl g3a hja ?_
      refine zy_n 1 (mr := zm_m22) rfl (show _ = some (36, [(0, .ref 45), (1, .int a), (2, .long 0), (4, .long 10000), (6, .int (Int32.ofNat k))], [.int (Int32.ofNat k), .ref ((rp a.toInt.toNat))]) from rfl) ?_
      refine zk_lld (mr := zm_m22) rfl rfl hH g4a rfl (g5a _ (by omega)) hjk ?_
      refine zy_n 2 (mr := zm_m22) rfl (show _ = some (40, [(0, .ref 45), (1, .int a), (2, .long 0), (4, .long 10000), (6, .int (Int32.ofNat k))], [.int (lg_cmp (nm a.toInt.toNat k) 10000)]) from rfl) ?_
      refine zy_b (mr := zm_m22) rfl rfl (show _ = some (zm_if .le (lg_cmp (nm a.toInt.toNat k) 10000) 45 43, []) from rfl) ?_
      refine zi_le (fun c2 => ?_) (fun c2 => ?_)
      · have c2 : ¬ 0 < lg_cmp (nm a.toInt.toNat k) 10000 := Int32.not_lt.mpr c2
        have c2 := mt (xlgc _ _).2.mpr c2
        have ih := zy_aw (d := d) hH hc hp hn hn60 m (k + 1) (by omega) (fun i hi => by
          by_cases e : i = k
          · subst e
            exact ⟨by omega, by omega⟩
          · exact hok i (by omega))
        refine zy_n 2 (mr := zm_m22) rfl (show _ = some (3, [(6, .int ((Int32.ofNat k) + 1)), (0, .ref 45), (1, .int a), (2, .long 0), (4, .long 10000)], []) from rfl) ?_
        rw [xofs (by omega)]
        exact zy_sub [(0, .ref 45), (1, .int a), (2, .long 0), (4, .long 10000), (6, .int (Int32.ofNat (k + 1)))] (by simp) (fun q hq => by simp only [List.mem_cons, List.not_mem_nil, or_false] at hq; rcases hq with rfl | rfl | rfl | rfl | rfl <;> rfl) ih
      · have c2 : 0 < lg_cmp (nm a.toInt.toNat k) 10000 := Int32.not_le.mp c2
        have c2 := (xlgc _ _).2.mp c2
        refine zy_n 1 (mr := zm_m22) rfl (show _ = some (44, [(0, .ref 45), (1, .int a), (2, .long 0), (4, .long 10000), (6, .int (Int32.ofNat k))], [.int 0]) from rfl) ?_
        refine zy_r (mr := zm_m22) rfl rfl (show _ = some (some (.int 0)) from rfl) ⟨rfl, by rw [if_neg (show ¬ xokN nm a.toInt.toNat n from fun z => by have := z k (by omega); omega)]⟩
theorem zh_aw {d n : Nat} {a : Int32} (hH : xHI xKT xSG τ h) (hc : xRXa rp τ h wd sz nm) (hp : 0 ≤ a.toInt ∧ a.toInt ≤ 3) (hn : (sz a.toInt.toNat).toInt = (n : Int)) (hn60 : n ≤ 60) : zm_Y og d 22 0 [(0, .ref 45), (1, .int a), (2, .long 0), (4, .long 10000)] [] h (fun r h' => h' = h ∧ r = some (.int (if xokN nm a.toInt.toNat n then 1 else 0))) := by
  refine zy_n 2 (mr := zm_m22) rfl (show _ = some (3, [(6, .int 0), (0, .ref 45), (1, .int a), (2, .long 0), (4, .long 10000)], []) from rfl) ?_
  exact zy_sub [(0, .ref 45), (1, .int a), (2, .long 0), (4, .long 10000), (6, .int (Int32.ofNat 0))] (by simp) (fun q hq => by simp only [List.mem_cons, List.not_mem_nil, or_false] at hq; rcases hq with rfl | rfl | rfl | rfl | rfl <;> rfl) (zy_aw hH hc hp hn hn60 n 0 (by omega) (fun i hi => absurd hi (Nat.not_lt_zero i)))
theorem zh_pc {d n m A i j : Nat} {a b g x z y : Int32} (hH : xHI xKT xSG τ h) (hc : xRXa rp τ h wd sz nm) (hp : 0 ≤ a.toInt ∧ a.toInt ≤ 3) (hq : 0 ≤ b.toInt ∧ b.toInt ≤ 3) (hg : 0 ≤ g.toInt ∧ g.toInt ≤ 1000) (hn : (sz a.toInt.toNat).toInt = (n : Int)) (hm : (sz b.toInt.toNat).toInt = (m : Int)) (hn60 : n ≤ 60) (hm60 : m ≤ 60) (okx : xokN nm a.toInt.toNat n) (oky : xokN nm b.toInt.toNat m) (hcf : xfd h 45 5 = some (.ref A)) (hA : τ[A]? = some 219) (hi : i < n) (hj : j < m) (hx : x.toInt = (i : Int)) (hz : z.toInt = (j : Int)) (hy : xar h A (61 * (i + 1) + (j + 1)) = some (.int y)) (hyv : y.toInt = (xVV2 g.toInt (fun q => (nm a.toInt.toNat q).toInt) (fun q => (nm b.toInt.toNat q).toInt) n m) (i + 1) (j + 1)) : zm_Y og d 157 0 [(0, .ref 45), (1, .int a), (2, .int x), (3, .int b), (4, .int z)] [] h (fun r h' => h' = h ∧ ∃ v : Int32, r = some (.int v) ∧ v.toInt = (((nm a.toInt.toNat i).toInt - (nm b.toInt.toNat j).toInt).natAbs : Int) + (xVV2 g.toInt (fun q => (nm a.toInt.toNat q).toInt) (fun q => (nm b.toInt.toNat q).toInt) n m) (i + 1) (j + 1)) := by
  have hla : a.toInt.toNat < 4 := by omega
  have hja := xnat a (hp).1
  obtain ⟨g1a, g2a, g3a, g4a, g5a⟩ := hc.1 _ hla
  have hlb : b.toInt.toNat < 4 := by omega
  have hjb := xnat b (hq).1
  obtain ⟨g1a, g2a, g3a, g4a, g5a⟩ := hc.1 _ hla
  obtain ⟨g1b, g2b, g3b, g4b, g5b⟩ := hc.1 _ hlb
  have hX := okx i hi
  have hY := oky j hj
  have hb := xVV2_60 (X := fun q => (nm a.toInt.toNat q).toInt) (Y := fun q => (nm b.toInt.toNat q).toInt) (n := n) (m := m) hg.1 hg.2 hn60 hm60 (i + 1) (j + 1)
  refine zy_n 1 (mr := zm_m157) rfl (show _ = some (1, [(0, .ref 45), (1, .int a), (2, .int x), (3, .int b), (4, .int z)], [.ref 45]) from rfl) ?_
  refine zk_get (mr := zm_m157) rfl rfl hH (hH.2.2 45 rfl) rfl (xfo_ref (k := 45) (f := 0) (a := 46) hH rfl rfl rfl) ?_
  refine zy_n 1 (mr := zm_m157) rfl (show _ = some (5, [(0, .ref 45), (1, .int a), (2, .int x), (3, .int b), (4, .int z)], [.int a, .ref 46]) from rfl) ?_
  refine zk_ald (mr := zm_m157) rfl rfl hH (hH.2.2 46 rfl) rfl rfl g3a hja ?_
  refine zy_n 1 (mr := zm_m157) rfl (show _ = some (7, [(0, .ref 45), (1, .int a), (2, .int x), (3, .int b), (4, .int z)], [.int x, .ref ((rp a.toInt.toNat))]) from rfl) ?_
  refine zk_lld (mr := zm_m157) rfl rfl hH g4a rfl (g5a _ (by omega)) hx ?_
  refine zy_n 1 (mr := zm_m157) rfl (show _ = some (9, [(0, .ref 45), (1, .int a), (2, .int x), (3, .int b), (4, .int z)], [.ref 45, .long (nm a.toInt.toNat i)]) from rfl) ?_
  refine zk_get (mr := zm_m157) rfl rfl hH (hH.2.2 45 rfl) rfl (xfo_ref (k := 45) (f := 0) (a := 46) hH rfl rfl rfl) ?_
  refine zy_n 1 (mr := zm_m157) rfl (show _ = some (13, [(0, .ref 45), (1, .int a), (2, .int x), (3, .int b), (4, .int z)], [.int b, .ref 46, .long (nm a.toInt.toNat i)]) from rfl) ?_
  refine zk_ald (mr := zm_m157) rfl rfl hH (hH.2.2 46 rfl) rfl rfl g3b hjb ?_
  refine zy_n 1 (mr := zm_m157) rfl (show _ = some (16, [(0, .ref 45), (1, .int a), (2, .int x), (3, .int b), (4, .int z)], [.int z, .ref ((rp b.toInt.toNat)), .long (nm a.toInt.toNat i)]) from rfl) ?_
  refine zk_lld (mr := zm_m157) rfl rfl hH g4b rfl (g5b _ (by omega)) hz ?_
  refine zy_n 1 (mr := zm_m157) rfl (show _ = some (18, [(0, .ref 45), (1, .int a), (2, .int x), (3, .int b), (4, .int z)], [.long ((nm a.toInt.toNat i) - (nm b.toInt.toNat j))]) from rfl) ?_
  have ew1 : ((nm a.toInt.toNat i) - (nm b.toInt.toNat j)).toInt = (nm a.toInt.toNat i).toInt - (nm b.toInt.toNat j).toInt := xsub64 (by omega) (by omega)
  generalize ((nm a.toInt.toNat i) - (nm b.toInt.toNat j)) = w1 at ew1 ⊢
  refine zk_absL (mr := zm_m157) rfl rfl rfl (by omega) (fun v1 ev1 => ?_)
  refine zy_n 3 (mr := zm_m157) rfl (show _ = some (26, [(5, .long v1), (0, .ref 45), (1, .int a), (2, .int x), (3, .int b), (4, .int z)], [.int v1.toInt32]) from rfl) ?_
  have e32 := x6432 (x := v1) (by omega) (by omega)
  refine zy_n 1 (mr := zm_m157) rfl (show _ = some (27, [(5, .long v1), (0, .ref 45), (1, .int a), (2, .int x), (3, .int b), (4, .int z)], [.ref 45, .int v1.toInt32]) from rfl) ?_
  refine zk_get (mr := zm_m157) rfl rfl hH (hH.2.2 45 rfl) rfl hcf ?_
  refine zy_n 9 (mr := zm_m157) rfl (show _ = some (41, [(5, .long v1), (0, .ref 45), (1, .int a), (2, .int x), (3, .int b), (4, .int z)], [.int ((((x + 1) * 61) + z) + 1), .ref A, .int v1.toInt32]) from rfl) ?_
  refine zk_ild (mr := zm_m157) rfl rfl hH hA rfl hy (x61a hx hz (by omega) (by omega)).2.2.2 ?_
  refine zy_n 1 (mr := zm_m157) rfl (show _ = some (43, [(5, .long v1), (0, .ref 45), (1, .int a), (2, .int x), (3, .int b), (4, .int z)], [.int (v1.toInt32 + y)]) from rfl) ?_
  refine zy_r (mr := zm_m157) rfl rfl (show _ = some (some (.int (v1.toInt32 + y))) from rfl) ⟨rfl, _, rfl, ?_⟩
  rw [xadd32 (by omega) (by omega), e32, hyv]
  omega
theorem zh_lc {d n m A i j : Nat} {a b g x z : Int32} (hH : xHI xKT xSG τ h) (hc : xRXa rp τ h wd sz nm) (hp : 0 ≤ a.toInt ∧ a.toInt ≤ 3) (hq : 0 ≤ b.toInt ∧ b.toInt ≤ 3) (hg : 0 ≤ g.toInt ∧ g.toInt ≤ 1000) (hn : (sz a.toInt.toNat).toInt = (n : Int)) (hm : (sz b.toInt.toNat).toInt = (m : Int)) (hn60 : n ≤ 60) (hm60 : m ≤ 60) (okx : xokN nm a.toInt.toNat n) (oky : xokN nm b.toInt.toNat m) (hcf : xfd h 45 5 = some (.ref A)) (hA : τ[A]? = some 219) (hi : i ≤ n) (hj : j ≤ m) (hx : x.toInt = (i : Int)) (hz : z.toInt = (j : Int)) (ht : xtbl h A (xVV2 g.toInt (fun q => (nm a.toInt.toNat q).toInt) (fun q => (nm b.toInt.toNat q).toInt) n m) n m i (j + 1)) : zm_Y og (d + 1) 156 0 [(0, .ref 45), (1, .int a), (2, .int x), (3, .int b), (4, .int z), (5, .int g)] [] h (fun r h' => h' = h ∧ ∃ v : Int32, r = some (.int v) ∧ v.toInt = (xVV2 g.toInt (fun q => (nm a.toInt.toNat q).toInt) (fun q => (nm b.toInt.toNat q).toInt) n m) i j) := by
  have hla : a.toInt.toNat < 4 := by omega
  have hja := xnat a (hp).1
  obtain ⟨g1a, g2a, g3a, g4a, g5a⟩ := hc.1 _ hla
  have hlb : b.toInt.toNat < 4 := by omega
  have hjb := xnat b (hq).1
  obtain ⟨g1a, g2a, g3a, g4a, g5a⟩ := hc.1 _ hla
  obtain ⟨g1b, g2b, g3b, g4b, g5b⟩ := hc.1 _ hlb
  have e0 : (0 : Int32).toInt = 0 := rfl
  refine zy_n 1 (mr := zm_m156) rfl (show _ = some (1, [(0, .ref 45), (1, .int a), (2, .int x), (3, .int b), (4, .int z), (5, .int g)], [.ref 45]) from rfl) ?_
  refine zk_get (mr := zm_m156) rfl rfl hH (hH.2.2 45 rfl) rfl (xfo_ref (k := 45) (f := 2) (a := 52) hH rfl rfl rfl) ?_
  refine zy_n 1 (mr := zm_m156) rfl (show _ = some (5, [(0, .ref 45), (1, .int a), (2, .int x), (3, .int b), (4, .int z), (5, .int g)], [.int a, .ref 52]) from rfl) ?_
  refine zk_ild (mr := zm_m156) rfl rfl hH (hH.2.2 52 rfl) rfl g2a hja ?_
  refine zy_n 2 (mr := zm_m156) rfl (show _ = some (8, [(0, .ref 45), (1, .int a), (2, .int x), (3, .int b), (4, .int z), (5, .int g)], [.int ((sz a.toInt.toNat) - x)]) from rfl) ?_
  have ep : ((sz a.toInt.toNat) - x).toInt = (n : Int) - i := by rw [xsub32 (by omega) (by omega), hn, hx]
  generalize ((sz a.toInt.toNat) - x) = p at ep ⊢
  refine zy_n 2 (mr := zm_m156) rfl (show _ = some (11, [(6, .int p), (0, .ref 45), (1, .int a), (2, .int x), (3, .int b), (4, .int z), (5, .int g)], [.ref 45]) from rfl) ?_
  refine zk_get (mr := zm_m156) rfl rfl hH (hH.2.2 45 rfl) rfl (xfo_ref (k := 45) (f := 2) (a := 52) hH rfl rfl rfl) ?_
  refine zy_n 1 (mr := zm_m156) rfl (show _ = some (15, [(6, .int p), (0, .ref 45), (1, .int a), (2, .int x), (3, .int b), (4, .int z), (5, .int g)], [.int b, .ref 52]) from rfl) ?_
  refine zk_ild (mr := zm_m156) rfl rfl hH (hH.2.2 52 rfl) rfl g2b hjb ?_
  refine zy_n 2 (mr := zm_m156) rfl (show _ = some (19, [(6, .int p), (0, .ref 45), (1, .int a), (2, .int x), (3, .int b), (4, .int z), (5, .int g)], [.int ((sz b.toInt.toNat) - z)]) from rfl) ?_
  have eq : ((sz b.toInt.toNat) - z).toInt = (m : Int) - j := by rw [xsub32 (by omega) (by omega), hm, hz]
  generalize ((sz b.toInt.toNat) - z) = q at eq ⊢
  refine zy_n 2 (mr := zm_m156) rfl (show _ = some (23, [(7, .int q), (6, .int p), (0, .ref 45), (1, .int a), (2, .int x), (3, .int b), (4, .int z), (5, .int g)], [.int p]) from rfl) ?_
  refine zy_b (mr := zm_m156) rfl rfl (show _ = some (zm_if .eq p 31 26, []) from rfl) ?_
  refine zi_eq (fun c1 => ?_) (fun c1 => ?_)
  · have c1 : p.toInt = 0 := by rw [c1]; rfl
    have epq : (p + q).toInt = ((m - j : Nat) : Int) := by rw [xadd32 (by omega) (by omega), ep, eq]; omega
    have b1 : (((m - j : Nat) : Int)) * g.toInt ≤ 60 * 1000 := Int.mul_le_mul (by omega) hg.2 hg.1 (by omega)
    have b2 : 0 ≤ (((m - j : Nat) : Int)) * g.toInt := Int.mul_nonneg (by omega) hg.1
    have ea : xI32a = -2147483648 := rfl
    have eb : xI32b = 2147483647 := rfl
    refine zy_n 5 (mr := zm_m156) rfl (show _ = some (39, [(7, .int q), (6, .int p), (0, .ref 45), (1, .int a), (2, .int x), (3, .int b), (4, .int z), (5, .int g)], [.int ((p + q) * g)]) from rfl) ?_
    refine zy_r (mr := zm_m156) rfl rfl (show _ = some (some (.int ((p + q) * g))) from rfl) ⟨rfl, _, rfl, ?_⟩
    rw [Int32.toInt_mul, epq, xb_bm32 (by omega) (by omega)]
    have ei : i = n := by omega
    rw [ei]
    exact xVV2_n.symm
  · have c1 : ¬ p.toInt = 0 := fun z => c1 (Int32.toInt_inj.mp z)
    refine zy_n 1 (mr := zm_m156) rfl (show _ = some (28, [(7, .int q), (6, .int p), (0, .ref 45), (1, .int a), (2, .int x), (3, .int b), (4, .int z), (5, .int g)], [.int q]) from rfl) ?_
    refine zy_b (mr := zm_m156) rfl rfl (show _ = some (zm_if .ne q 40 31, []) from rfl) ?_
    refine zi_ne (fun c2 => ?_) (fun c2 => ?_)
    · have c2 : ¬ q.toInt = 0 := fun z => c2 (Int32.toInt_inj.mp z)
      obtain ⟨y1, hy1, ey1⟩ := ht (i + 1) j (by omega) (by omega) (Or.inl (by omega))
      obtain ⟨y2, hy2, ey2⟩ := ht i (j + 1) (by omega) (by omega) (Or.inr ⟨rfl, Nat.le_refl _⟩)
      obtain ⟨y3, hy3, ey3⟩ := ht (i + 1) (j + 1) (by omega) (by omega) (Or.inl (by omega))
      have bb := fun i j => xVV2_60 (X := fun q => (nm a.toInt.toNat q).toInt) (Y := fun q => (nm b.toInt.toNat q).toInt) (n := n) (m := m) hg.1 hg.2 hn60 hm60 i j
      have b1 := bb (i + 1) j
      have b2 := bb i (j + 1)
      have b3 := bb (i + 1) (j + 1)
      have hX := okx i (by omega)
      have hY := oky j (by omega)
      refine zy_n 2 (mr := zm_m156) rfl (show _ = some (43, [(7, .int q), (6, .int p), (0, .ref 45), (1, .int a), (2, .int x), (3, .int b), (4, .int z), (5, .int g)], [.ref 45, .int g]) from rfl) ?_
      refine zk_get (mr := zm_m156) rfl rfl hH (hH.2.2 45 rfl) rfl hcf ?_
      refine zy_n 7 (mr := zm_m156) rfl (show _ = some (55, [(7, .int q), (6, .int p), (0, .ref 45), (1, .int a), (2, .int x), (3, .int b), (4, .int z), (5, .int g)], [.int (((x + 1) * 61) + z), .ref A, .int g]) from rfl) ?_
      refine zk_ild (mr := zm_m156) rfl rfl hH hA rfl hy1 (x61a hx hz (by omega) (by omega)).2.1 ?_
      refine zy_n 1 (mr := zm_m156) rfl (show _ = some (57, [(7, .int q), (6, .int p), (0, .ref 45), (1, .int a), (2, .int x), (3, .int b), (4, .int z), (5, .int g)], [.ref 45, .int y1, .int g]) from rfl) ?_
      refine zk_get (mr := zm_m156) rfl rfl hH (hH.2.2 45 rfl) rfl hcf ?_
      refine zy_n 7 (mr := zm_m156) rfl (show _ = some (69, [(7, .int q), (6, .int p), (0, .ref 45), (1, .int a), (2, .int x), (3, .int b), (4, .int z), (5, .int g)], [.int (((x * 61) + z) + 1), .ref A, .int y1, .int g]) from rfl) ?_
      refine zk_ild (mr := zm_m156) rfl rfl hH hA rfl hy2 (x61a hx hz (by omega) (by omega)).2.2.1 ?_
      refine zk_min (mr := zm_m156) rfl rfl rfl (fun v1 ev1 => ?_)
      refine zy_n 8 (mr := zm_m156) rfl (show _ = some (84, [(8, .int (g + v1)), (7, .int q), (6, .int p), (0, .ref 45), (1, .int a), (2, .int x), (3, .int b), (4, .int z), (5, .int g)], [.int z, .int b, .int x, .int a, .ref 45, .int (g + v1)]) from rfl) ?_
      refine zy_c (mr := zm_m156) (mc := zm_m157) rfl rfl (zk_co (A := [.int a, .int x, .int b, .int z]) hH rfl rfl rfl rfl) rfl rfl ?_
      refine (zh_pc hH hc hp hq hg hn hm hn60 hm60 okx oky hcf hA (show i < n by omega) (show j < m by omega) hx hz hy3 ey3).mono (fun q h' hq => ?_)
      obtain ⟨hez, w, rfl, ew⟩ := hq
      rw [hez]
      refine zk_min (mr := zm_m156) rfl rfl rfl (fun v2 ev2 => ?_)
      refine zy_r (mr := zm_m156) rfl rfl (show _ = some (some (.int v2)) from rfl) ⟨rfl, _, rfl, ?_⟩
      rw [ev2, xadd32 (by omega) (by omega), xVV2_s (show i < n by omega) (show j < m by omega), ew]
      omega
    · have c2 : q.toInt = 0 := by rw [c2]; rfl
      have epq : (p + q).toInt = ((n - i : Nat) : Int) := by rw [xadd32 (by omega) (by omega), ep, eq]; omega
      have b1 : (((n - i : Nat) : Int)) * g.toInt ≤ 60 * 1000 := Int.mul_le_mul (by omega) hg.2 hg.1 (by omega)
      have b2 : 0 ≤ (((n - i : Nat) : Int)) * g.toInt := Int.mul_nonneg (by omega) hg.1
      have ea : xI32a = -2147483648 := rfl
      have eb : xI32b = 2147483647 := rfl
      refine zy_n 5 (mr := zm_m156) rfl (show _ = some (39, [(7, .int q), (6, .int p), (0, .ref 45), (1, .int a), (2, .int x), (3, .int b), (4, .int z), (5, .int g)], [.int ((p + q) * g)]) from rfl) ?_
      refine zy_r (mr := zm_m156) rfl rfl (show _ = some (some (.int ((p + q) * g))) from rfl) ⟨rfl, _, rfl, ?_⟩
      rw [Int32.toInt_mul, epq, xb_bm32 (by omega) (by omega)]
      have ej : j = m := by omega
      rw [ej]
      exact xVV2_m.symm
end XR2
