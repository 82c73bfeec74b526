/-! PLACES and PAIRS: piece 9 (made by a program) -/
section XR2
set_option maxRecDepth 100000
variable {og : Nat → Option zm_C} {τ τ' : List Nat} {h h' : zm_H} {ms : List (Nat × Nat)} {rp : Nat → Nat} {wd sz : Nat → Int32} {nm : Nat → Nat → Int64}
theorem zy_pi {d n m A i : Nat} {a b g x : Int32} {Q : Option Value → zm_H → Prop} (hp : 0 ≤ a.toInt ∧ a.toInt ≤ 3) (hq : 0 ≤ b.toInt ∧ b.toInt ≤ 3) (hg : 0 ≤ g.toInt ∧ g.toInt ≤ 1000) (hn : (sz a.toInt.toNat).toInt = (n : Int)) (hm : (sz b.toInt.toNat).toInt = (m : Int)) (hn60 : n ≤ 60) (hm60 : m ≤ 60) (okx : xokN nm a.toInt.toNat n) (oky : xokN nm b.toInt.toNat m) (hA : τ[A]? = some 219) (hi : i ≤ n) (hx : x.toInt = (i : Int)) : ∀ (jr : Nat) (z : Int32) (h : zm_H), z.toInt = (jr : Int) - 1 → jr ≤ m + 1 → xHI xKT xSG τ h → xX τ h → xRXa rp τ h wd sz nm → xfd h 45 5 = some (.ref A) → xtbl h A (xVV2 g.toInt (fun q => (nm a.toInt.toNat q).toInt) (fun q => (nm b.toInt.toNat q).toInt) n m) n m i jr → (∀ h1, xHI xKT xSG τ h1 → xX τ h1 → xW h1 ≤ xW h → xF (xms [(219, 0)]) τ h τ h1 → xRXa rp τ h1 wd sz nm → xfd h1 45 5 = some (.ref A) → xtbl h1 A (xVV2 g.toInt (fun q => (nm a.toInt.toNat q).toInt) (fun q => (nm b.toInt.toNat q).toInt) n m) n m i 0 → zm_Y og (d + 2) 155 80 [(0, .ref 45), (1, .int a), (2, .int b), (3, .int g), (4, .int (sz a.toInt.toNat)), (5, .int (sz b.toInt.toNat)), (6, .int x)] [] h1 Q) → zm_Y og (d + 2) 155 45 [(0, .ref 45), (1, .int a), (2, .int b), (3, .int g), (4, .int (sz a.toInt.toNat)), (5, .int (sz b.toInt.toNat)), (6, .int x), (7, .int z)] [] h Q
  | 0, z, h, hz, hj, hH, hX, hc, hcf, ht, kk => by
    refine zy_n 1 (mr := zm_m155) rfl (show _ = some (47, [(0, .ref 45), (1, .int a), (2, .int b), (3, .int g), (4, .int (sz a.toInt.toNat)), (5, .int (sz b.toInt.toNat)), (6, .int x), (7, .int z)], [.int z]) from rfl) ?_
    refine zy_b (mr := zm_m155) rfl rfl (show _ = some (zm_if .lt z 80 50, []) from rfl) ?_
    refine zi_lt (fun _ => ?_) (fun e => absurd (Int32.lt_iff_toInt_lt.mpr (by rw [hz]; decide)) e)
    exact zy_sub [(0, .ref 45), (1, .int a), (2, .int b), (3, .int g), (4, .int (sz a.toInt.toNat)), (5, .int (sz b.toInt.toNat)), (6, .int x)] (by simp) (fun q hq => by simp only [List.mem_cons, List.not_mem_nil, or_false] at hq; rcases hq with rfl | rfl | rfl | rfl | rfl | rfl | rfl <;> rfl) (kk h hH hX (Nat.le_refl _) (xF_refl _ _ _) hc hcf ht)
  | j + 1, z, h, hz, hj, hH, hX, hc, hcf, ht, kk => by
    have hz : z.toInt = (j : Int) := by omega
    have e0 : (0 : Int32).toInt = 0 := rfl
    have em : (-1 : Int32).toInt = -1 := rfl
    refine zy_n 1 (mr := zm_m155) rfl (show _ = some (47, [(0, .ref 45), (1, .int a), (2, .int b), (3, .int g), (4, .int (sz a.toInt.toNat)), (5, .int (sz b.toInt.toNat)), (6, .int x), (7, .int z)], [.int z]) from rfl) ?_
    refine zy_b (mr := zm_m155) rfl rfl (show _ = some (zm_if .lt z 80 50, []) from rfl) ?_
    refine zi_lt (fun e => absurd e (fun z2 => by have z3 := Int32.lt_iff_toInt_lt.mp z2; omega)) (fun _ => ?_)
    refine zy_n 1 (mr := zm_m155) rfl (show _ = some (51, [(0, .ref 45), (1, .int a), (2, .int b), (3, .int g), (4, .int (sz a.toInt.toNat)), (5, .int (sz b.toInt.toNat)), (6, .int x), (7, .int z)], [.ref 45]) from rfl) ?_
    refine zk_get (mr := zm_m155) rfl rfl hH (hH.2.2 45 rfl) rfl hcf ?_
    refine zy_n 11 (mr := zm_m155) rfl (show _ = some (70, [(0, .ref 45), (1, .int a), (2, .int b), (3, .int g), (4, .int (sz a.toInt.toNat)), (5, .int (sz b.toInt.toNat)), (6, .int x), (7, .int z)], [.int g, .int z, .int b, .int x, .int a, .ref 45, .int ((x * 61) + z), .ref A]) from rfl) ?_
    refine zy_c (mr := zm_m155) (mc := zm_m156) rfl rfl (zk_co (A := [.int a, .int x, .int b, .int z, .int g]) hH rfl rfl rfl rfl) rfl rfl ?_
    refine (zh_lc (d := d) (A := A) (h := h) hH hc hp hq hg hn hm hn60 hm60 okx oky hcf hA hi (show j ≤ m by omega) hx hz ht).mono (fun q h' hq => ?_)
    obtain ⟨hez, w, rfl, ew⟩ := hq
    rw [hez]
    refine zk_ist (mr := zm_m155) rfl rfl hH hX hA rfl rfl (x61a hx hz (by omega) (by omega)).1 (by omega) List.mem_cons_self ⟨_, rfl, (xb_rng _).1, (xb_rng _).2⟩ ⟨by show (0 : Int) ≤ _; omega, by show _ ≤ (3720 : Int); omega, Or.inl rfl⟩ ?_
    intro h1 hH1 hX1 hW1 hs1 hg1 hF1
    have hc := xRXa_F hH (hF1 [(219, 0)] rfl) rfl hc
    have ht := xtbl_up ht hg1 hs1 ew (by omega) (by omega)
    have hcf := hg1.1 _ _ _ (by simp) hcf
    have ih := zy_pi (d := d) hp hq hg hn hm hn60 hm60 okx oky hA hi hx j (z + (-1)) h1 (by rw [xadd32 (by omega) (by omega), hz, em]; omega) (by omega) hH1 hX1 hc hcf ht (fun h2 a1 a2 a3 a4 a5 a6 a7 => kk h2 a1 a2 (by omega) (xF_trans (hF1 _ rfl) a4) a5 a6 a7)
    refine zy_n 2 (mr := zm_m155) rfl (show _ = some (45, [(7, .int (z + (-1))), (0, .ref 45), (1, .int a), (2, .int b), (3, .int g), (4, .int (sz a.toInt.toNat)), (5, .int (sz b.toInt.toNat)), (6, .int x)], []) from rfl) ?_
    exact zy_sub [(0, .ref 45), (1, .int a), (2, .int b), (3, .int g), (4, .int (sz a.toInt.toNat)), (5, .int (sz b.toInt.toNat)), (6, .int x), (7, .int (z + (-1)))] (by simp) (fun q hq => by simp only [List.mem_cons, List.not_mem_nil, or_false] at hq; rcases hq with rfl | rfl | rfl | rfl | rfl | rfl | rfl | rfl <;> rfl) ih
theorem zy_po {d n m A : Nat} {a b g : Int32} {Q : Option Value → zm_H → Prop} (hp : 0 ≤ a.toInt ∧ a.toInt ≤ 3) (hq : 0 ≤ b.toInt ∧ b.toInt ≤ 3) (hg : 0 ≤ g.toInt ∧ g.toInt ≤ 1000) (hn : (sz a.toInt.toNat).toInt = (n : Int)) (hm : (sz b.toInt.toNat).toInt = (m : Int)) (hn60 : n ≤ 60) (hm60 : m ≤ 60) (okx : xokN nm a.toInt.toNat n) (oky : xokN nm b.toInt.toNat m) (hA : τ[A]? = some 219) : ∀ (ir : Nat) (x : Int32) (h : zm_H), x.toInt = (ir : Int) - 1 → ir ≤ n + 1 → xHI xKT xSG τ h → xX τ h → xRXa rp τ h wd sz nm → xfd h 45 5 = some (.ref A) → xtbl h A (xVV2 g.toInt (fun q => (nm a.toInt.toNat q).toInt) (fun q => (nm b.toInt.toNat q).toInt) n m) n m ir 0 → (∀ h1, xHI xKT xSG τ h1 → xX τ h1 → xW h1 ≤ xW h → xF (xms [(219, 0)]) τ h τ h1 → xRXa rp τ h1 wd sz nm → xfd h1 45 5 = some (.ref A) → xtbl h1 A (xVV2 g.toInt (fun q => (nm a.toInt.toNat q).toInt) (fun q => (nm b.toInt.toNat q).toInt) n m) n m 0 0 → zm_Y og (d + 2) 155 86 [(0, .ref 45), (1, .int a), (2, .int b), (3, .int g), (4, .int (sz a.toInt.toNat)), (5, .int (sz b.toInt.toNat))] [] h1 Q) → zm_Y og (d + 2) 155 36 [(0, .ref 45), (1, .int a), (2, .int b), (3, .int g), (4, .int (sz a.toInt.toNat)), (5, .int (sz b.toInt.toNat)), (6, .int x)] [] h Q
  | 0, x, h, hx, hi, hH, hX, hc, hcf, ht, kk => by
    refine zy_n 1 (mr := zm_m155) rfl (show _ = some (38, [(0, .ref 45), (1, .int a), (2, .int b), (3, .int g), (4, .int (sz a.toInt.toNat)), (5, .int (sz b.toInt.toNat)), (6, .int x)], [.int x]) from rfl) ?_
    refine zy_b (mr := zm_m155) rfl rfl (show _ = some (zm_if .lt x 86 41, []) from rfl) ?_
    refine zi_lt (fun _ => ?_) (fun e => absurd (Int32.lt_iff_toInt_lt.mpr (by rw [hx]; decide)) e)
    exact zy_sub [(0, .ref 45), (1, .int a), (2, .int b), (3, .int g), (4, .int (sz a.toInt.toNat)), (5, .int (sz b.toInt.toNat))] (by simp) (fun q hq => by simp only [List.mem_cons, List.not_mem_nil, or_false] at hq; rcases hq with rfl | rfl | rfl | rfl | rfl | rfl <;> rfl) (kk h hH hX (Nat.le_refl _) (xF_refl _ _ _) hc hcf ht)
  | i + 1, x, h, hx, hi, hH, hX, hc, hcf, ht, kk => by
    have hx : x.toInt = (i : Int) := by omega
    have e0 : (0 : Int32).toInt = 0 := rfl
    have em : (-1 : Int32).toInt = -1 := rfl
    have ht : xtbl h A (xVV2 g.toInt (fun q => (nm a.toInt.toNat q).toInt) (fun q => (nm b.toInt.toNat q).toInt) n m) n m i (m + 1) := fun i' j' h1 h2 h3 => ht i' j' h1 h2 (by omega)
    refine zy_n 1 (mr := zm_m155) rfl (show _ = some (38, [(0, .ref 45), (1, .int a), (2, .int b), (3, .int g), (4, .int (sz a.toInt.toNat)), (5, .int (sz b.toInt.toNat)), (6, .int x)], [.int x]) from rfl) ?_
    refine zy_b (mr := zm_m155) rfl rfl (show _ = some (zm_if .lt x 86 41, []) from rfl) ?_
    refine zi_lt (fun e => absurd e (fun z2 => by have z3 := Int32.lt_iff_toInt_lt.mp z2; omega)) (fun _ => ?_)
    refine zy_n 2 (mr := zm_m155) rfl (show _ = some (45, [(7, .int (sz b.toInt.toNat)), (0, .ref 45), (1, .int a), (2, .int b), (3, .int g), (4, .int (sz a.toInt.toNat)), (5, .int (sz b.toInt.toNat)), (6, .int x)], []) from rfl) ?_
    refine zy_sub [(0, .ref 45), (1, .int a), (2, .int b), (3, .int g), (4, .int (sz a.toInt.toNat)), (5, .int (sz b.toInt.toNat)), (6, .int x), (7, .int (sz b.toInt.toNat))] (by simp) (fun q hq => by simp only [List.mem_cons, List.not_mem_nil, or_false] at hq; rcases hq with rfl | rfl | rfl | rfl | rfl | rfl | rfl | rfl <;> rfl) (zy_pi (d := d) hp hq hg hn hm hn60 hm60 okx oky hA (show i ≤ n by omega) hx (m + 1) _ h (by rw [hm]; omega) (Nat.le_refl _) hH hX hc hcf ht (fun h1 hH1 hX1 hW1 hF1 hc1 hcf1 ht1 => ?_))
    have ih := zy_po (d := d) hp hq hg hn hm hn60 hm60 okx oky hA i (x + (-1)) h1 (by rw [xadd32 (by omega) (by omega), hx, em]; omega) (by omega) hH1 hX1 hc1 hcf1 ht1 (fun h2 a1 a2 a3 a4 a5 a6 a7 => kk h2 a1 a2 (by omega) (xF_trans hF1 a4) a5 a6 a7)
    refine zy_n 2 (mr := zm_m155) rfl (show _ = some (36, [(6, .int (x + (-1))), (0, .ref 45), (1, .int a), (2, .int b), (3, .int g), (4, .int (sz a.toInt.toNat)), (5, .int (sz b.toInt.toNat))], []) from rfl) ?_
    exact zy_sub [(0, .ref 45), (1, .int a), (2, .int b), (3, .int g), (4, .int (sz a.toInt.toNat)), (5, .int (sz b.toInt.toNat)), (6, .int (x + (-1)))] (by simp) (fun q hq => by simp only [List.mem_cons, List.not_mem_nil, or_false] at hq; rcases hq with rfl | rfl | rfl | rfl | rfl | rfl | rfl <;> rfl) ih
theorem zh_pu16 {d n m A : Nat} {a b g : Int32} (hX : xX τ h) (hH : xHI xKT xSG τ h) (hc : xRXa rp τ h wd sz nm) (hp : 0 ≤ a.toInt ∧ a.toInt ≤ 3) (hq : 0 ≤ b.toInt ∧ b.toInt ≤ 3) (hg : 0 ≤ g.toInt ∧ g.toInt ≤ 1000) (hn : (sz a.toInt.toNat).toInt = (n : Int)) (hm : (sz b.toInt.toNat).toInt = (m : Int)) (hn60 : n ≤ 60) (hm60 : m ≤ 60) (okx : xokN nm a.toInt.toNat n) (oky : xokN nm b.toInt.toNat m) (hcf : xfd h 45 5 = some (.ref A)) (hA : τ[A]? = some 219) : zm_Y og (d + 2) 155 16 [(0, .ref 45), (1, .int a), (2, .int b), (3, .int g)] [] h (xCO τ h 0 [(45, 4), (45, 5), (53, 0), (219, 0)] (fun r => ∃ v : Int32, r = some (.int v) ∧ v.toInt = (xVV2 g.toInt (fun q => (nm a.toInt.toNat q).toInt) (fun q => (nm b.toInt.toNat q).toInt) n m) 0 0) (fun τ1 h1 => xRXa rp τ1 h1 wd sz nm ∧ xfd h1 45 4 = some (.int (sz a.toInt.toNat)) ∧ ∀ q, q < 60 → xar h1 53 q = some (.int ((xtr (xVV2 g.toInt (fun q => (nm a.toInt.toNat q).toInt) (fun q => (nm b.toInt.toNat q).toInt) n m) (fun p q => (((nm a.toInt.toNat p).toInt - (nm b.toInt.toNat q).toInt).natAbs : Int)) g.toInt n m 120 0 0 (fun _ => -1)) q)))) := by
  have hla : a.toInt.toNat < 4 := by omega
  have hja := xnat a (hp).1
  obtain ⟨g1a, g2a, g3a, g4a, g5a⟩ := hc.1 _ hla
  have hlb : b.toInt.toNat < 4 := by omega
  have hjb := xnat b (hq).1
  obtain ⟨g1a, g2a, g3a, g4a, g5a⟩ := hc.1 _ hla
  obtain ⟨g1b, g2b, g3b, g4b, g5b⟩ := hc.1 _ hlb
  refine zy_n 1 (mr := zm_m155) rfl (show _ = some (17, [(0, .ref 45), (1, .int a), (2, .int b), (3, .int g)], [.ref 45]) from rfl) ?_
  refine zk_get (mr := zm_m155) rfl rfl hH (hH.2.2 45 rfl) rfl (xfo_ref (k := 45) (f := 2) (a := 52) hH rfl rfl rfl) ?_
  refine zy_n 1 (mr := zm_m155) rfl (show _ = some (21, [(0, .ref 45), (1, .int a), (2, .int b), (3, .int g)], [.int a, .ref 52]) from rfl) ?_
  refine zk_ild (mr := zm_m155) rfl rfl hH (hH.2.2 52 rfl) rfl g2a hja ?_
  refine zy_n 2 (mr := zm_m155) rfl (show _ = some (25, [(4, .int (sz a.toInt.toNat)), (0, .ref 45), (1, .int a), (2, .int b), (3, .int g)], [.ref 45]) from rfl) ?_
  refine zk_get (mr := zm_m155) rfl rfl hH (hH.2.2 45 rfl) rfl (xfo_ref (k := 45) (f := 2) (a := 52) hH rfl rfl rfl) ?_
  refine zy_n 1 (mr := zm_m155) rfl (show _ = some (29, [(4, .int (sz a.toInt.toNat)), (0, .ref 45), (1, .int a), (2, .int b), (3, .int g)], [.int b, .ref 52]) from rfl) ?_
  refine zk_ild (mr := zm_m155) rfl rfl hH (hH.2.2 52 rfl) rfl g2b hjb ?_
  refine zy_n 3 (mr := zm_m155) rfl (show _ = some (36, [(6, .int (sz a.toInt.toNat)), (5, .int (sz b.toInt.toNat)), (4, .int (sz a.toInt.toNat)), (0, .ref 45), (1, .int a), (2, .int b), (3, .int g)], []) from rfl) ?_
  refine zy_sub [(0, .ref 45), (1, .int a), (2, .int b), (3, .int g), (4, .int (sz a.toInt.toNat)), (5, .int (sz b.toInt.toNat)), (6, .int (sz a.toInt.toNat))] (by simp) (fun q hq => by simp only [List.mem_cons, List.not_mem_nil, or_false] at hq; rcases hq with rfl | rfl | rfl | rfl | rfl | rfl | rfl <;> rfl) (zy_po (d := d) hp hq hg hn hm hn60 hm60 okx oky hA (n + 1) _ h (by rw [hn]; omega) (Nat.le_refl _) hH hX hc hcf (fun i' j' h1 h2 h3 => by omega) (fun h1 hH1 hX1 hW1 hF1 hc hcf ht => ?_))
  refine zy_n 2 (mr := zm_m155) rfl (show _ = some (89, [(0, .ref 45), (1, .int a), (2, .int b), (3, .int g), (4, .int (sz a.toInt.toNat)), (5, .int (sz b.toInt.toNat))], [.int (sz a.toInt.toNat), .ref 45]) from rfl) ?_
  refine zk_put (mr := zm_m155) rfl rfl hH1 hX1 (hH1.2.2 45 rfl) rfl rfl rfl rfl ⟨_, List.mem_cons_self, ⟨_, rfl, by show (0 : Int) ≤ _; omega, by show _ ≤ (60 : Int); omega⟩⟩ ?_
  intro h2 hH2 hX2 hW2 hs2 hg2 hF2
  have hc := xRXa_F hH1 (hF2 [(45, 4)] rfl) rfl hc
  have hpl := hs2
  have hcf := hg2.1 _ _ _ (by simp) hcf
  have ht := xtbl_F (hF2 [(45, 4)] rfl) hA rfl ht
  refine zy_n 1 (mr := zm_m155) rfl (show _ = some (93, [(0, .ref 45), (1, .int a), (2, .int b), (3, .int g), (4, .int (sz a.toInt.toNat)), (5, .int (sz b.toInt.toNat))], [.ref 45]) from rfl) ?_
  refine zk_get (mr := zm_m155) rfl rfl hH2 (hH2.2.2 45 rfl) rfl (xfo_ref (k := 45) (f := 3) (a := 53) hH2 rfl rfl rfl) ?_
  refine zy_n 1 (mr := zm_m155) rfl (show _ = some (97, [(0, .ref 45), (1, .int a), (2, .int b), (3, .int g), (4, .int (sz a.toInt.toNat)), (5, .int (sz b.toInt.toNat))], [.int (-1), .ref 53]) from rfl) ?_
  refine zy_c (mr := zm_m155) (mc := zm_m129) rfl rfl rfl rfl rfl ?_
  refine (zh_fi hH2 hX2 hc).mono (fun q h3 hq2 => ?_)
  obtain ⟨rfl, τ3, hH3, hX3, hW3, hF3, hP⟩ := hq2
  obtain ⟨sx, hsx⟩ := hF3.1
  have hA2 : τ3[A]? = some 219 := by rw [hsx]; exact xgl hA
  have hc := xRXa_F hH2 hF3 rfl hc
  have hpl := hF3.2.1 45 45 4 _ (hH2.2.2 45 rfl) rfl hpl
  have hcf := hF3.2.1 45 45 5 _ (hH2.2.2 45 rfl) rfl hcf
  have ht := xtbl_F hF3 hA rfl ht
  refine zy_n 4 (mr := zm_m155) rfl (show _ = some (104, [(0, .ref 45), (1, .int a), (2, .int b), (3, .int g), (4, .int (sz a.toInt.toNat)), (5, .int (sz b.toInt.toNat))], [.int g, .int b, .int a, .ref 45]) from rfl) ?_
  refine zy_c (mr := zm_m155) (mc := zm_m158) rfl rfl (zk_co (A := [.int a, .int b, .int g]) hH3 rfl rfl rfl rfl) rfl rfl ?_
  refine (zh_np (d := d) hX3 hH3 hc hp hq hg hn hm hn60 hm60 okx oky hcf hA2 ht hP).mono (fun q h4 hq2 => ?_)
  obtain ⟨rfl, τ4, hH4, hX4, hW4, hF4, hP⟩ := hq2
  obtain ⟨sy, hsy⟩ := hF4.1
  have hA3 : τ4[A]? = some 219 := by rw [hsy]; exact xgl hA2
  have hc := xRXa_F hH3 hF4 rfl hc
  have hpl := hF4.2.1 45 45 4 _ (hH3.2.2 45 rfl) rfl hpl
  have hcf := hF4.2.1 45 45 5 _ (hH3.2.2 45 rfl) rfl hcf
  have ht := xtbl_F hF4 hA2 rfl ht
  obtain ⟨yy, hyy, eyy⟩ := ht 0 0 (Nat.zero_le _) (Nat.zero_le _) (Or.inr ⟨rfl, Nat.le_refl _⟩)
  have hyy : xar h4 A 0 = some (.int yy) := hyy
  refine zy_n 1 (mr := zm_m155) rfl (show _ = some (108, [(0, .ref 45), (1, .int a), (2, .int b), (3, .int g), (4, .int (sz a.toInt.toNat)), (5, .int (sz b.toInt.toNat))], [.ref 45]) from rfl) ?_
  refine zk_get (mr := zm_m155) rfl rfl hH4 (hH4.2.2 45 rfl) rfl hcf ?_
  refine zy_n 1 (mr := zm_m155) rfl (show _ = some (112, [(0, .ref 45), (1, .int a), (2, .int b), (3, .int g), (4, .int (sz a.toInt.toNat)), (5, .int (sz b.toInt.toNat))], [.int 0, .ref A]) from rfl) ?_
  refine zk_ild (mr := zm_m155) rfl rfl hH4 hA3 rfl hyy (show (0 : Int32).toInt = ((0 : Nat) : Int) from rfl) ?_
  refine zy_r (mr := zm_m155) rfl rfl (show _ = some (some (.int yy)) from rfl) ⟨⟨_, rfl, eyy⟩, τ4, hH4, hX4, by omega, (xF_trans (xF_weak hF1 (xmsS rfl)) (xF_trans (hF2 _ rfl) (xF_trans (xF_weak hF3 (xmsS rfl)) (xF_weak hF4 (xmsS rfl))))), hc, hpl, hP⟩
theorem zh_pu {d n m : Nat} {a b g : Int32} (hX : xX τ h) (hH : xHI xKT xSG τ h) (hc : xRXa rp τ h wd sz nm) (hp : 0 ≤ a.toInt ∧ a.toInt ≤ 3) (hq : 0 ≤ b.toInt ∧ b.toInt ≤ 3) (hg : 0 ≤ g.toInt ∧ g.toInt ≤ 1000) (hn : (sz a.toInt.toNat).toInt = (n : Int)) (hm : (sz b.toInt.toNat).toInt = (m : Int)) (hn60 : n ≤ 60) (hm60 : m ≤ 60) (okx : xokN nm a.toInt.toNat n) (oky : xokN nm b.toInt.toNat m) : zm_Y og (d + 2) 155 0 [(0, .ref 45), (1, .int a), (2, .int b), (3, .int g)] [] h (xCO τ h 3734 [(45, 4), (45, 5), (53, 0), (219, 0)] (fun r => ∃ v : Int32, r = some (.int v) ∧ v.toInt = (xVV2 g.toInt (fun q => (nm a.toInt.toNat q).toInt) (fun q => (nm b.toInt.toNat q).toInt) n m) 0 0) (fun τ1 h1 => xRXa rp τ1 h1 wd sz nm ∧ xfd h1 45 4 = some (.int (sz a.toInt.toNat)) ∧ ∀ q, q < 60 → xar h1 53 q = some (.int ((xtr (xVV2 g.toInt (fun q => (nm a.toInt.toNat q).toInt) (fun q => (nm b.toInt.toNat q).toInt) n m) (fun p q => (((nm a.toInt.toNat p).toInt - (nm b.toInt.toNat q).toInt).natAbs : Int)) g.toInt n m 120 0 0 (fun _ => -1)) q)))) := by
  obtain ⟨fs, v, q1, q2, q3, hq3, s1⟩ := xfo (k := 45) (f := 5) hH rfl rfl rfl
  have hv : xfd h 45 5 = some v := by simp only [xfd, q1, q2]
  have hq3 : q3 ∈ [((2, 0, 0, 0) : xA), (4, 219, 0, 0)] := hq3
  simp only [List.mem_cons, List.not_mem_nil, or_false] at hq3
  rcases hq3 with rfl | rfl
  · have s1 : v = .null := s1
    subst s1
    refine zy_n 1 (mr := zm_m155) rfl (show _ = some (1, [(0, .ref 45), (1, .int a), (2, .int b), (3, .int g)], [.ref 45]) from rfl) ?_
    refine zk_get (mr := zm_m155) rfl rfl hH (hH.2.2 45 rfl) rfl hv ?_
    refine zy_b (mr := zm_m155) rfl rfl (show _ = some (7, []) from rfl) ?_
    refine zy_n 2 (mr := zm_m155) rfl (show _ = some (11, [(0, .ref 45), (1, .int a), (2, .int b), (3, .int g)], [.int 3721, .ref 45]) from rfl) ?_
    refine zk_newa (kd := 219) (mr := zm_m155) rfl rfl hH hX rfl (by decide) (by decide +kernel) (by decide +kernel) (by decide +kernel) (fun h1 A hH1 hX1 hW1 hA ho1 ho2 hF1 => ?_)
    have hc := xRXa_F hH (hF1 []) rfl hc
    refine zk_put (mr := zm_m155) rfl rfl hH1 hX1 (hH1.2.2 45 rfl) rfl rfl rfl rfl ⟨_, List.mem_cons_of_mem _ List.mem_cons_self, ⟨A, rfl, hA⟩⟩ (fun h2 hH2 hX2 hW2 hs2 hg2 hF2 => ?_)
    have hc := xRXa_F hH1 (hF2 [(45, 5)] rfl) rfl hc
    refine (zh_pu16 (d := d) hX2 hH2 hc hp hq hg hn hm hn60 hm60 okx oky hs2 hA).mono (fun r h3 hq2 => ?_)
    obtain ⟨p, τ3, a1, a2, a3, a4, a5⟩ := hq2
    exact ⟨p, τ3, a1, a2, by omega, xF_trans (hF1 _) (xF_trans (hF2 _ rfl) a4), a5⟩
  · obtain ⟨A, rfl, hA⟩ := s1
    refine zy_n 1 (mr := zm_m155) rfl (show _ = some (1, [(0, .ref 45), (1, .int a), (2, .int b), (3, .int g)], [.ref 45]) from rfl) ?_
    refine zk_get (mr := zm_m155) rfl rfl hH (hH.2.2 45 rfl) rfl hv ?_
    refine zy_b (mr := zm_m155) rfl rfl (show _ = some (16, []) from rfl) ?_
    exact (zh_pu16 (d := d) hX hH hc hp hq hg hn hm hn60 hm60 okx oky hv hA).mono (fun r h3 hq2 => xCO_tr (g1 := 0) (g2 := 0) (xF_refl _ _ _) (by omega) (by omega) hq2)
end XR2
