/-! ROOMS and OPENINGS (made by a program) -/
section XR5
set_option maxRecDepth 100000
variable {og : Nat → Option zm_C} {τ τ' : List Nat} {h h' : zm_H} {ms : List (Nat × Nat)} {ad rp : Nat → Nat} {n : Nat} {dn rc oc : Nat → Int32} {st rf : Nat → Int32} {nr y L : Int32} {wk : Nat → Int32} {wd sz : Nat → Int32} {nm : Nat → Nat → Int64}
theorem xup2 {f : Nat → Int32} {i : Nat} {v w : Int32} : upd (upd f i v) i w = upd f i w := by
  funext j
  show (if j = i then w else if j = i then v else f j) = if j = i then w else f j
  by_cases e : j = i
  · rw [if_pos e, if_pos e]
  · rw [if_neg e, if_neg e, if_neg e]
theorem zy_ma5 {d m : Nat} {a b f p : Int32} {Q : Option Value → zm_H → Prop} (ha : 0 ≤ a.toInt ∧ a.toInt < 16) (ko : (0 ≤ b.toInt ∧ b.toInt ≤ 3) ∧ (0 ≤ f.toInt ∧ f.toInt ≤ 5) ∧ 0 ≤ p.toInt ∧ p.toInt ≤ 3) (hm : (sz p.toInt.toNat).toInt = (m : Int)) (r0 : 0 ≤ (rc a.toInt.toNat).toInt) (r5 : (rc a.toInt.toNat).toInt ≤ 5) (o0 : 0 ≤ (oc a.toInt.toNat).toInt) (h10 : (oc a.toInt.toNat).toInt + (m : Int) ≤ 10) (kk : (∀ h2 : zm_H, xHI xKT xSG τ h2 → xX τ h2 → xHM h2 n dn rc (upd oc a.toInt.toNat (oc a.toInt.toNat + Int32.ofNat m)) → xRM h2 wd sz nm → xW h2 ≤ xW h → xF (xms [(67, 0), (73, 0), (74, 0), (75, 0), (76, 0), (77, 0), (78, 0)]) τ h τ h2 → zm_Y og (d + 2) 191 397 [(0, .ref 55), (1, .int a), (2, .int b), (3, .int f), (4, .int p)] [] h2 Q)) : ∀ (q k : Nat) (h0 : zm_H), k + q = m → xHI xKT xSG τ h0 → xX τ h0 → xHM h0 n dn rc (upd oc a.toInt.toNat (oc a.toInt.toNat + Int32.ofNat k)) → xRM h0 wd sz nm → xW h0 ≤ xW h → xF (xms [(67, 0), (73, 0), (74, 0), (75, 0), (76, 0), (77, 0), (78, 0)]) τ h τ h0 → zm_Y og (d + 2) 191 236 [(0, .ref 55), (1, .int a), (2, .int b), (3, .int f), (4, .int p), (5, .int (Int32.ofNat k))] [] h0 Q
  | 0, k, h0, hk, hHz, hXz, hx, hc, hw, hf => by
    have hkn : k = m := by omega
    subst hkn
    have hjk := (xofn (k := k) (by omega)).1
    have hp := ko.2.2
    have hl16 : a.toInt.toNat < 16 := by omega
    have hja := xnat a ha.1
    have hlp : p.toInt.toNat < 4 := by omega
    have hjp := xnat p (hp).1
    obtain ⟨g1p, g2p, g3p⟩ := hc _ hlp
    obtain ⟨q1, q2, q3⟩ := hx.2.2.1 _ hl16
    have q3 : xar h0 67 a.toInt.toNat = some (.int (oc a.toInt.toNat + Int32.ofNat k)) := by rw [q3]; exact congrArg (fun z => some (Value.int z)) (if_pos rfl)
    refine zy_n 2 (mr := zm_m191) rfl (show _ = some (239, [(0, .ref 55), (1, .int a), (2, .int b), (3, .int f), (4, .int p), (5, .int (Int32.ofNat k))], [.ref 55, .int (Int32.ofNat k)]) from rfl) ?_
    refine zk_get (mr := zm_m191) rfl rfl hHz (hHz.2.2 55 rfl) rfl (xfo_ref (k := 55) (f := 2) (a := 57) hHz rfl rfl rfl) ?_
    refine zy_n 1 (mr := zm_m191) rfl (show _ = some (244, [(0, .ref 55), (1, .int a), (2, .int b), (3, .int f), (4, .int p), (5, .int (Int32.ofNat k))], [.int p, .ref 57, .int (Int32.ofNat k)]) from rfl) ?_
    refine zk_ild (mr := zm_m191) rfl rfl hHz (hHz.2.2 57 rfl) rfl g2p hjp ?_
    refine zy_b (mr := zm_m191) rfl rfl (show _ = some (zm_ic .ge (Int32.ofNat k) (sz p.toInt.toNat) 397 248, []) from rfl) ?_
    refine zc_ge (fun _ => ?_) (fun e => absurd (Int32.le_iff_toInt_le.mpr (by omega)) e)
    exact zy_sub [(0, .ref 55), (1, .int a), (2, .int b), (3, .int f), (4, .int p)] (by simp) (fun q hq => by simp only [List.mem_cons, List.not_mem_nil, or_false] at hq; rcases hq with rfl | rfl | rfl | rfl | rfl | rfl <;> rfl) (kk h0 hHz hXz hx hc hw hf)
  | q + 1, k, h0, hk, hHz, hXz, hx, hc, hw, hf => by
    have hjk := (xofn (k := k) (by omega)).1
    have hp := ko.2.2
    have hl16 : a.toInt.toNat < 16 := by omega
    have hja := xnat a ha.1
    have hix := xix hp hjk (by omega)
    have eo : (oc a.toInt.toNat + Int32.ofNat k).toInt = (((oc a.toInt.toNat).toInt.toNat + k : Nat) : Int) := by rw [xad5 (by omega) (by omega), hjk]; omega
    have hj7 := xi5 (c := 10) (w := 10) rfl (by omega) hja eo hl16 (by omega)
    have hs7 : 10 * a.toInt.toNat + ((oc a.toInt.toNat).toInt.toNat + k) < 160 := by omega
    have e1 : (1 : Int32).toInt = 1 := rfl
    have eo1 : (oc a.toInt.toNat + Int32.ofNat k + 1).toInt = (((oc a.toInt.toNat).toInt.toNat + k : Nat) : Int) + 1 := by rw [xad5 (by omega) (by omega), eo, e1]
    have hlp : p.toInt.toNat < 4 := by omega
    have hjp := xnat p (hp).1
    obtain ⟨g1p, g2p, g3p⟩ := hc _ hlp
    obtain ⟨q1, q2, q3⟩ := hx.2.2.1 _ hl16
    have q3 : xar h0 67 a.toInt.toNat = some (.int (oc a.toInt.toNat + Int32.ofNat k)) := by rw [q3]; exact congrArg (fun z => some (Value.int z)) (if_pos rfl)
    refine zy_n 2 (mr := zm_m191) rfl (show _ = some (239, [(0, .ref 55), (1, .int a), (2, .int b), (3, .int f), (4, .int p), (5, .int (Int32.ofNat k))], [.ref 55, .int (Int32.ofNat k)]) from rfl) ?_
    refine zk_get (mr := zm_m191) rfl rfl hHz (hHz.2.2 55 rfl) rfl (xfo_ref (k := 55) (f := 2) (a := 57) hHz rfl rfl rfl) ?_
    refine zy_n 1 (mr := zm_m191) rfl (show _ = some (244, [(0, .ref 55), (1, .int a), (2, .int b), (3, .int f), (4, .int p), (5, .int (Int32.ofNat k))], [.int p, .ref 57, .int (Int32.ofNat k)]) from rfl) ?_
    refine zk_ild (mr := zm_m191) rfl rfl hHz (hHz.2.2 57 rfl) rfl g2p hjp ?_
    refine zy_b (mr := zm_m191) rfl rfl (show _ = some (zm_ic .ge (Int32.ofNat k) (sz p.toInt.toNat) 397 248, []) from rfl) ?_
    refine zc_ge (fun e => absurd e (fun z => by have := Int32.le_iff_toInt_le.mp z; omega)) (fun _ => ?_)
    refine zy_n 1 (mr := zm_m191) rfl (show _ = some (249, [(0, .ref 55), (1, .int a), (2, .int b), (3, .int f), (4, .int p), (5, .int (Int32.ofNat k))], [.ref 55]) from rfl) ?_
    refine zk_get (mr := zm_m191) rfl rfl hHz (hHz.2.2 55 rfl) rfl (xfo_ref (k := 55) (f := 3) (a := 58) hHz rfl rfl rfl) ?_
    refine zy_n 5 (mr := zm_m191) rfl (show _ = some (260, [(0, .ref 55), (1, .int a), (2, .int b), (3, .int f), (4, .int p), (5, .int (Int32.ofNat k))], [.int ((60 * p) + (Int32.ofNat k)), .ref 58]) from rfl) ?_
    refine zk_lld (mr := zm_m191) rfl rfl hHz (hHz.2.2 58 rfl) rfl ((hc _ hlp).2.2 _ (by omega)) hix ?_
    refine zy_n 6 (mr := zm_m191) rfl (show _ = some (269, [(6, .int ((nm p.toInt.toNat k).toInt32)), (0, .ref 55), (1, .int a), (2, .int b), (3, .int f), (4, .int p), (5, .int (Int32.ofNat k))], [.ref 55, .int (10 * a)]) from rfl) ?_
    refine zk_get (mr := zm_m191) rfl rfl hHz (hHz.2.2 55 rfl) rfl (xfo_ref (k := 55) (f := 22) (a := 67) hHz rfl rfl rfl) ?_
    refine zy_n 1 (mr := zm_m191) rfl (show _ = some (273, [(6, .int ((nm p.toInt.toNat k).toInt32)), (0, .ref 55), (1, .int a), (2, .int b), (3, .int f), (4, .int p), (5, .int (Int32.ofNat k))], [.int a, .ref 67, .int (10 * a)]) from rfl) ?_
    refine zk_ild (mr := zm_m191) rfl rfl hHz (hHz.2.2 67 rfl) rfl q3 hja ?_
    refine zy_n 1 (mr := zm_m191) rfl (show _ = some (275, [(6, .int ((nm p.toInt.toNat k).toInt32)), (0, .ref 55), (1, .int a), (2, .int b), (3, .int f), (4, .int p), (5, .int (Int32.ofNat k))], [.int ((10 * a) + (oc a.toInt.toNat + Int32.ofNat k))]) from rfl) ?_
    refine zy_n 2 (mr := zm_m191) rfl (show _ = some (278, [(7, .int ((10 * a) + (oc a.toInt.toNat + Int32.ofNat k))), (6, .int ((nm p.toInt.toNat k).toInt32)), (0, .ref 55), (1, .int a), (2, .int b), (3, .int f), (4, .int p), (5, .int (Int32.ofNat k))], [.ref 55]) from rfl) ?_
    refine zk_get (mr := zm_m191) rfl rfl hHz (hHz.2.2 55 rfl) rfl (xfo_ref (k := 55) (f := 28) (a := 73) hHz rfl rfl rfl) ?_
    refine zy_n 2 (mr := zm_m191) rfl (show _ = some (284, [(7, .int ((10 * a) + (oc a.toInt.toNat + Int32.ofNat k))), (6, .int ((nm p.toInt.toNat k).toInt32)), (0, .ref 55), (1, .int a), (2, .int b), (3, .int f), (4, .int p), (5, .int (Int32.ofNat k))], [.ref 55, .int ((10 * a) + (oc a.toInt.toNat + Int32.ofNat k)), .ref 73]) from rfl) ?_
    refine zk_get (mr := zm_m191) rfl rfl hHz (hHz.2.2 55 rfl) rfl (xfo_ref (k := 55) (f := 21) (a := 66) hHz rfl rfl rfl) ?_
    refine zy_n 1 (mr := zm_m191) rfl (show _ = some (288, [(7, .int ((10 * a) + (oc a.toInt.toNat + Int32.ofNat k))), (6, .int ((nm p.toInt.toNat k).toInt32)), (0, .ref 55), (1, .int a), (2, .int b), (3, .int f), (4, .int p), (5, .int (Int32.ofNat k))], [.int a, .ref 66, .int ((10 * a) + (oc a.toInt.toNat + Int32.ofNat k)), .ref 73]) from rfl) ?_
    refine zk_ild (mr := zm_m191) rfl rfl hHz (hHz.2.2 66 rfl) rfl q2 hja ?_
    refine zk_ist (mr := zm_m191) rfl rfl hHz hXz (hHz.2.2 73 rfl) rfl rfl hj7 (by omega) List.mem_cons_self ⟨_, rfl, by show (0 : Int) ≤ _; omega, by show _ ≤ (5 : Int); omega⟩ ⟨by show (0 : Int) ≤ _; omega, by show _ ≤ (159 : Int); omega, Or.inl rfl⟩ ?_
    intro h1 hH1 hX1 hW1 hs1 hg1 hF1
    have hx := xHM_F hHz (hF1 [(73, 0)] rfl) rfl hx
    have hc := xRM_F hHz (hF1 [(73, 0)] rfl) rfl hc
    obtain ⟨g1p, g2p, g3p⟩ := hc _ hlp
    obtain ⟨q1, q2, q3⟩ := hx.2.2.1 _ hl16
    have q3 : xar h1 67 a.toInt.toNat = some (.int (oc a.toInt.toNat + Int32.ofNat k)) := by rw [q3]; exact congrArg (fun z => some (Value.int z)) (if_pos rfl)
    refine zy_n 1 (mr := zm_m191) rfl (show _ = some (291, [(7, .int ((10 * a) + (oc a.toInt.toNat + Int32.ofNat k))), (6, .int ((nm p.toInt.toNat k).toInt32)), (0, .ref 55), (1, .int a), (2, .int b), (3, .int f), (4, .int p), (5, .int (Int32.ofNat k))], [.ref 55]) from rfl) ?_
    refine zk_get (mr := zm_m191) rfl rfl hH1 (hH1.2.2 55 rfl) rfl (xfo_ref (k := 55) (f := 32) (a := 77) hH1 rfl rfl rfl) ?_
    refine zy_n 2 (mr := zm_m191) rfl (show _ = some (298, [(7, .int ((10 * a) + (oc a.toInt.toNat + Int32.ofNat k))), (6, .int ((nm p.toInt.toNat k).toInt32)), (0, .ref 55), (1, .int a), (2, .int b), (3, .int f), (4, .int p), (5, .int (Int32.ofNat k))], [.int ((nm p.toInt.toNat k).toInt32), .int ((10 * a) + (oc a.toInt.toNat + Int32.ofNat k)), .ref 77]) from rfl) ?_
    suffices kva : ∀ va : Int32, (0 ≤ va.toInt ∧ va.toInt ≤ 1) ∧ va &&& 1 = va → zm_Y og (d + 2) 191 306 [(7, .int ((10 * a) + (oc a.toInt.toNat + Int32.ofNat k))), (6, .int ((nm p.toInt.toNat k).toInt32)), (0, .ref 55), (1, .int a), (2, .int b), (3, .int f), (4, .int p), (5, .int (Int32.ofNat k))] [.int va, .int ((10 * a) + (oc a.toInt.toNat + Int32.ofNat k)), .ref 77] h1 Q by
      refine zy_b (mr := zm_m191) rfl rfl (show _ = some (zm_if .ge ((nm p.toInt.toNat k).toInt32) 305 301, [.int ((10 * a) + (oc a.toInt.toNat + Int32.ofNat k)), .ref 77]) from rfl) ?_
      refine zi_ge (fun c => ?_) (fun c => ?_)
      · refine zy_n 1 (mr := zm_m191) rfl (show _ = some (306, [(7, .int ((10 * a) + (oc a.toInt.toNat + Int32.ofNat k))), (6, .int ((nm p.toInt.toNat k).toInt32)), (0, .ref 55), (1, .int a), (2, .int b), (3, .int f), (4, .int p), (5, .int (Int32.ofNat k))], [.int 0, .int ((10 * a) + (oc a.toInt.toNat + Int32.ofNat k)), .ref 77]) from rfl) ?_
        exact kva _ ⟨⟨by decide, by decide⟩, by decide⟩
      · refine zy_n 2 (mr := zm_m191) rfl (show _ = some (306, [(7, .int ((10 * a) + (oc a.toInt.toNat + Int32.ofNat k))), (6, .int ((nm p.toInt.toNat k).toInt32)), (0, .ref 55), (1, .int a), (2, .int b), (3, .int f), (4, .int p), (5, .int (Int32.ofNat k))], [.int 1, .int ((10 * a) + (oc a.toInt.toNat + Int32.ofNat k)), .ref 77]) from rfl) ?_
        exact kva _ ⟨⟨by decide, by decide⟩, by decide⟩
    intro va hvva
    refine zk_zst (mr := zm_m191) rfl rfl hH1 hX1 (hH1.2.2 77 rfl) rfl rfl hj7 (by omega) hvva.2 List.mem_cons_self ⟨_, rfl, by show (0 : Int) ≤ _; omega, by show _ ≤ (1 : Int); omega⟩ ⟨by show (0 : Int) ≤ _; omega, by show _ ≤ (159 : Int); omega, Or.inl rfl⟩ ?_
    intro h2 hH2 hX2 hW2 hs2 hg2 hF2
    have hx := xHM_F hH1 (hF2 [(77, 0)] rfl) rfl hx
    have hc := xRM_F hH1 (hF2 [(77, 0)] rfl) rfl hc
    obtain ⟨g1p, g2p, g3p⟩ := hc _ hlp
    obtain ⟨q1, q2, q3⟩ := hx.2.2.1 _ hl16
    have q3 : xar h2 67 a.toInt.toNat = some (.int (oc a.toInt.toNat + Int32.ofNat k)) := by rw [q3]; exact congrArg (fun z => some (Value.int z)) (if_pos rfl)
    refine zy_n 1 (mr := zm_m191) rfl (show _ = some (309, [(7, .int ((10 * a) + (oc a.toInt.toNat + Int32.ofNat k))), (6, .int ((nm p.toInt.toNat k).toInt32)), (0, .ref 55), (1, .int a), (2, .int b), (3, .int f), (4, .int p), (5, .int (Int32.ofNat k))], [.int ((nm p.toInt.toNat k).toInt32)]) from rfl) ?_
    suffices kvb : ∀ vb : Int32, True → zm_Y og (d + 2) 191 320 [(7, .int ((10 * a) + (oc a.toInt.toNat + Int32.ofNat k))), (6, .int ((nm p.toInt.toNat k).toInt32)), (0, .ref 55), (1, .int a), (2, .int b), (3, .int f), (4, .int p), (5, .int (Int32.ofNat k))] [.int vb] h2 Q by
      refine zy_b (mr := zm_m191) rfl rfl (show _ = some (zm_if .ge ((nm p.toInt.toNat k).toInt32) 318 312, []) from rfl) ?_
      refine zi_ge (fun c => ?_) (fun c => ?_)
      · refine zy_n 1 (mr := zm_m191) rfl (show _ = some (320, [(7, .int ((10 * a) + (oc a.toInt.toNat + Int32.ofNat k))), (6, .int ((nm p.toInt.toNat k).toInt32)), (0, .ref 55), (1, .int a), (2, .int b), (3, .int f), (4, .int p), (5, .int (Int32.ofNat k))], [.int ((nm p.toInt.toNat k).toInt32)]) from rfl) ?_
        exact kvb _ trivial
      · refine zy_n 3 (mr := zm_m191) rfl (show _ = some (320, [(7, .int ((10 * a) + (oc a.toInt.toNat + Int32.ofNat k))), (6, .int ((nm p.toInt.toNat k).toInt32)), (0, .ref 55), (1, .int a), (2, .int b), (3, .int f), (4, .int p), (5, .int (Int32.ofNat k))], [.int (-((nm p.toInt.toNat k).toInt32))]) from rfl) ?_
        exact kvb _ trivial
    intro vb hvvb
    refine zy_n 2 (mr := zm_m191) rfl (show _ = some (323, [(8, .int vb), (7, .int ((10 * a) + (oc a.toInt.toNat + Int32.ofNat k))), (6, .int ((nm p.toInt.toNat k).toInt32)), (0, .ref 55), (1, .int a), (2, .int b), (3, .int f), (4, .int p), (5, .int (Int32.ofNat k))], [.ref 55]) from rfl) ?_
    refine zk_get (mr := zm_m191) rfl rfl hH2 (hH2.2.2 55 rfl) rfl (xfo_ref (k := 55) (f := 33) (a := 78) hH2 rfl rfl rfl) ?_
    refine zy_n 3 (mr := zm_m191) rfl (show _ = some (332, [(8, .int vb), (7, .int ((10 * a) + (oc a.toInt.toNat + Int32.ofNat k))), (6, .int ((nm p.toInt.toNat k).toInt32)), (0, .ref 55), (1, .int a), (2, .int b), (3, .int f), (4, .int p), (5, .int (Int32.ofNat k))], [.int 100, .int vb, .int ((10 * a) + (oc a.toInt.toNat + Int32.ofNat k)), .ref 78]) from rfl) ?_
    suffices kvc : ∀ vc : Int32, (0 ≤ vc.toInt ∧ vc.toInt ≤ 1) ∧ vc &&& 1 = vc → zm_Y og (d + 2) 191 340 [(8, .int vb), (7, .int ((10 * a) + (oc a.toInt.toNat + Int32.ofNat k))), (6, .int ((nm p.toInt.toNat k).toInt32)), (0, .ref 55), (1, .int a), (2, .int b), (3, .int f), (4, .int p), (5, .int (Int32.ofNat k))] [.int vc, .int ((10 * a) + (oc a.toInt.toNat + Int32.ofNat k)), .ref 78] h2 Q by
      refine zy_b (mr := zm_m191) rfl rfl (show _ = some (zm_ic .le vb 100 339 335, [.int ((10 * a) + (oc a.toInt.toNat + Int32.ofNat k)), .ref 78]) from rfl) ?_
      refine zc_le (fun c => ?_) (fun c => ?_)
      · refine zy_n 1 (mr := zm_m191) rfl (show _ = some (340, [(8, .int vb), (7, .int ((10 * a) + (oc a.toInt.toNat + Int32.ofNat k))), (6, .int ((nm p.toInt.toNat k).toInt32)), (0, .ref 55), (1, .int a), (2, .int b), (3, .int f), (4, .int p), (5, .int (Int32.ofNat k))], [.int 0, .int ((10 * a) + (oc a.toInt.toNat + Int32.ofNat k)), .ref 78]) from rfl) ?_
        exact kvc _ ⟨⟨by decide, by decide⟩, by decide⟩
      · refine zy_n 2 (mr := zm_m191) rfl (show _ = some (340, [(8, .int vb), (7, .int ((10 * a) + (oc a.toInt.toNat + Int32.ofNat k))), (6, .int ((nm p.toInt.toNat k).toInt32)), (0, .ref 55), (1, .int a), (2, .int b), (3, .int f), (4, .int p), (5, .int (Int32.ofNat k))], [.int 1, .int ((10 * a) + (oc a.toInt.toNat + Int32.ofNat k)), .ref 78]) from rfl) ?_
        exact kvc _ ⟨⟨by decide, by decide⟩, by decide⟩
    intro vc hvvc
    refine zk_zst (mr := zm_m191) rfl rfl hH2 hX2 (hH2.2.2 78 rfl) rfl rfl hj7 (by omega) hvvc.2 List.mem_cons_self ⟨_, rfl, by show (0 : Int) ≤ _; omega, by show _ ≤ (1 : Int); omega⟩ ⟨by show (0 : Int) ≤ _; omega, by show _ ≤ (159 : Int); omega, Or.inl rfl⟩ ?_
    intro h3 hH3 hX3 hW3 hs3 hg3 hF3
    have hx := xHM_F hH2 (hF3 [(78, 0)] rfl) rfl hx
    have hc := xRM_F hH2 (hF3 [(78, 0)] rfl) rfl hc
    obtain ⟨g1p, g2p, g3p⟩ := hc _ hlp
    obtain ⟨q1, q2, q3⟩ := hx.2.2.1 _ hl16
    have q3 : xar h3 67 a.toInt.toNat = some (.int (oc a.toInt.toNat + Int32.ofNat k)) := by rw [q3]; exact congrArg (fun z => some (Value.int z)) (if_pos rfl)
    refine zy_n 1 (mr := zm_m191) rfl (show _ = some (342, [(8, .int vb), (7, .int ((10 * a) + (oc a.toInt.toNat + Int32.ofNat k))), (6, .int ((nm p.toInt.toNat k).toInt32)), (0, .ref 55), (1, .int a), (2, .int b), (3, .int f), (4, .int p), (5, .int (Int32.ofNat k))], [.ref 55]) from rfl) ?_
    refine zk_get (mr := zm_m191) rfl rfl hH3 (hH3.2.2 55 rfl) rfl (xfo_ref (k := 55) (f := 29) (a := 74) hH3 rfl rfl rfl) ?_
    refine zy_n 3 (mr := zm_m191) rfl (show _ = some (351, [(8, .int vb), (7, .int ((10 * a) + (oc a.toInt.toNat + Int32.ofNat k))), (6, .int ((nm p.toInt.toNat k).toInt32)), (0, .ref 55), (1, .int a), (2, .int b), (3, .int f), (4, .int p), (5, .int (Int32.ofNat k))], [.int 100, .int vb, .int ((10 * a) + (oc a.toInt.toNat + Int32.ofNat k)), .ref 74]) from rfl) ?_
    suffices kvd : ∀ vd : Int32, True → zm_Y og (d + 2) 191 364 [(8, .int vb), (7, .int ((10 * a) + (oc a.toInt.toNat + Int32.ofNat k))), (6, .int ((nm p.toInt.toNat k).toInt32)), (0, .ref 55), (1, .int a), (2, .int b), (3, .int f), (4, .int p), (5, .int (Int32.ofNat k))] [.int vd, .int ((10 * a) + (oc a.toInt.toNat + Int32.ofNat k)), .ref 74] h3 Q by
      refine zy_b (mr := zm_m191) rfl rfl (show _ = some (zm_ic .le vb 100 362 354, [.int ((10 * a) + (oc a.toInt.toNat + Int32.ofNat k)), .ref 74]) from rfl) ?_
      refine zc_le (fun c => ?_) (fun c => ?_)
      · refine zy_n 1 (mr := zm_m191) rfl (show _ = some (364, [(8, .int vb), (7, .int ((10 * a) + (oc a.toInt.toNat + Int32.ofNat k))), (6, .int ((nm p.toInt.toNat k).toInt32)), (0, .ref 55), (1, .int a), (2, .int b), (3, .int f), (4, .int p), (5, .int (Int32.ofNat k))], [.int vb, .int ((10 * a) + (oc a.toInt.toNat + Int32.ofNat k)), .ref 74]) from rfl) ?_
        exact kvd _ trivial
      · refine zy_n 4 (mr := zm_m191) rfl (show _ = some (364, [(8, .int vb), (7, .int ((10 * a) + (oc a.toInt.toNat + Int32.ofNat k))), (6, .int ((nm p.toInt.toNat k).toInt32)), (0, .ref 55), (1, .int a), (2, .int b), (3, .int f), (4, .int p), (5, .int (Int32.ofNat k))], [.int (vb - 100), .int ((10 * a) + (oc a.toInt.toNat + Int32.ofNat k)), .ref 74]) from rfl) ?_
        exact kvd _ trivial
    intro vd hvvd
    refine zk_ist (mr := zm_m191) rfl rfl hH3 hX3 (hH3.2.2 74 rfl) rfl rfl hj7 (by omega) List.mem_cons_self ⟨_, rfl, (xb_rng _).1, (xb_rng _).2⟩ ⟨by show (0 : Int) ≤ _; omega, by show _ ≤ (159 : Int); omega, Or.inl rfl⟩ ?_
    intro h4 hH4 hX4 hW4 hs4 hg4 hF4
    have hx := xHM_F hH3 (hF4 [(74, 0)] rfl) rfl hx
    have hc := xRM_F hH3 (hF4 [(74, 0)] rfl) rfl hc
    obtain ⟨g1p, g2p, g3p⟩ := hc _ hlp
    obtain ⟨q1, q2, q3⟩ := hx.2.2.1 _ hl16
    have q3 : xar h4 67 a.toInt.toNat = some (.int (oc a.toInt.toNat + Int32.ofNat k)) := by rw [q3]; exact congrArg (fun z => some (Value.int z)) (if_pos rfl)
    refine zy_n 1 (mr := zm_m191) rfl (show _ = some (366, [(8, .int vb), (7, .int ((10 * a) + (oc a.toInt.toNat + Int32.ofNat k))), (6, .int ((nm p.toInt.toNat k).toInt32)), (0, .ref 55), (1, .int a), (2, .int b), (3, .int f), (4, .int p), (5, .int (Int32.ofNat k))], [.ref 55]) from rfl) ?_
    refine zk_get (mr := zm_m191) rfl rfl hH4 (hH4.2.2 55 rfl) rfl (xfo_ref (k := 55) (f := 30) (a := 75) hH4 rfl rfl rfl) ?_
    refine zy_n 2 (mr := zm_m191) rfl (show _ = some (372, [(8, .int vb), (7, .int ((10 * a) + (oc a.toInt.toNat + Int32.ofNat k))), (6, .int ((nm p.toInt.toNat k).toInt32)), (0, .ref 55), (1, .int a), (2, .int b), (3, .int f), (4, .int p), (5, .int (Int32.ofNat k))], [.int 0, .int ((10 * a) + (oc a.toInt.toNat + Int32.ofNat k)), .ref 75]) from rfl) ?_
    refine zk_ist (mr := zm_m191) rfl rfl hH4 hX4 (hH4.2.2 75 rfl) rfl rfl hj7 (by omega) List.mem_cons_self ⟨_, rfl, by decide, by decide⟩ ⟨by show (0 : Int) ≤ _; omega, by show _ ≤ (159 : Int); omega, Or.inl rfl⟩ ?_
    intro h5 hH5 hX5 hW5 hs5 hg5 hF5
    have hx := xHM_F hH4 (hF5 [(75, 0)] rfl) rfl hx
    have hc := xRM_F hH4 (hF5 [(75, 0)] rfl) rfl hc
    obtain ⟨g1p, g2p, g3p⟩ := hc _ hlp
    obtain ⟨q1, q2, q3⟩ := hx.2.2.1 _ hl16
    have q3 : xar h5 67 a.toInt.toNat = some (.int (oc a.toInt.toNat + Int32.ofNat k)) := by rw [q3]; exact congrArg (fun z => some (Value.int z)) (if_pos rfl)
    refine zy_n 1 (mr := zm_m191) rfl (show _ = some (374, [(8, .int vb), (7, .int ((10 * a) + (oc a.toInt.toNat + Int32.ofNat k))), (6, .int ((nm p.toInt.toNat k).toInt32)), (0, .ref 55), (1, .int a), (2, .int b), (3, .int f), (4, .int p), (5, .int (Int32.ofNat k))], [.ref 55]) from rfl) ?_
    refine zk_get (mr := zm_m191) rfl rfl hH5 (hH5.2.2 55 rfl) rfl (xfo_ref (k := 55) (f := 31) (a := 76) hH5 rfl rfl rfl) ?_
    refine zy_n 2 (mr := zm_m191) rfl (show _ = some (380, [(8, .int vb), (7, .int ((10 * a) + (oc a.toInt.toNat + Int32.ofNat k))), (6, .int ((nm p.toInt.toNat k).toInt32)), (0, .ref 55), (1, .int a), (2, .int b), (3, .int f), (4, .int p), (5, .int (Int32.ofNat k))], [.int (-1), .int ((10 * a) + (oc a.toInt.toNat + Int32.ofNat k)), .ref 76]) from rfl) ?_
    refine zk_ist (mr := zm_m191) rfl rfl hH5 hX5 (hH5.2.2 76 rfl) rfl rfl hj7 (by omega) List.mem_cons_self ⟨_, rfl, by decide, by decide⟩ ⟨by show (0 : Int) ≤ _; omega, by show _ ≤ (159 : Int); omega, Or.inl rfl⟩ ?_
    intro h6 hH6 hX6 hW6 hs6 hg6 hF6
    have hx := xHM_F hH5 (hF6 [(76, 0)] rfl) rfl hx
    have hc := xRM_F hH5 (hF6 [(76, 0)] rfl) rfl hc
    obtain ⟨g1p, g2p, g3p⟩ := hc _ hlp
    obtain ⟨q1, q2, q3⟩ := hx.2.2.1 _ hl16
    have q3 : xar h6 67 a.toInt.toNat = some (.int (oc a.toInt.toNat + Int32.ofNat k)) := by rw [q3]; exact congrArg (fun z => some (Value.int z)) (if_pos rfl)
    refine zy_n 1 (mr := zm_m191) rfl (show _ = some (382, [(8, .int vb), (7, .int ((10 * a) + (oc a.toInt.toNat + Int32.ofNat k))), (6, .int ((nm p.toInt.toNat k).toInt32)), (0, .ref 55), (1, .int a), (2, .int b), (3, .int f), (4, .int p), (5, .int (Int32.ofNat k))], [.ref 55]) from rfl) ?_
    refine zk_get (mr := zm_m191) rfl rfl hH6 (hH6.2.2 55 rfl) rfl (xfo_ref (k := 55) (f := 22) (a := 67) hH6 rfl rfl rfl) ?_
    refine zy_n 2 (mr := zm_m191) rfl (show _ = some (387, [(8, .int vb), (7, .int ((10 * a) + (oc a.toInt.toNat + Int32.ofNat k))), (6, .int ((nm p.toInt.toNat k).toInt32)), (0, .ref 55), (1, .int a), (2, .int b), (3, .int f), (4, .int p), (5, .int (Int32.ofNat k))], [.int a, .ref 67, .int a, .ref 67]) from rfl) ?_
    refine zk_ild (mr := zm_m191) rfl rfl hH6 (hH6.2.2 67 rfl) rfl q3 hja ?_
    refine zy_n 2 (mr := zm_m191) rfl (show _ = some (390, [(8, .int vb), (7, .int ((10 * a) + (oc a.toInt.toNat + Int32.ofNat k))), (6, .int ((nm p.toInt.toNat k).toInt32)), (0, .ref 55), (1, .int a), (2, .int b), (3, .int f), (4, .int p), (5, .int (Int32.ofNat k))], [.int ((oc a.toInt.toNat + Int32.ofNat k) + 1), .int a, .ref 67]) from rfl) ?_
    refine zk_ist (mr := zm_m191) rfl rfl hH6 hX6 (hH6.2.2 67 rfl) rfl rfl hja (by omega) List.mem_cons_self ⟨_, rfl, by show (0 : Int) ≤ _; omega, by show _ ≤ (10 : Int); omega⟩ ⟨by show (0 : Int) ≤ _; omega, by show _ ≤ (15 : Int); omega, Or.inl rfl⟩ ?_
    intro h7 hH7 hX7 hW7 hs7 hg7 hF7
    have hx := xHM_oc hx hg7 hs7
    have hc := xRM_F hH6 (hF7 [(67, 0)] rfl) rfl hc
    obtain ⟨g1p, g2p, g3p⟩ := hc _ hlp
    obtain ⟨q1, q2, q3⟩ := hx.2.2.1 _ hl16
    have q3 : xar h7 67 a.toInt.toNat = some (.int ((oc a.toInt.toNat + Int32.ofNat k) + 1)) := by rw [q3]; exact congrArg (fun z => some (Value.int z)) (if_pos rfl)
    have eh : oc a.toInt.toNat + Int32.ofNat k + 1 = oc a.toInt.toNat + Int32.ofNat (k + 1) := by rw [← xofs (by omega), Int32.add_assoc]
    rw [xup2, eh] at hx
    have ih := zy_ma5 (d := d) ha ko hm r0 r5 o0 h10 kk q (k + 1) h7 (by omega) hH7 hX7 hx hc (by omega) (xF_trans hf ((xF_trans (hF1 _ rfl) (xF_trans (hF2 _ rfl) (xF_trans (hF3 _ rfl) (xF_trans (hF4 _ rfl) (xF_trans (hF5 _ rfl) (xF_trans (hF6 _ rfl) (hF7 _ rfl)))))))))
    refine zy_n 2 (mr := zm_m191) rfl (show _ = some (236, [(5, .int ((Int32.ofNat k) + 1)), (8, .int vb), (7, .int ((10 * a) + (oc a.toInt.toNat + Int32.ofNat k))), (6, .int ((nm p.toInt.toNat k).toInt32)), (0, .ref 55), (1, .int a), (2, .int b), (3, .int f), (4, .int p)], []) from rfl) ?_
    rw [xofs (by omega)]
    exact zy_sub [(0, .ref 55), (1, .int a), (2, .int b), (3, .int f), (4, .int p), (5, .int (Int32.ofNat (k + 1)))] (by simp) (fun q hq => by simp only [List.mem_cons, List.not_mem_nil, or_false] at hq; rcases hq with rfl | rfl | rfl | rfl | rfl | rfl <;> rfl) ih
end XR5
