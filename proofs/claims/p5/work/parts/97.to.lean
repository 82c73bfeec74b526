/-! ROOMS and OPENINGS (made by a program) -/
section XR5
set_option maxRecDepth 100000
variable {og : Nat → Option zm_C} {τ τ' : List Nat} {h h' : zm_H} {ms : List (Nat × Nat)} {ad rp : Nat → Nat} {n : Nat} {dn rc oc : Nat → Int32} {st rf : Nat → Int32} {nr y L : Int32} {wk : Nat → Int32} {wd sz : Nat → Int32} {nm : Nat → Nat → Int64}
theorem xup0 {f : Nat → Int32} {i : Nat} : upd f i (f i + Int32.ofNat 0) = f := by
  funext j
  show (if j = i then f i + 0 else f j) = f j
  by_cases e : j = i
  · subst e
    rw [if_pos rfl, Int32.add_zero]
  · rw [if_neg e]
theorem yo_x_bad {d m : Nat} {a b f p : Int32} (hH : xHI xKT xSG τ h) (hX : xX τ h) (hx : xHX ad τ h n dn rc oc) (hc : xRXa rp τ h wd sz nm) (hb : ¬ (xupb n dn a ∧ (0 ≤ b.toInt ∧ b.toInt ≤ 3) ∧ (0 ≤ f.toInt ∧ f.toInt ≤ 5) ∧ 0 ≤ p.toInt ∧ p.toInt ≤ 3)) : zm_Y og (d + 3) 16 0 [(0, .ref 0), (1, .int a), (2, .int b), (3, .int f), (4, .int p)] [] h (xCO τ h 300 [(36, 9), (207, 5), (207, 7), (208, 0), (209, 0)] (fun r => r = some (.int (-2))) (fun τ1 h1 => xH5 τ1 h1 n dn rc oc ∧ xRX τ1 h1 wd sz nm)) := by
  obtain ⟨st, rf, nr, y, L, wk, hcx⟩ := xHX_full hH hx
  by_cases c0 : xupb n dn a
  rotate_left
  · refine zy_n 2 (mr := zm_m16) rfl (show _ = some (2, [(0, .ref 0), (1, .int a), (2, .int b), (3, .int f), (4, .int p)], [.int a, .ref 0]) from rfl) ?_
    refine zy_c (mr := zm_m16) (mc := zm_m17) rfl rfl (zk_cx (A := [.int a]) hH rfl rfl) rfl rfl ?_
    refine (zh_stE hH hcx).mono (fun q h' hq => ?_)
    obtain ⟨hez, rfl⟩ := hq
    rw [hez]
    rw [if_neg c0]
    refine zy_b (mr := zm_m16) rfl rfl (show _ = some (34, []) from rfl) ?_
    refine zy_n 1 (mr := zm_m16) rfl (show _ = some (36, [(0, .ref 0), (1, .int a), (2, .int b), (3, .int f), (4, .int p)], [.int (-2)]) from rfl) ?_
    refine zy_r (mr := zm_m16) rfl rfl (show _ = some (some (.int (-2))) from rfl) ⟨rfl, τ, hH, hX, Nat.le_add_right _ _, xF_refl _ _ _, ⟨⟨_, hx⟩, ⟨rp, hc⟩⟩⟩
  by_cases c1 : 0 ≤ b.toInt ∧ b.toInt ≤ 3
  rotate_left
  · refine zy_n 2 (mr := zm_m16) rfl (show _ = some (2, [(0, .ref 0), (1, .int a), (2, .int b), (3, .int f), (4, .int p)], [.int a, .ref 0]) from rfl) ?_
    refine zy_c (mr := zm_m16) (mc := zm_m17) rfl rfl (zk_cx (A := [.int a]) hH rfl rfl) rfl rfl ?_
    refine (zh_stE hH hcx).mono (fun q h' hq => ?_)
    obtain ⟨hez, rfl⟩ := hq
    rw [hez]
    rw [if_pos c0]
    refine zy_b (mr := zm_m16) rfl rfl (show _ = some (8, []) from rfl) ?_
    refine zy_n 3 (mr := zm_m16) rfl (show _ = some (11, [(0, .ref 0), (1, .int a), (2, .int b), (3, .int f), (4, .int p)], [.int 3, .int 0, .int b]) from rfl) ?_
    refine zy_c (mr := zm_m16) (mc := zm_m10) rfl rfl rfl rfl rfl ?_
    refine zh_withinE.mono (fun q h' hq => ?_)
    obtain ⟨hez, rfl⟩ := hq
    rw [hez]
    rw [if_neg (show ¬ ((0 : Int32).toInt ≤ b.toInt ∧ b.toInt ≤ (3 : Int32).toInt) from by rw [show (0 : Int32).toInt = 0 from rfl, show (3 : Int32).toInt = 3 from rfl]; exact c1)]
    refine zy_b (mr := zm_m16) rfl rfl (show _ = some (34, []) from rfl) ?_
    refine zy_n 1 (mr := zm_m16) rfl (show _ = some (36, [(0, .ref 0), (1, .int a), (2, .int b), (3, .int f), (4, .int p)], [.int (-2)]) from rfl) ?_
    refine zy_r (mr := zm_m16) rfl rfl (show _ = some (some (.int (-2))) from rfl) ⟨rfl, τ, hH, hX, Nat.le_add_right _ _, xF_refl _ _ _, ⟨⟨_, hx⟩, ⟨rp, hc⟩⟩⟩
  by_cases c2 : 0 ≤ f.toInt ∧ f.toInt ≤ 5
  rotate_left
  · refine zy_n 2 (mr := zm_m16) rfl (show _ = some (2, [(0, .ref 0), (1, .int a), (2, .int b), (3, .int f), (4, .int p)], [.int a, .ref 0]) from rfl) ?_
    refine zy_c (mr := zm_m16) (mc := zm_m17) rfl rfl (zk_cx (A := [.int a]) hH rfl rfl) rfl rfl ?_
    refine (zh_stE hH hcx).mono (fun q h' hq => ?_)
    obtain ⟨hez, rfl⟩ := hq
    rw [hez]
    rw [if_pos c0]
    refine zy_b (mr := zm_m16) rfl rfl (show _ = some (8, []) from rfl) ?_
    refine zy_n 3 (mr := zm_m16) rfl (show _ = some (11, [(0, .ref 0), (1, .int a), (2, .int b), (3, .int f), (4, .int p)], [.int 3, .int 0, .int b]) from rfl) ?_
    refine zy_c (mr := zm_m16) (mc := zm_m10) rfl rfl rfl rfl rfl ?_
    refine zh_withinE.mono (fun q h' hq => ?_)
    obtain ⟨hez, rfl⟩ := hq
    rw [hez]
    rw [if_pos (show (0 : Int32).toInt ≤ b.toInt ∧ b.toInt ≤ (3 : Int32).toInt from by rw [show (0 : Int32).toInt = 0 from rfl, show (3 : Int32).toInt = 3 from rfl]; exact c1)]
    refine zy_b (mr := zm_m16) rfl rfl (show _ = some (17, []) from rfl) ?_
    refine zy_n 3 (mr := zm_m16) rfl (show _ = some (20, [(0, .ref 0), (1, .int a), (2, .int b), (3, .int f), (4, .int p)], [.int 5, .int 0, .int f]) from rfl) ?_
    refine zy_c (mr := zm_m16) (mc := zm_m10) rfl rfl rfl rfl rfl ?_
    refine zh_withinE.mono (fun q h' hq => ?_)
    obtain ⟨hez, rfl⟩ := hq
    rw [hez]
    rw [if_neg (show ¬ ((0 : Int32).toInt ≤ f.toInt ∧ f.toInt ≤ (5 : Int32).toInt) from by rw [show (0 : Int32).toInt = 0 from rfl, show (5 : Int32).toInt = 5 from rfl]; exact c2)]
    refine zy_b (mr := zm_m16) rfl rfl (show _ = some (34, []) from rfl) ?_
    refine zy_n 1 (mr := zm_m16) rfl (show _ = some (36, [(0, .ref 0), (1, .int a), (2, .int b), (3, .int f), (4, .int p)], [.int (-2)]) from rfl) ?_
    refine zy_r (mr := zm_m16) rfl rfl (show _ = some (some (.int (-2))) from rfl) ⟨rfl, τ, hH, hX, Nat.le_add_right _ _, xF_refl _ _ _, ⟨⟨_, hx⟩, ⟨rp, hc⟩⟩⟩
  by_cases c3 : 0 ≤ p.toInt ∧ p.toInt ≤ 3
  rotate_left
  · refine zy_n 2 (mr := zm_m16) rfl (show _ = some (2, [(0, .ref 0), (1, .int a), (2, .int b), (3, .int f), (4, .int p)], [.int a, .ref 0]) from rfl) ?_
    refine zy_c (mr := zm_m16) (mc := zm_m17) rfl rfl (zk_cx (A := [.int a]) hH rfl rfl) rfl rfl ?_
    refine (zh_stE hH hcx).mono (fun q h' hq => ?_)
    obtain ⟨hez, rfl⟩ := hq
    rw [hez]
    rw [if_pos c0]
    refine zy_b (mr := zm_m16) rfl rfl (show _ = some (8, []) from rfl) ?_
    refine zy_n 3 (mr := zm_m16) rfl (show _ = some (11, [(0, .ref 0), (1, .int a), (2, .int b), (3, .int f), (4, .int p)], [.int 3, .int 0, .int b]) from rfl) ?_
    refine zy_c (mr := zm_m16) (mc := zm_m10) rfl rfl rfl rfl rfl ?_
    refine zh_withinE.mono (fun q h' hq => ?_)
    obtain ⟨hez, rfl⟩ := hq
    rw [hez]
    rw [if_pos (show (0 : Int32).toInt ≤ b.toInt ∧ b.toInt ≤ (3 : Int32).toInt from by rw [show (0 : Int32).toInt = 0 from rfl, show (3 : Int32).toInt = 3 from rfl]; exact c1)]
    refine zy_b (mr := zm_m16) rfl rfl (show _ = some (17, []) from rfl) ?_
    refine zy_n 3 (mr := zm_m16) rfl (show _ = some (20, [(0, .ref 0), (1, .int a), (2, .int b), (3, .int f), (4, .int p)], [.int 5, .int 0, .int f]) from rfl) ?_
    refine zy_c (mr := zm_m16) (mc := zm_m10) rfl rfl rfl rfl rfl ?_
    refine zh_withinE.mono (fun q h' hq => ?_)
    obtain ⟨hez, rfl⟩ := hq
    rw [hez]
    rw [if_pos (show (0 : Int32).toInt ≤ f.toInt ∧ f.toInt ≤ (5 : Int32).toInt from by rw [show (0 : Int32).toInt = 0 from rfl, show (5 : Int32).toInt = 5 from rfl]; exact c2)]
    refine zy_b (mr := zm_m16) rfl rfl (show _ = some (26, []) from rfl) ?_
    refine zy_n 1 (mr := zm_m16) rfl (show _ = some (28, [(0, .ref 0), (1, .int a), (2, .int b), (3, .int f), (4, .int p)], [.int p]) from rfl) ?_
    refine zy_c (mr := zm_m16) (mc := zm_m19) rfl rfl rfl rfl rfl ?_
    refine zh_ipE.mono (fun q h' hq => ?_)
    obtain ⟨hez, rfl⟩ := hq
    rw [hez]
    rw [if_neg (show ¬ ((0 : Int32).toInt ≤ p.toInt ∧ p.toInt ≤ (3 : Int32).toInt) from by rw [show (0 : Int32).toInt = 0 from rfl, show (3 : Int32).toInt = 3 from rfl]; exact c3)]
    refine zy_b (mr := zm_m16) rfl rfl (show _ = some (34, []) from rfl) ?_
    refine zy_n 1 (mr := zm_m16) rfl (show _ = some (36, [(0, .ref 0), (1, .int a), (2, .int b), (3, .int f), (4, .int p)], [.int (-2)]) from rfl) ?_
    refine zy_r (mr := zm_m16) rfl rfl (show _ = some (some (.int (-2))) from rfl) ⟨rfl, τ, hH, hX, Nat.le_add_right _ _, xF_refl _ _ _, ⟨⟨_, hx⟩, ⟨rp, hc⟩⟩⟩
  exact absurd ⟨c0, c1, c2, c3⟩ hb
theorem yo_x_no {d m : Nat} {a b f p : Int32} (hH : xHI xKT xSG τ h) (hX : xX τ h) (hx : xHX ad τ h n dn rc oc) (hc : xRXa rp τ h wd sz nm) (ok : xupb n dn a ∧ (0 ≤ b.toInt ∧ b.toInt ≤ 3) ∧ (0 ≤ f.toInt ∧ f.toInt ≤ 5) ∧ 0 ≤ p.toInt ∧ p.toInt ≤ 3) (hn : wd p.toInt.toNat = -1) : zm_Y og (d + 3) 16 0 [(0, .ref 0), (1, .int a), (2, .int b), (3, .int f), (4, .int p)] [] h (xCO τ h 300 [(36, 9), (207, 5), (207, 7), (208, 0), (209, 0)] (fun r => r = some (.int (-5))) (fun τ1 h1 => xH5 τ1 h1 n dn rc oc ∧ xRX τ1 h1 wd sz nm)) := by
  obtain ⟨st, rf, nr, y, L, wk, hcx⟩ := xHX_full hH hx
  have hp := ok.2.2.2
  have hlp : p.toInt.toNat < 4 := by omega
  have hjp := xnat p (hp).1
  obtain ⟨g1p, g2p, g3p, g4p, g5p⟩ := hc.1 _ hlp
  refine zy_n 2 (mr := zm_m16) rfl (show _ = some (2, [(0, .ref 0), (1, .int a), (2, .int b), (3, .int f), (4, .int p)], [.int a, .ref 0]) from rfl) ?_
  refine zy_c (mr := zm_m16) (mc := zm_m17) rfl rfl (zk_cx (A := [.int a]) hH rfl rfl) rfl rfl ?_
  refine (zh_stE hH hcx).mono (fun q h' hq => ?_)
  obtain ⟨hez, rfl⟩ := hq
  rw [hez]
  rw [if_pos ok.1]
  refine zy_b (mr := zm_m16) rfl rfl (show _ = some (8, []) from rfl) ?_
  refine zy_n 3 (mr := zm_m16) rfl (show _ = some (11, [(0, .ref 0), (1, .int a), (2, .int b), (3, .int f), (4, .int p)], [.int 3, .int 0, .int b]) from rfl) ?_
  refine zy_c (mr := zm_m16) (mc := zm_m10) rfl rfl rfl rfl rfl ?_
  refine zh_withinE.mono (fun q h' hq => ?_)
  obtain ⟨hez, rfl⟩ := hq
  rw [hez]
  rw [if_pos (show (0 : Int32).toInt ≤ b.toInt ∧ b.toInt ≤ (3 : Int32).toInt from by rw [show (0 : Int32).toInt = 0 from rfl, show (3 : Int32).toInt = 3 from rfl]; exact ok.2.1)]
  refine zy_b (mr := zm_m16) rfl rfl (show _ = some (17, []) from rfl) ?_
  refine zy_n 3 (mr := zm_m16) rfl (show _ = some (20, [(0, .ref 0), (1, .int a), (2, .int b), (3, .int f), (4, .int p)], [.int 5, .int 0, .int f]) from rfl) ?_
  refine zy_c (mr := zm_m16) (mc := zm_m10) rfl rfl rfl rfl rfl ?_
  refine zh_withinE.mono (fun q h' hq => ?_)
  obtain ⟨hez, rfl⟩ := hq
  rw [hez]
  rw [if_pos (show (0 : Int32).toInt ≤ f.toInt ∧ f.toInt ≤ (5 : Int32).toInt from by rw [show (0 : Int32).toInt = 0 from rfl, show (5 : Int32).toInt = 5 from rfl]; exact ok.2.2.1)]
  refine zy_b (mr := zm_m16) rfl rfl (show _ = some (26, []) from rfl) ?_
  refine zy_n 1 (mr := zm_m16) rfl (show _ = some (28, [(0, .ref 0), (1, .int a), (2, .int b), (3, .int f), (4, .int p)], [.int p]) from rfl) ?_
  refine zy_c (mr := zm_m16) (mc := zm_m19) rfl rfl rfl rfl rfl ?_
  refine zh_ipE.mono (fun q h' hq => ?_)
  obtain ⟨hez, rfl⟩ := hq
  rw [hez]
  rw [if_pos (show (0 : Int32).toInt ≤ p.toInt ∧ p.toInt ≤ (3 : Int32).toInt from by rw [show (0 : Int32).toInt = 0 from rfl, show (3 : Int32).toInt = 3 from rfl]; exact ok.2.2.2)]
  refine zy_b (mr := zm_m16) rfl rfl (show _ = some (37, []) from rfl) ?_
  refine zy_n 1 (mr := zm_m16) rfl (show _ = some (38, [(0, .ref 0), (1, .int a), (2, .int b), (3, .int f), (4, .int p)], [.ref 0]) from rfl) ?_
  refine zk_get (mr := zm_m16) rfl rfl hH (hH.2.2 0 rfl) rfl (xfo_ref (k := 0) (f := 12) (a := 45) hH rfl rfl rfl) ?_
  refine zy_n 1 (mr := zm_m16) rfl (show _ = some (43, [(0, .ref 0), (1, .int a), (2, .int b), (3, .int f), (4, .int p)], [.int p, .ref 45]) from rfl) ?_
  refine zy_c (mr := zm_m16) (mc := zm_m20) rfl rfl (zk_co (A := [.int p]) hH rfl rfl rfl rfl) rfl rfl ?_
  refine (zh_hasE hH hc hp).mono (fun q h' hq => ?_)
  obtain ⟨hez, rfl⟩ := hq
  rw [hez]
  rw [if_neg (fun z => z hn)]
  refine zy_b (mr := zm_m16) rfl rfl (show _ = some (49, []) from rfl) ?_
  refine zy_n 1 (mr := zm_m16) rfl (show _ = some (51, [(0, .ref 0), (1, .int a), (2, .int b), (3, .int f), (4, .int p)], [.int (-5)]) from rfl) ?_
  refine zy_r (mr := zm_m16) rfl rfl (show _ = some (some (.int (-5))) from rfl) ⟨rfl, τ, hH, hX, Nat.le_add_right _ _, xF_refl _ _ _, ⟨⟨_, hx⟩, ⟨rp, hc⟩⟩⟩
theorem yo_x_flt {d m : Nat} {a b f p : Int32} (hH : xHI xKT xSG τ h) (hX : xX τ h) (hx : xHX ad τ h n dn rc oc) (hc : xRXa rp τ h wd sz nm) (ok : xupb n dn a ∧ (0 ≤ b.toInt ∧ b.toInt ≤ 3) ∧ (0 ≤ f.toInt ∧ f.toInt ≤ 5) ∧ 0 ≤ p.toInt ∧ p.toInt ≤ 3) (hn : ¬ wd p.toInt.toNat = -1) (hw : 0 ≤ (wd p.toInt.toNat).toInt) (hm : (sz p.toInt.toNat).toInt = (m : Int)) (hm60 : m ≤ 60) (ho : ¬ xallO nm p.toInt.toNat m) : zm_Y og (d + 3) 16 0 [(0, .ref 0), (1, .int a), (2, .int b), (3, .int f), (4, .int p)] [] h (xCO τ h 300 [(36, 9), (207, 5), (207, 7), (208, 0), (209, 0)] (fun r => r = some (.int (-4))) (fun τ1 h1 => xH5 τ1 h1 n dn rc oc ∧ xRX τ1 h1 wd sz nm)) := by
  obtain ⟨st, rf, nr, y, L, wk, hcx⟩ := xHX_full hH hx
  have hp := ok.2.2.2
  have hlp : p.toInt.toNat < 4 := by omega
  have hjp := xnat p (hp).1
  obtain ⟨g1p, g2p, g3p, g4p, g5p⟩ := hc.1 _ hlp
  refine zy_n 2 (mr := zm_m16) rfl (show _ = some (2, [(0, .ref 0), (1, .int a), (2, .int b), (3, .int f), (4, .int p)], [.int a, .ref 0]) from rfl) ?_
  refine zy_c (mr := zm_m16) (mc := zm_m17) rfl rfl (zk_cx (A := [.int a]) hH rfl rfl) rfl rfl ?_
  refine (zh_stE hH hcx).mono (fun q h' hq => ?_)
  obtain ⟨hez, rfl⟩ := hq
  rw [hez]
  rw [if_pos ok.1]
  refine zy_b (mr := zm_m16) rfl rfl (show _ = some (8, []) from rfl) ?_
  refine zy_n 3 (mr := zm_m16) rfl (show _ = some (11, [(0, .ref 0), (1, .int a), (2, .int b), (3, .int f), (4, .int p)], [.int 3, .int 0, .int b]) from rfl) ?_
  refine zy_c (mr := zm_m16) (mc := zm_m10) rfl rfl rfl rfl rfl ?_
  refine zh_withinE.mono (fun q h' hq => ?_)
  obtain ⟨hez, rfl⟩ := hq
  rw [hez]
  rw [if_pos (show (0 : Int32).toInt ≤ b.toInt ∧ b.toInt ≤ (3 : Int32).toInt from by rw [show (0 : Int32).toInt = 0 from rfl, show (3 : Int32).toInt = 3 from rfl]; exact ok.2.1)]
  refine zy_b (mr := zm_m16) rfl rfl (show _ = some (17, []) from rfl) ?_
  refine zy_n 3 (mr := zm_m16) rfl (show _ = some (20, [(0, .ref 0), (1, .int a), (2, .int b), (3, .int f), (4, .int p)], [.int 5, .int 0, .int f]) from rfl) ?_
  refine zy_c (mr := zm_m16) (mc := zm_m10) rfl rfl rfl rfl rfl ?_
  refine zh_withinE.mono (fun q h' hq => ?_)
  obtain ⟨hez, rfl⟩ := hq
  rw [hez]
  rw [if_pos (show (0 : Int32).toInt ≤ f.toInt ∧ f.toInt ≤ (5 : Int32).toInt from by rw [show (0 : Int32).toInt = 0 from rfl, show (5 : Int32).toInt = 5 from rfl]; exact ok.2.2.1)]
  refine zy_b (mr := zm_m16) rfl rfl (show _ = some (26, []) from rfl) ?_
  refine zy_n 1 (mr := zm_m16) rfl (show _ = some (28, [(0, .ref 0), (1, .int a), (2, .int b), (3, .int f), (4, .int p)], [.int p]) from rfl) ?_
  refine zy_c (mr := zm_m16) (mc := zm_m19) rfl rfl rfl rfl rfl ?_
  refine zh_ipE.mono (fun q h' hq => ?_)
  obtain ⟨hez, rfl⟩ := hq
  rw [hez]
  rw [if_pos (show (0 : Int32).toInt ≤ p.toInt ∧ p.toInt ≤ (3 : Int32).toInt from by rw [show (0 : Int32).toInt = 0 from rfl, show (3 : Int32).toInt = 3 from rfl]; exact ok.2.2.2)]
  refine zy_b (mr := zm_m16) rfl rfl (show _ = some (37, []) from rfl) ?_
  refine zy_n 1 (mr := zm_m16) rfl (show _ = some (38, [(0, .ref 0), (1, .int a), (2, .int b), (3, .int f), (4, .int p)], [.ref 0]) from rfl) ?_
  refine zk_get (mr := zm_m16) rfl rfl hH (hH.2.2 0 rfl) rfl (xfo_ref (k := 0) (f := 12) (a := 45) hH rfl rfl rfl) ?_
  refine zy_n 1 (mr := zm_m16) rfl (show _ = some (43, [(0, .ref 0), (1, .int a), (2, .int b), (3, .int f), (4, .int p)], [.int p, .ref 45]) from rfl) ?_
  refine zy_c (mr := zm_m16) (mc := zm_m20) rfl rfl (zk_co (A := [.int p]) hH rfl rfl rfl rfl) rfl rfl ?_
  refine (zh_hasE hH hc hp).mono (fun q h' hq => ?_)
  obtain ⟨hez, rfl⟩ := hq
  rw [hez]
  rw [if_pos hn]
  refine zy_b (mr := zm_m16) rfl rfl (show _ = some (52, []) from rfl) ?_
  refine zy_n 1 (mr := zm_m16) rfl (show _ = some (53, [(0, .ref 0), (1, .int a), (2, .int b), (3, .int f), (4, .int p)], [.ref 0]) from rfl) ?_
  refine zk_get (mr := zm_m16) rfl rfl hH (hH.2.2 0 rfl) rfl (xfo_ref (k := 0) (f := 12) (a := 45) hH rfl rfl rfl) ?_
  refine zy_n 1 (mr := zm_m16) rfl (show _ = some (58, [(0, .ref 0), (1, .int a), (2, .int b), (3, .int f), (4, .int p)], [.int p, .ref 45]) from rfl) ?_
  refine zy_c (mr := zm_m16) (mc := zm_m21) rfl rfl (zk_co (A := [.int p]) hH rfl rfl rfl rfl) rfl rfl ?_
  refine (zh_to hH hc hp hm hm60).mono (fun q h' hq => ?_)
  obtain ⟨hez, rfl⟩ := hq
  rw [hez]
  rw [if_neg ho]
  refine zy_b (mr := zm_m16) rfl rfl (show _ = some (64, []) from rfl) ?_
  refine zy_n 1 (mr := zm_m16) rfl (show _ = some (66, [(0, .ref 0), (1, .int a), (2, .int b), (3, .int f), (4, .int p)], [.int (-4)]) from rfl) ?_
  refine zy_r (mr := zm_m16) rfl rfl (show _ = some (some (.int (-4))) from rfl) ⟨rfl, τ, hH, hX, Nat.le_add_right _ _, xF_refl _ _ _, ⟨⟨_, hx⟩, ⟨rp, hc⟩⟩⟩
theorem yo_x_full {d m : Nat} {a b f p : Int32} (hH : xHI xKT xSG τ h) (hX : xX τ h) (hx : xHX ad τ h n dn rc oc) (hc : xRXa rp τ h wd sz nm) (ok : xupb n dn a ∧ (0 ≤ b.toInt ∧ b.toInt ≤ 3) ∧ (0 ≤ f.toInt ∧ f.toInt ≤ 5) ∧ 0 ≤ p.toInt ∧ p.toInt ≤ 3) (hn : ¬ wd p.toInt.toNat = -1) (hw : 0 ≤ (wd p.toInt.toNat).toInt) (hm : (sz p.toInt.toNat).toInt = (m : Int)) (hm60 : m ≤ 60) (ho : xallO nm p.toInt.toNat m) (hk : ¬ ((rc a.toInt.toNat).toInt ≤ 5 ∧ (oc a.toInt.toNat).toInt + (m : Int) ≤ 10)) : zm_Y og (d + 3) 16 0 [(0, .ref 0), (1, .int a), (2, .int b), (3, .int f), (4, .int p)] [] h (xCO τ h 300 [(36, 9), (207, 5), (207, 7), (208, 0), (209, 0)] (fun r => r = some (.int (-3))) (fun τ1 h1 => xH5 τ1 h1 n dn rc oc ∧ xRX τ1 h1 wd sz nm)) := by
  obtain ⟨st, rf, nr, y, L, wk, hcx⟩ := xHX_full hH hx
  have hp := ok.2.2.2
  have hlp : p.toInt.toNat < 4 := by omega
  have hjp := xnat p (hp).1
  obtain ⟨g1p, g2p, g3p, g4p, g5p⟩ := hc.1 _ hlp
  refine zy_n 2 (mr := zm_m16) rfl (show _ = some (2, [(0, .ref 0), (1, .int a), (2, .int b), (3, .int f), (4, .int p)], [.int a, .ref 0]) from rfl) ?_
  refine zy_c (mr := zm_m16) (mc := zm_m17) rfl rfl (zk_cx (A := [.int a]) hH rfl rfl) rfl rfl ?_
  refine (zh_stE hH hcx).mono (fun q h' hq => ?_)
  obtain ⟨hez, rfl⟩ := hq
  rw [hez]
  rw [if_pos ok.1]
  refine zy_b (mr := zm_m16) rfl rfl (show _ = some (8, []) from rfl) ?_
  refine zy_n 3 (mr := zm_m16) rfl (show _ = some (11, [(0, .ref 0), (1, .int a), (2, .int b), (3, .int f), (4, .int p)], [.int 3, .int 0, .int b]) from rfl) ?_
  refine zy_c (mr := zm_m16) (mc := zm_m10) rfl rfl rfl rfl rfl ?_
  refine zh_withinE.mono (fun q h' hq => ?_)
  obtain ⟨hez, rfl⟩ := hq
  rw [hez]
  rw [if_pos (show (0 : Int32).toInt ≤ b.toInt ∧ b.toInt ≤ (3 : Int32).toInt from by rw [show (0 : Int32).toInt = 0 from rfl, show (3 : Int32).toInt = 3 from rfl]; exact ok.2.1)]
  refine zy_b (mr := zm_m16) rfl rfl (show _ = some (17, []) from rfl) ?_
  refine zy_n 3 (mr := zm_m16) rfl (show _ = some (20, [(0, .ref 0), (1, .int a), (2, .int b), (3, .int f), (4, .int p)], [.int 5, .int 0, .int f]) from rfl) ?_
  refine zy_c (mr := zm_m16) (mc := zm_m10) rfl rfl rfl rfl rfl ?_
  refine zh_withinE.mono (fun q h' hq => ?_)
  obtain ⟨hez, rfl⟩ := hq
  rw [hez]
  rw [if_pos (show (0 : Int32).toInt ≤ f.toInt ∧ f.toInt ≤ (5 : Int32).toInt from by rw [show (0 : Int32).toInt = 0 from rfl, show (5 : Int32).toInt = 5 from rfl]; exact ok.2.2.1)]
  refine zy_b (mr := zm_m16) rfl rfl (show _ = some (26, []) from rfl) ?_
  refine zy_n 1 (mr := zm_m16) rfl (show _ = some (28, [(0, .ref 0), (1, .int a), (2, .int b), (3, .int f), (4, .int p)], [.int p]) from rfl) ?_
  refine zy_c (mr := zm_m16) (mc := zm_m19) rfl rfl rfl rfl rfl ?_
  refine zh_ipE.mono (fun q h' hq => ?_)
  obtain ⟨hez, rfl⟩ := hq
  rw [hez]
  rw [if_pos (show (0 : Int32).toInt ≤ p.toInt ∧ p.toInt ≤ (3 : Int32).toInt from by rw [show (0 : Int32).toInt = 0 from rfl, show (3 : Int32).toInt = 3 from rfl]; exact ok.2.2.2)]
  refine zy_b (mr := zm_m16) rfl rfl (show _ = some (37, []) from rfl) ?_
  refine zy_n 1 (mr := zm_m16) rfl (show _ = some (38, [(0, .ref 0), (1, .int a), (2, .int b), (3, .int f), (4, .int p)], [.ref 0]) from rfl) ?_
  refine zk_get (mr := zm_m16) rfl rfl hH (hH.2.2 0 rfl) rfl (xfo_ref (k := 0) (f := 12) (a := 45) hH rfl rfl rfl) ?_
  refine zy_n 1 (mr := zm_m16) rfl (show _ = some (43, [(0, .ref 0), (1, .int a), (2, .int b), (3, .int f), (4, .int p)], [.int p, .ref 45]) from rfl) ?_
  refine zy_c (mr := zm_m16) (mc := zm_m20) rfl rfl (zk_co (A := [.int p]) hH rfl rfl rfl rfl) rfl rfl ?_
  refine (zh_hasE hH hc hp).mono (fun q h' hq => ?_)
  obtain ⟨hez, rfl⟩ := hq
  rw [hez]
  rw [if_pos hn]
  refine zy_b (mr := zm_m16) rfl rfl (show _ = some (52, []) from rfl) ?_
  refine zy_n 1 (mr := zm_m16) rfl (show _ = some (53, [(0, .ref 0), (1, .int a), (2, .int b), (3, .int f), (4, .int p)], [.ref 0]) from rfl) ?_
  refine zk_get (mr := zm_m16) rfl rfl hH (hH.2.2 0 rfl) rfl (xfo_ref (k := 0) (f := 12) (a := 45) hH rfl rfl rfl) ?_
  refine zy_n 1 (mr := zm_m16) rfl (show _ = some (58, [(0, .ref 0), (1, .int a), (2, .int b), (3, .int f), (4, .int p)], [.int p, .ref 45]) from rfl) ?_
  refine zy_c (mr := zm_m16) (mc := zm_m21) rfl rfl (zk_co (A := [.int p]) hH rfl rfl rfl rfl) rfl rfl ?_
  refine (zh_to hH hc hp hm hm60).mono (fun q h' hq => ?_)
  obtain ⟨hez, rfl⟩ := hq
  rw [hez]
  rw [if_pos ho]
  refine zy_b (mr := zm_m16) rfl rfl (show _ = some (67, []) from rfl) ?_
  have hla : a.toInt.toNat < n := by have := ok.1; omega
  have hja := xnat a ok.1.1
  obtain ⟨q1, q2, q3, q4, q5⟩ := hx.2.2.1 _ hla
  obtain ⟨⟨r0, r6⟩, o0, o10⟩ := xHX_r hH hx hla
  have es : (oc a.toInt.toNat + sz p.toInt.toNat).toInt = (oc a.toInt.toNat).toInt + (m : Int) := by rw [xad5 (by omega) (by omega), hm]
  refine zy_n 1 (mr := zm_m16) rfl (show _ = some (68, [(0, .ref 0), (1, .int a), (2, .int b), (3, .int f), (4, .int p)], [.ref 0]) from rfl) ?_
  refine zk_get (mr := zm_m16) rfl rfl hH (hH.2.2 0 rfl) rfl (xfo_ref (k := 0) (f := 0) (a := 1) hH rfl rfl rfl) ?_
  refine zy_n 1 (mr := zm_m16) rfl (show _ = some (72, [(0, .ref 0), (1, .int a), (2, .int b), (3, .int f), (4, .int p)], [.int a, .ref 1]) from rfl) ?_
  refine zk_ald (mr := zm_m16) rfl rfl hH (hH.2.2 1 rfl) rfl rfl q1 hja ?_
  refine zy_n 2 (mr := zm_m16) rfl (show _ = some (76, [(5, .ref ((ad a.toInt.toNat))), (0, .ref 0), (1, .int a), (2, .int b), (3, .int f), (4, .int p)], [.ref 0]) from rfl) ?_
  refine zk_get (mr := zm_m16) rfl rfl hH (hH.2.2 0 rfl) rfl (xfo_ref (k := 0) (f := 12) (a := 45) hH rfl rfl rfl) ?_
  refine zk_get (mr := zm_m16) rfl rfl hH (hH.2.2 45 rfl) rfl (xfo_ref (k := 45) (f := 2) (a := 52) hH rfl rfl rfl) ?_
  refine zy_n 1 (mr := zm_m16) rfl (show _ = some (84, [(5, .ref ((ad a.toInt.toNat))), (0, .ref 0), (1, .int a), (2, .int b), (3, .int f), (4, .int p)], [.int p, .ref 52]) from rfl) ?_
  refine zk_ild (mr := zm_m16) rfl rfl hH (hH.2.2 52 rfl) rfl g2p hjp ?_
  refine zy_n 2 (mr := zm_m16) rfl (show _ = some (89, [(6, .int (sz p.toInt.toNat)), (5, .ref ((ad a.toInt.toNat))), (0, .ref 0), (1, .int a), (2, .int b), (3, .int f), (4, .int p)], [.ref ((ad a.toInt.toNat))]) from rfl) ?_
  refine zk_get (mr := zm_m16) rfl rfl hH q2 rfl q4 ?_
  refine zy_n 1 (mr := zm_m16) rfl (show _ = some (94, [(6, .int (sz p.toInt.toNat)), (5, .ref ((ad a.toInt.toNat))), (0, .ref 0), (1, .int a), (2, .int b), (3, .int f), (4, .int p)], [.int 6, .int (rc a.toInt.toNat)]) from rfl) ?_
  refine zy_b (mr := zm_m16) rfl rfl (show _ = some (zm_ic .ge (rc a.toInt.toNat) 6 110 97, []) from rfl) ?_
  refine zc_ge (fun c1 => ?_) (fun c1 => ?_)
  · refine zy_n 1 (mr := zm_m16) rfl (show _ = some (112, [(6, .int (sz p.toInt.toNat)), (5, .ref ((ad a.toInt.toNat))), (0, .ref 0), (1, .int a), (2, .int b), (3, .int f), (4, .int p)], [.int (-3)]) from rfl) ?_
    refine zy_r (mr := zm_m16) rfl rfl (show _ = some (some (.int (-3))) from rfl) ⟨rfl, τ, hH, hX, Nat.le_add_right _ _, xF_refl _ _ _, ⟨⟨_, hx⟩, ⟨rp, hc⟩⟩⟩
  · have c1 : ¬ (6 : Int) ≤ (rc a.toInt.toNat).toInt := fun z => c1 (Int32.le_iff_toInt_le.mpr z)
    refine zy_n 1 (mr := zm_m16) rfl (show _ = some (99, [(6, .int (sz p.toInt.toNat)), (5, .ref ((ad a.toInt.toNat))), (0, .ref 0), (1, .int a), (2, .int b), (3, .int f), (4, .int p)], [.ref ((ad a.toInt.toNat))]) from rfl) ?_
    refine zk_get (mr := zm_m16) rfl rfl hH q2 rfl q5 ?_
    refine zy_n 3 (mr := zm_m16) rfl (show _ = some (107, [(6, .int (sz p.toInt.toNat)), (5, .ref ((ad a.toInt.toNat))), (0, .ref 0), (1, .int a), (2, .int b), (3, .int f), (4, .int p)], [.int 10, .int ((oc a.toInt.toNat) + (sz p.toInt.toNat))]) from rfl) ?_
    refine zy_b (mr := zm_m16) rfl rfl (show _ = some (zm_ic .le ((oc a.toInt.toNat) + (sz p.toInt.toNat)) 10 113 110, []) from rfl) ?_
    refine zc_le (fun e => absurd e (fun z => by have z2 : (oc a.toInt.toNat + sz p.toInt.toNat).toInt ≤ (10 : Int) := Int32.le_iff_toInt_le.mp z; exact hk ⟨by omega, by omega⟩)) (fun _ => ?_)
    refine zy_n 1 (mr := zm_m16) rfl (show _ = some (112, [(6, .int (sz p.toInt.toNat)), (5, .ref ((ad a.toInt.toNat))), (0, .ref 0), (1, .int a), (2, .int b), (3, .int f), (4, .int p)], [.int (-3)]) from rfl) ?_
    refine zy_r (mr := zm_m16) rfl rfl (show _ = some (some (.int (-3))) from rfl) ⟨rfl, τ, hH, hX, Nat.le_add_right _ _, xF_refl _ _ _, ⟨⟨_, hx⟩, ⟨rp, hc⟩⟩⟩
theorem yo_x_ok {d m : Nat} {a b f p : Int32} (hH : xHI xKT xSG τ h) (hX : xX τ h) (hx : xHX ad τ h n dn rc oc) (hc : xRXa rp τ h wd sz nm) (ok : xupb n dn a ∧ (0 ≤ b.toInt ∧ b.toInt ≤ 3) ∧ (0 ≤ f.toInt ∧ f.toInt ≤ 5) ∧ 0 ≤ p.toInt ∧ p.toInt ≤ 3) (hn : ¬ wd p.toInt.toNat = -1) (hw : 0 ≤ (wd p.toInt.toNat).toInt) (hm : (sz p.toInt.toNat).toInt = (m : Int)) (hm60 : m ≤ 60) (ho : xallO nm p.toInt.toNat m) (hk : (rc a.toInt.toNat).toInt ≤ 5 ∧ (oc a.toInt.toNat).toInt + (m : Int) ≤ 10) : zm_Y og (d + 3) 16 0 [(0, .ref 0), (1, .int a), (2, .int b), (3, .int f), (4, .int p)] [] h (xCO τ h 300 [(36, 9), (207, 5), (207, 7), (208, 0), (209, 0)] (fun r => r = some (.int (rc a.toInt.toNat))) (fun τ1 h1 => xH5 τ1 h1 n dn (upd rc a.toInt.toNat (rc a.toInt.toNat + 1)) (upd oc a.toInt.toNat (oc a.toInt.toNat + Int32.ofNat m)) ∧ xRX τ1 h1 wd sz nm)) := by
  obtain ⟨st, rf, nr, y, L, wk, hcx⟩ := xHX_full hH hx
  have hp := ok.2.2.2
  have hlp : p.toInt.toNat < 4 := by omega
  have hjp := xnat p (hp).1
  obtain ⟨g1p, g2p, g3p, g4p, g5p⟩ := hc.1 _ hlp
  refine zy_n 2 (mr := zm_m16) rfl (show _ = some (2, [(0, .ref 0), (1, .int a), (2, .int b), (3, .int f), (4, .int p)], [.int a, .ref 0]) from rfl) ?_
  refine zy_c (mr := zm_m16) (mc := zm_m17) rfl rfl (zk_cx (A := [.int a]) hH rfl rfl) rfl rfl ?_
  refine (zh_stE hH hcx).mono (fun q h' hq => ?_)
  obtain ⟨hez, rfl⟩ := hq
  rw [hez]
  rw [if_pos ok.1]
  refine zy_b (mr := zm_m16) rfl rfl (show _ = some (8, []) from rfl) ?_
  refine zy_n 3 (mr := zm_m16) rfl (show _ = some (11, [(0, .ref 0), (1, .int a), (2, .int b), (3, .int f), (4, .int p)], [.int 3, .int 0, .int b]) from rfl) ?_
  refine zy_c (mr := zm_m16) (mc := zm_m10) rfl rfl rfl rfl rfl ?_
  refine zh_withinE.mono (fun q h' hq => ?_)
  obtain ⟨hez, rfl⟩ := hq
  rw [hez]
  rw [if_pos (show (0 : Int32).toInt ≤ b.toInt ∧ b.toInt ≤ (3 : Int32).toInt from by rw [show (0 : Int32).toInt = 0 from rfl, show (3 : Int32).toInt = 3 from rfl]; exact ok.2.1)]
  refine zy_b (mr := zm_m16) rfl rfl (show _ = some (17, []) from rfl) ?_
  refine zy_n 3 (mr := zm_m16) rfl (show _ = some (20, [(0, .ref 0), (1, .int a), (2, .int b), (3, .int f), (4, .int p)], [.int 5, .int 0, .int f]) from rfl) ?_
  refine zy_c (mr := zm_m16) (mc := zm_m10) rfl rfl rfl rfl rfl ?_
  refine zh_withinE.mono (fun q h' hq => ?_)
  obtain ⟨hez, rfl⟩ := hq
  rw [hez]
  rw [if_pos (show (0 : Int32).toInt ≤ f.toInt ∧ f.toInt ≤ (5 : Int32).toInt from by rw [show (0 : Int32).toInt = 0 from rfl, show (5 : Int32).toInt = 5 from rfl]; exact ok.2.2.1)]
  refine zy_b (mr := zm_m16) rfl rfl (show _ = some (26, []) from rfl) ?_
  refine zy_n 1 (mr := zm_m16) rfl (show _ = some (28, [(0, .ref 0), (1, .int a), (2, .int b), (3, .int f), (4, .int p)], [.int p]) from rfl) ?_
  refine zy_c (mr := zm_m16) (mc := zm_m19) rfl rfl rfl rfl rfl ?_
  refine zh_ipE.mono (fun q h' hq => ?_)
  obtain ⟨hez, rfl⟩ := hq
  rw [hez]
  rw [if_pos (show (0 : Int32).toInt ≤ p.toInt ∧ p.toInt ≤ (3 : Int32).toInt from by rw [show (0 : Int32).toInt = 0 from rfl, show (3 : Int32).toInt = 3 from rfl]; exact ok.2.2.2)]
  refine zy_b (mr := zm_m16) rfl rfl (show _ = some (37, []) from rfl) ?_
  refine zy_n 1 (mr := zm_m16) rfl (show _ = some (38, [(0, .ref 0), (1, .int a), (2, .int b), (3, .int f), (4, .int p)], [.ref 0]) from rfl) ?_
  refine zk_get (mr := zm_m16) rfl rfl hH (hH.2.2 0 rfl) rfl (xfo_ref (k := 0) (f := 12) (a := 45) hH rfl rfl rfl) ?_
  refine zy_n 1 (mr := zm_m16) rfl (show _ = some (43, [(0, .ref 0), (1, .int a), (2, .int b), (3, .int f), (4, .int p)], [.int p, .ref 45]) from rfl) ?_
  refine zy_c (mr := zm_m16) (mc := zm_m20) rfl rfl (zk_co (A := [.int p]) hH rfl rfl rfl rfl) rfl rfl ?_
  refine (zh_hasE hH hc hp).mono (fun q h' hq => ?_)
  obtain ⟨hez, rfl⟩ := hq
  rw [hez]
  rw [if_pos hn]
  refine zy_b (mr := zm_m16) rfl rfl (show _ = some (52, []) from rfl) ?_
  refine zy_n 1 (mr := zm_m16) rfl (show _ = some (53, [(0, .ref 0), (1, .int a), (2, .int b), (3, .int f), (4, .int p)], [.ref 0]) from rfl) ?_
  refine zk_get (mr := zm_m16) rfl rfl hH (hH.2.2 0 rfl) rfl (xfo_ref (k := 0) (f := 12) (a := 45) hH rfl rfl rfl) ?_
  refine zy_n 1 (mr := zm_m16) rfl (show _ = some (58, [(0, .ref 0), (1, .int a), (2, .int b), (3, .int f), (4, .int p)], [.int p, .ref 45]) from rfl) ?_
  refine zy_c (mr := zm_m16) (mc := zm_m21) rfl rfl (zk_co (A := [.int p]) hH rfl rfl rfl rfl) rfl rfl ?_
  refine (zh_to hH hc hp hm hm60).mono (fun q h' hq => ?_)
  obtain ⟨hez, rfl⟩ := hq
  rw [hez]
  rw [if_pos ho]
  refine zy_b (mr := zm_m16) rfl rfl (show _ = some (67, []) from rfl) ?_
  have hla : a.toInt.toNat < n := by have := ok.1; omega
  have hja := xnat a ok.1.1
  obtain ⟨q1, q2, q3, q4, q5⟩ := hx.2.2.1 _ hla
  obtain ⟨⟨r0, r6⟩, o0, o10⟩ := xHX_r hH hx hla
  have es : (oc a.toInt.toNat + sz p.toInt.toNat).toInt = (oc a.toInt.toNat).toInt + (m : Int) := by rw [xad5 (by omega) (by omega), hm]
  refine zy_n 1 (mr := zm_m16) rfl (show _ = some (68, [(0, .ref 0), (1, .int a), (2, .int b), (3, .int f), (4, .int p)], [.ref 0]) from rfl) ?_
  refine zk_get (mr := zm_m16) rfl rfl hH (hH.2.2 0 rfl) rfl (xfo_ref (k := 0) (f := 0) (a := 1) hH rfl rfl rfl) ?_
  refine zy_n 1 (mr := zm_m16) rfl (show _ = some (72, [(0, .ref 0), (1, .int a), (2, .int b), (3, .int f), (4, .int p)], [.int a, .ref 1]) from rfl) ?_
  refine zk_ald (mr := zm_m16) rfl rfl hH (hH.2.2 1 rfl) rfl rfl q1 hja ?_
  refine zy_n 2 (mr := zm_m16) rfl (show _ = some (76, [(5, .ref ((ad a.toInt.toNat))), (0, .ref 0), (1, .int a), (2, .int b), (3, .int f), (4, .int p)], [.ref 0]) from rfl) ?_
  refine zk_get (mr := zm_m16) rfl rfl hH (hH.2.2 0 rfl) rfl (xfo_ref (k := 0) (f := 12) (a := 45) hH rfl rfl rfl) ?_
  refine zk_get (mr := zm_m16) rfl rfl hH (hH.2.2 45 rfl) rfl (xfo_ref (k := 45) (f := 2) (a := 52) hH rfl rfl rfl) ?_
  refine zy_n 1 (mr := zm_m16) rfl (show _ = some (84, [(5, .ref ((ad a.toInt.toNat))), (0, .ref 0), (1, .int a), (2, .int b), (3, .int f), (4, .int p)], [.int p, .ref 52]) from rfl) ?_
  refine zk_ild (mr := zm_m16) rfl rfl hH (hH.2.2 52 rfl) rfl g2p hjp ?_
  refine zy_n 2 (mr := zm_m16) rfl (show _ = some (89, [(6, .int (sz p.toInt.toNat)), (5, .ref ((ad a.toInt.toNat))), (0, .ref 0), (1, .int a), (2, .int b), (3, .int f), (4, .int p)], [.ref ((ad a.toInt.toNat))]) from rfl) ?_
  refine zk_get (mr := zm_m16) rfl rfl hH q2 rfl q4 ?_
  refine zy_n 1 (mr := zm_m16) rfl (show _ = some (94, [(6, .int (sz p.toInt.toNat)), (5, .ref ((ad a.toInt.toNat))), (0, .ref 0), (1, .int a), (2, .int b), (3, .int f), (4, .int p)], [.int 6, .int (rc a.toInt.toNat)]) from rfl) ?_
  refine zy_b (mr := zm_m16) rfl rfl (show _ = some (zm_ic .ge (rc a.toInt.toNat) 6 110 97, []) from rfl) ?_
  refine zc_ge (fun e => absurd e (fun z => by have z2 : (6 : Int) ≤ (rc a.toInt.toNat).toInt := Int32.le_iff_toInt_le.mp z; omega)) (fun _ => ?_)
  refine zy_n 1 (mr := zm_m16) rfl (show _ = some (99, [(6, .int (sz p.toInt.toNat)), (5, .ref ((ad a.toInt.toNat))), (0, .ref 0), (1, .int a), (2, .int b), (3, .int f), (4, .int p)], [.ref ((ad a.toInt.toNat))]) from rfl) ?_
  refine zk_get (mr := zm_m16) rfl rfl hH q2 rfl q5 ?_
  refine zy_n 3 (mr := zm_m16) rfl (show _ = some (107, [(6, .int (sz p.toInt.toNat)), (5, .ref ((ad a.toInt.toNat))), (0, .ref 0), (1, .int a), (2, .int b), (3, .int f), (4, .int p)], [.int 10, .int ((oc a.toInt.toNat) + (sz p.toInt.toNat))]) from rfl) ?_
  refine zy_b (mr := zm_m16) rfl rfl (show _ = some (zm_ic .le ((oc a.toInt.toNat) + (sz p.toInt.toNat)) 10 113 110, []) from rfl) ?_
  refine zc_le (fun _ => ?_) (fun e => absurd (Int32.le_iff_toInt_le.mpr (by show _ ≤ (10 : Int); omega)) e)
  refine zy_n 2 (mr := zm_m16) rfl (show _ = some (116, [(7, .int 0), (6, .int (sz p.toInt.toNat)), (5, .ref ((ad a.toInt.toNat))), (0, .ref 0), (1, .int a), (2, .int b), (3, .int f), (4, .int p)], []) from rfl) ?_
  refine zy_sub [(0, .ref 0), (1, .int a), (2, .int b), (3, .int f), (4, .int p), (5, .ref ((ad a.toInt.toNat))), (6, .int (sz p.toInt.toNat)), (7, .int (Int32.ofNat 0))] (by simp) (fun q hq => by simp only [List.mem_cons, List.not_mem_nil, or_false] at hq; rcases hq with rfl | rfl | rfl | rfl | rfl | rfl | rfl | rfl <;> rfl) (zy_ra (h := h) (τ := τ) (d := d + 1) ⟨ok.1.1, ok.1.2.1⟩ ok.2 hm hk.2 o0 (fun τ2 h2 hH2 hX2 hx hc hw2 hF2 => ?_) m 0 τ h (by omega) hH hX (by rw [show upd oc a.toInt.toNat (oc a.toInt.toNat + Int32.ofNat 0) = oc from xup0]; exact hx) hc (by omega) (xF_refl _ _ _))
  refine zy_n 1 (mr := zm_m16) rfl (show _ = some (151, [(0, .ref 0), (1, .int a), (2, .int b), (3, .int f), (4, .int p), (5, .ref ((ad a.toInt.toNat))), (6, .int (sz p.toInt.toNat))], [.ref 0]) from rfl) ?_
  refine zk_get (mr := zm_m16) rfl rfl hH2 (hH2.2.2 0 rfl) rfl (xfo_ref (k := 0) (f := 10) (a := 36) hH2 rfl rfl rfl) ?_
  refine zy_n 1 (mr := zm_m16) rfl (show _ = some (155, [(0, .ref 0), (1, .int a), (2, .int b), (3, .int f), (4, .int p), (5, .ref ((ad a.toInt.toNat))), (6, .int (sz p.toInt.toNat))], [.int 0, .ref 36]) from rfl) ?_
  refine zk_put (mr := zm_m16) rfl rfl hH2 hX2 (hH2.2.2 36 rfl) rfl rfl rfl rfl ⟨_, List.mem_cons_self, ⟨_, rfl, by decide, by decide⟩⟩ ?_
  intro h3 hH3 hX3 hW3 hs3 hg3 hF3
  have hx := xHX_F hH2 (hF3 [(36, 9)] rfl) rfl hx
  have hc := xRXa_F hH2 (hF3 [(36, 9)] rfl) rfl hc
  obtain ⟨q1, q2, q3, q4, q5⟩ := hx.2.2.1 _ hla
  refine zy_n 2 (mr := zm_m16) rfl (show _ = some (161, [(0, .ref 0), (1, .int a), (2, .int b), (3, .int f), (4, .int p), (5, .ref ((ad a.toInt.toNat))), (6, .int (sz p.toInt.toNat))], [.int b, .ref ((ad a.toInt.toNat))]) from rfl) ?_
  refine zy_c (mr := zm_m16) (mc := zm_m25) rfl rfl (zk_ch (A := [.int b]) hH3 q2 rfl rfl) rfl rfl ?_
  refine (zh_arm hH3 hX3 q2 ok.2.1 q4 r0 (by omega)).mono (fun r h4 hq => ?_)
  obtain ⟨rfl, τ4, hH4, hX4, hW4, hF4, rfl, s5, sf⟩ := hq
  have hx := xHX_rm hH3 hla hx hF4 s5 sf
  have hc := xRXa_F hH3 hF4 rfl hc
  refine zy_r (mr := zm_m16) rfl rfl (show _ = some (some (.int (rc a.toInt.toNat))) from rfl) ⟨rfl, _, hH4, hX4, by omega, xF_trans (xF_weak hF2 (xmsS rfl)) (xF_trans (hF3 _ rfl) (xF_weak hF4 (xmsS rfl))), ⟨⟨_, hx⟩, ⟨rp, hc⟩⟩⟩
end XR5
