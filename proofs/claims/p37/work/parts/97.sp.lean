/-! PLACES and PAIRS: piece 15 (made by a program) -/
section XR2
set_option maxRecDepth 100000
variable {og : Nat → Option zm_C} {τ τ' : List Nat} {h h' : zm_H} {ms : List (Nat × Nat)} {rp : Nat → Nat} {wd sz : Nat → Int32} {nm : Nat → Nat → Int64}
def xPRX (h : zm_H) (pl : Int32) (pr : Nat → Int32) : Prop := xfd h 45 4 = some (.int pl) ∧ ∀ q : Nat, (q : Int) < pl.toInt → xar h 53 q = some (.int (pr q))
def xPRM (h : zm_H) (pl : Int32) (pr : Nat → Int32) : Prop := xfd h 55 108 = some (.int pl) ∧ ∀ q : Nat, (q : Int) < pl.toInt → xar h 116 q = some (.int (pr q))
theorem xPRX_F {pl : Int32} {pr : Nat → Int32} (hH : xHI xKT xSG τ h) (hf : xF (xms ms) τ h τ' h') (hk : ([(45, 4), (53, 0)] : List (Nat × Nat)).all (fun p => !xms ms p.1 p.2) = true) (hc : xPRX h pl pr) : xPRX h' pl pr := by
  have hm : ∀ p ∈ ([(45, 4), (53, 0)] : List (Nat × Nat)), xms ms p.1 p.2 = false := fun p hp => by
    have := List.all_eq_true.mp hk p hp
    simpa using this
  exact ⟨hf.2.1 45 45 4 _ (hH.2.2 45 rfl) (hm (45, 4) (by simp)) hc.1, fun q hq => xar_F hf (hH.2.2 53 rfl) (hm (53, 0) (by simp)) (hc.2 q hq)⟩
theorem xPRM_F {pl : Int32} {pr : Nat → Int32} (hH : xHI xKT xSG τ h) (hf : xF (xms ms) τ h τ' h') (hk : ([(55, 108), (116, 0)] : List (Nat × Nat)).all (fun p => !xms ms p.1 p.2) = true) (hc : xPRM h pl pr) : xPRM h' pl pr := by
  have hm : ∀ p ∈ ([(55, 108), (116, 0)] : List (Nat × Nat)), xms ms p.1 p.2 = false := fun p hp => by
    have := List.all_eq_true.mp hk p hp
    simpa using this
  exact ⟨hf.2.1 55 55 108 _ (hH.2.2 55 rfl) (hm (55, 108) (by simp)) hc.1, fun q hq => xar_F hf (hH.2.2 116 rfl) (hm (116, 0) (by simp)) (hc.2 q hq)⟩
theorem yd_x_in {d : Nat} {a pl : Int32} {pr : Nat → Int32} (hH : xHI xKT xSG τ h) (hX : xX τ h) (hc : xRXa rp τ h wd sz nm) (hP : xPRX h pl pr) (hl : 0 ≤ pl.toInt ∧ pl.toInt ≤ 60) (hi : 0 ≤ a.toInt ∧ a.toInt < pl.toInt) : zm_Y og (d + 1) 159 0 [(0, .ref 0), (1, .int a)] [] h (xCO τ h 0 [] (fun r => r = some (.int (pr a.toInt.toNat))) (fun τ1 h1 => xRX τ1 h1 wd sz nm)) := by
  obtain ⟨hpl, hpr⟩ := hP
  have e1 : (1 : Int32).toInt = 1 := rfl
  have ep : (pl - 1).toInt = pl.toInt - 1 := by rw [xsub32 (by omega) (by omega), e1]
  have hja := xnat a hi.1
  have hlt : ((a.toInt.toNat : Nat) : Int) < pl.toInt := by omega
  refine zy_n 3 (mr := zm_m159) rfl (show _ = some (3, [(0, .ref 0), (1, .int a)], [.ref 0, .int 0, .int a]) from rfl) ?_
  refine zk_get (mr := zm_m159) rfl rfl hH (hH.2.2 0 rfl) rfl (xfo_ref (k := 0) (f := 12) (a := 45) hH rfl rfl rfl) ?_
  refine zk_get (mr := zm_m159) rfl rfl hH (hH.2.2 45 rfl) rfl hpl ?_
  refine zy_n 2 (mr := zm_m159) rfl (show _ = some (11, [(0, .ref 0), (1, .int a)], [.int (pl - 1), .int 0, .int a]) from rfl) ?_
  refine zy_c (mr := zm_m159) (mc := zm_m10) rfl rfl rfl rfl rfl ?_
  refine (zh_withinE).mono (fun q h' hq => ?_)
  obtain ⟨hez, rfl⟩ := hq
  rw [hez]
  rw [if_pos (show (0 : Int32).toInt ≤ a.toInt ∧ a.toInt ≤ (pl - 1).toInt from by rw [show (0 : Int32).toInt = 0 from rfl, ep]; exact ⟨hi.1, by omega⟩)]
  refine zy_b (mr := zm_m159) rfl rfl (show _ = some (17, []) from rfl) ?_
  refine zy_n 1 (mr := zm_m159) rfl (show _ = some (18, [(0, .ref 0), (1, .int a)], [.ref 0]) from rfl) ?_
  refine zk_get (mr := zm_m159) rfl rfl hH (hH.2.2 0 rfl) rfl (xfo_ref (k := 0) (f := 12) (a := 45) hH rfl rfl rfl) ?_
  refine zk_get (mr := zm_m159) rfl rfl hH (hH.2.2 45 rfl) rfl (xfo_ref (k := 45) (f := 3) (a := 53) hH rfl rfl rfl) ?_
  refine zy_n 1 (mr := zm_m159) rfl (show _ = some (25, [(0, .ref 0), (1, .int a)], [.int a, .ref 53]) from rfl) ?_
  refine zk_ild (mr := zm_m159) rfl rfl hH (hH.2.2 53 rfl) rfl (hpr _ hlt) hja ?_
  refine zy_n 1 (mr := zm_m159) rfl (show _ = some (30, [(0, .ref 0), (1, .int a)], [.int (pr a.toInt.toNat)]) from rfl) ?_
  refine zy_r (mr := zm_m159) rfl rfl (show _ = some (some (.int (pr a.toInt.toNat))) from rfl) ⟨rfl, τ, hH, hX, Nat.le_add_right _ _, xF_refl _ _ _, ⟨rp, hc⟩⟩
theorem yd_x_no {d : Nat} {a pl : Int32} {pr : Nat → Int32} (hH : xHI xKT xSG τ h) (hX : xX τ h) (hc : xRXa rp τ h wd sz nm) (hP : xPRX h pl pr) (hl : 0 ≤ pl.toInt ∧ pl.toInt ≤ 60) (hi : ¬ (0 ≤ a.toInt ∧ a.toInt < pl.toInt)) : zm_Y og (d + 1) 159 0 [(0, .ref 0), (1, .int a)] [] h (xCO τ h 0 [] (fun r => r = some (.int (-1))) (fun τ1 h1 => xRX τ1 h1 wd sz nm)) := by
  obtain ⟨hpl, hpr⟩ := hP
  have e1 : (1 : Int32).toInt = 1 := rfl
  have ep : (pl - 1).toInt = pl.toInt - 1 := by rw [xsub32 (by omega) (by omega), e1]
  refine zy_n 3 (mr := zm_m159) rfl (show _ = some (3, [(0, .ref 0), (1, .int a)], [.ref 0, .int 0, .int a]) from rfl) ?_
  refine zk_get (mr := zm_m159) rfl rfl hH (hH.2.2 0 rfl) rfl (xfo_ref (k := 0) (f := 12) (a := 45) hH rfl rfl rfl) ?_
  refine zk_get (mr := zm_m159) rfl rfl hH (hH.2.2 45 rfl) rfl hpl ?_
  refine zy_n 2 (mr := zm_m159) rfl (show _ = some (11, [(0, .ref 0), (1, .int a)], [.int (pl - 1), .int 0, .int a]) from rfl) ?_
  refine zy_c (mr := zm_m159) (mc := zm_m10) rfl rfl rfl rfl rfl ?_
  refine (zh_withinE).mono (fun q h' hq => ?_)
  obtain ⟨hez, rfl⟩ := hq
  rw [hez]
  rw [if_neg (show ¬ ((0 : Int32).toInt ≤ a.toInt ∧ a.toInt ≤ (pl - 1).toInt) from by rw [show (0 : Int32).toInt = 0 from rfl, ep]; omega)]
  refine zy_b (mr := zm_m159) rfl rfl (show _ = some (29, []) from rfl) ?_
  refine zy_n 1 (mr := zm_m159) rfl (show _ = some (30, [(0, .ref 0), (1, .int a)], [.int (-1)]) from rfl) ?_
  refine zy_r (mr := zm_m159) rfl rfl (show _ = some (some (.int (-1))) from rfl) ⟨rfl, τ, hH, hX, Nat.le_add_right _ _, xF_refl _ _ _, ⟨rp, hc⟩⟩
theorem yd_m_in {d : Nat} {a pl : Int32} {pr : Nat → Int32} (hH : xHI xKT xSG τ h) (hX : xX τ h) (hc : xRM h wd sz nm) (hP : xPRM h pl pr) (hl : 0 ≤ pl.toInt ∧ pl.toInt ≤ 60) (hi : 0 ≤ a.toInt ∧ a.toInt < pl.toInt) : zm_Y og (d + 1) 278 0 [(0, .ref 55), (1, .int a)] [] h (xCO τ h 0 [(55, 0)] (fun r => r = some (.int (pr a.toInt.toNat))) (fun τ1 h1 => xRM h1 wd sz nm)) := by
  obtain ⟨hpl, hpr⟩ := hP
  have e1 : (1 : Int32).toInt = 1 := rfl
  have ep : (pl - 1).toInt = pl.toInt - 1 := by rw [xsub32 (by omega) (by omega), e1]
  have hja := xnat a hi.1
  have hlt : ((a.toInt.toNat : Nat) : Int) < pl.toInt := by omega
  refine zy_n 2 (mr := zm_m278) rfl (show _ = some (2, [(0, .ref 55), (1, .int a)], [.int 0, .ref 55]) from rfl) ?_
  refine zk_put (mr := zm_m278) rfl rfl hH hX (hH.2.2 55 rfl) rfl rfl rfl rfl ⟨_, List.mem_cons_self, ⟨_, rfl, by decide, by decide⟩⟩ ?_
  intro h1 hH1 hX1 hW1 hs1 hg1 hF1
  have hc := xRM_F hH (hF1 [(55, 0)] rfl) rfl hc
  have hpl := hg1.1 _ _ _ (by simp) hpl
  have hpr : ∀ q : Nat, (q : Int) < pl.toInt → xar h1 116 q = some (.int (pr q)) := fun q hq => hg1.2 _ _ _ (by simp) (hpr q hq)
  refine zy_n 4 (mr := zm_m278) rfl (show _ = some (9, [(0, .ref 55), (1, .int a)], [.ref 55, .long 0, .long a.toInt64]) from rfl) ?_
  refine zk_get (mr := zm_m278) rfl rfl hH1 (hH1.2.2 55 rfl) rfl hpl ?_
  refine zy_n 3 (mr := zm_m278) rfl (show _ = some (15, [(0, .ref 55), (1, .int a)], [.long ((pl - 1).toInt64), .long 0, .long a.toInt64]) from rfl) ?_
  refine zy_c (mr := zm_m278) (mc := zm_m183) rfl rfl rfl rfl rfl ?_
  refine (zh_minE).mono (fun q h' hq => ?_)
  obtain ⟨hez, rfl⟩ := hq
  rw [hez]
  rw [if_pos (show (0 : Int64).toInt ≤ a.toInt64.toInt ∧ a.toInt64.toInt ≤ (pl - 1).toInt64.toInt from by rw [show (0 : Int64).toInt = 0 from rfl, Int32.toInt_toInt64, Int32.toInt_toInt64, ep]; exact ⟨hi.1, by omega⟩)]
  refine zy_b (mr := zm_m278) rfl rfl (show _ = some (21, []) from rfl) ?_
  refine zy_n 1 (mr := zm_m278) rfl (show _ = some (22, [(0, .ref 55), (1, .int a)], [.ref 55]) from rfl) ?_
  refine zk_get (mr := zm_m278) rfl rfl hH1 (hH1.2.2 55 rfl) rfl (xfo_ref (k := 55) (f := 107) (a := 116) hH1 rfl rfl rfl) ?_
  refine zy_n 1 (mr := zm_m278) rfl (show _ = some (26, [(0, .ref 55), (1, .int a)], [.int a, .ref 116]) from rfl) ?_
  refine zk_ild (mr := zm_m278) rfl rfl hH1 (hH1.2.2 116 rfl) rfl (hpr _ hlt) hja ?_
  refine zy_n 1 (mr := zm_m278) rfl (show _ = some (31, [(0, .ref 55), (1, .int a)], [.int (pr a.toInt.toNat)]) from rfl) ?_
  refine zy_r (mr := zm_m278) rfl rfl (show _ = some (some (.int (pr a.toInt.toNat))) from rfl) ⟨rfl, τ, hH1, hX1, by omega, (hF1 _ rfl), hc⟩
theorem yd_m_no {d : Nat} {a pl : Int32} {pr : Nat → Int32} (hH : xHI xKT xSG τ h) (hX : xX τ h) (hc : xRM h wd sz nm) (hP : xPRM h pl pr) (hl : 0 ≤ pl.toInt ∧ pl.toInt ≤ 60) (hi : ¬ (0 ≤ a.toInt ∧ a.toInt < pl.toInt)) : zm_Y og (d + 1) 278 0 [(0, .ref 55), (1, .int a)] [] h (xCO τ h 0 [(55, 0)] (fun r => r = some (.int (-1))) (fun τ1 h1 => xRM h1 wd sz nm)) := by
  obtain ⟨hpl, hpr⟩ := hP
  have e1 : (1 : Int32).toInt = 1 := rfl
  have ep : (pl - 1).toInt = pl.toInt - 1 := by rw [xsub32 (by omega) (by omega), e1]
  refine zy_n 2 (mr := zm_m278) rfl (show _ = some (2, [(0, .ref 55), (1, .int a)], [.int 0, .ref 55]) from rfl) ?_
  refine zk_put (mr := zm_m278) rfl rfl hH hX (hH.2.2 55 rfl) rfl rfl rfl rfl ⟨_, List.mem_cons_self, ⟨_, rfl, by decide, by decide⟩⟩ ?_
  intro h1 hH1 hX1 hW1 hs1 hg1 hF1
  have hc := xRM_F hH (hF1 [(55, 0)] rfl) rfl hc
  have hpl := hg1.1 _ _ _ (by simp) hpl
  have hpr : ∀ q : Nat, (q : Int) < pl.toInt → xar h1 116 q = some (.int (pr q)) := fun q hq => hg1.2 _ _ _ (by simp) (hpr q hq)
  refine zy_n 4 (mr := zm_m278) rfl (show _ = some (9, [(0, .ref 55), (1, .int a)], [.ref 55, .long 0, .long a.toInt64]) from rfl) ?_
  refine zk_get (mr := zm_m278) rfl rfl hH1 (hH1.2.2 55 rfl) rfl hpl ?_
  refine zy_n 3 (mr := zm_m278) rfl (show _ = some (15, [(0, .ref 55), (1, .int a)], [.long ((pl - 1).toInt64), .long 0, .long a.toInt64]) from rfl) ?_
  refine zy_c (mr := zm_m278) (mc := zm_m183) rfl rfl rfl rfl rfl ?_
  refine (zh_minE).mono (fun q h' hq => ?_)
  obtain ⟨hez, rfl⟩ := hq
  rw [hez]
  rw [if_neg (show ¬ ((0 : Int64).toInt ≤ a.toInt64.toInt ∧ a.toInt64.toInt ≤ (pl - 1).toInt64.toInt) from by rw [show (0 : Int64).toInt = 0 from rfl, Int32.toInt_toInt64, Int32.toInt_toInt64, ep]; omega)]
  refine zy_b (mr := zm_m278) rfl rfl (show _ = some (30, []) from rfl) ?_
  refine zy_n 1 (mr := zm_m278) rfl (show _ = some (31, [(0, .ref 55), (1, .int a)], [.int (-1)]) from rfl) ?_
  refine zy_r (mr := zm_m278) rfl rfl (show _ = some (some (.int (-1))) from rfl) ⟨rfl, τ, hH1, hX1, by omega, (hF1 _ rfl), hc⟩
end XR2
