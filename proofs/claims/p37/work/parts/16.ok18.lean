/-! The rows are right -/
theorem zm_chunks {α : Type} {p : α → Bool} {l : List α} {c n : Nat} (hc : 0 < c) (hl : l.length ≤ c * n) (h : ∀ j : Nat, j < n → ((l.drop (c * j)).take c).all p = true) : ∀ r ∈ l, p r = true := by
  intro r hr
  obtain ⟨i, hi⟩ := List.getElem?_of_mem hr
  have hil := (List.getElem?_eq_some_iff.mp hi).1
  have hd := Nat.div_add_mod i c
  have hm := Nat.mod_lt i hc
  have hj : i / c < n := by
    apply Nat.div_lt_of_lt_mul
    omega
  apply List.all_eq_true.mp (h (i / c) hj)
  apply List.mem_of_getElem? (i := i % c)
  rw [List.getElem?_take_of_lt hm, List.getElem?_drop, hd]
  exact hi
set_option maxRecDepth 100000 in
theorem zm_ok285_0 : ((zm_m285.2.drop 0).take 60).all (zm_rok zm_P zm_W zm_S zm_St zm_N zm_m285.1) = true := List.all_eq_true.mpr (zd_all 0 (by decide +kernel))
set_option maxRecDepth 100000 in
theorem zm_ok285_1 : ((zm_m285.2.drop 60).take 60).all (zm_rok zm_P zm_W zm_S zm_St zm_N zm_m285.1) = true := List.all_eq_true.mpr (zd_all 276 (by decide +kernel))
set_option maxRecDepth 100000 in
theorem zm_ok285_2 : ((zm_m285.2.drop 120).take 60).all (zm_rok zm_P zm_W zm_S zm_St zm_N zm_m285.1) = true := List.all_eq_true.mpr (zd_all 342 (by decide +kernel))
set_option maxRecDepth 100000 in
theorem zm_ok285_3 : ((zm_m285.2.drop 180).take 60).all (zm_rok zm_P zm_W zm_S zm_St zm_N zm_m285.1) = true := List.all_eq_true.mpr (zd_all 410 (by decide +kernel))
set_option maxRecDepth 100000 in
theorem zm_ok285_4 : ((zm_m285.2.drop 240).take 60).all (zm_rok zm_P zm_W zm_S zm_St zm_N zm_m285.1) = true := List.all_eq_true.mpr (zd_all 480 (by decide +kernel))
set_option maxRecDepth 100000 in
theorem zm_ok285_5 : ((zm_m285.2.drop 300).take 60).all (zm_rok zm_P zm_W zm_S zm_St zm_N zm_m285.1) = true := List.all_eq_true.mpr (zd_all 550 (by decide +kernel))
set_option maxRecDepth 100000 in
theorem zm_ok285_6 : ((zm_m285.2.drop 360).take 60).all (zm_rok zm_P zm_W zm_S zm_St zm_N zm_m285.1) = true := List.all_eq_true.mpr (zd_all 620 (by decide +kernel))
set_option maxRecDepth 100000 in
theorem zm_ok285_7 : ((zm_m285.2.drop 420).take 60).all (zm_rok zm_P zm_W zm_S zm_St zm_N zm_m285.1) = true := List.all_eq_true.mpr (zd_all 702 (by decide +kernel))
set_option maxRecDepth 100000 in
theorem zm_ok285_8 : ((zm_m285.2.drop 480).take 60).all (zm_rok zm_P zm_W zm_S zm_St zm_N zm_m285.1) = true := List.all_eq_true.mpr (zd_all 770 (by decide +kernel))
set_option maxRecDepth 100000 in
theorem zm_ok285_9 : ((zm_m285.2.drop 540).take 60).all (zm_rok zm_P zm_W zm_S zm_St zm_N zm_m285.1) = true := List.all_eq_true.mpr (zd_all 842 (by decide +kernel))
set_option maxRecDepth 100000 in
theorem zm_ok285_10 : ((zm_m285.2.drop 600).take 60).all (zm_rok zm_P zm_W zm_S zm_St zm_N zm_m285.1) = true := List.all_eq_true.mpr (zd_all 924 (by decide +kernel))
set_option maxRecDepth 100000 in
theorem zm_ok285_11 : ((zm_m285.2.drop 660).take 60).all (zm_rok zm_P zm_W zm_S zm_St zm_N zm_m285.1) = true := List.all_eq_true.mpr (zd_all 999 (by decide +kernel))
set_option maxRecDepth 100000 in
theorem zm_ok285_12 : ((zm_m285.2.drop 720).take 60).all (zm_rok zm_P zm_W zm_S zm_St zm_N zm_m285.1) = true := List.all_eq_true.mpr (zd_all 1082 (by decide +kernel))
set_option maxRecDepth 100000 in
theorem zm_ok285_13 : ((zm_m285.2.drop 780).take 60).all (zm_rok zm_P zm_W zm_S zm_St zm_N zm_m285.1) = true := List.all_eq_true.mpr (zd_all 1156 (by decide +kernel))
set_option maxRecDepth 100000 in
theorem zm_ok285_14 : ((zm_m285.2.drop 840).take 60).all (zm_rok zm_P zm_W zm_S zm_St zm_N zm_m285.1) = true := List.all_eq_true.mpr (zd_all 1232 (by decide +kernel))
set_option maxRecDepth 100000 in
theorem zm_ok285_15 : ((zm_m285.2.drop 900).take 60).all (zm_rok zm_P zm_W zm_S zm_St zm_N zm_m285.1) = true := List.all_eq_true.mpr (zd_all 1302 (by decide +kernel))
set_option maxRecDepth 100000 in
theorem zm_ok285_16 : ((zm_m285.2.drop 960).take 60).all (zm_rok zm_P zm_W zm_S zm_St zm_N zm_m285.1) = true := List.all_eq_true.mpr (zd_all 1376 (by decide +kernel))
set_option maxRecDepth 100000 in
theorem zm_ok285_17 : ((zm_m285.2.drop 1020).take 60).all (zm_rok zm_P zm_W zm_S zm_St zm_N zm_m285.1) = true := List.all_eq_true.mpr (zd_all 1444 (by decide +kernel))
set_option maxRecDepth 100000 in
theorem zm_ok285_18 : ((zm_m285.2.drop 1080).take 60).all (zm_rok zm_P zm_W zm_S zm_St zm_N zm_m285.1) = true := List.all_eq_true.mpr (zd_all 1516 (by decide +kernel))
set_option maxRecDepth 100000 in
theorem zm_ok285_19 : ((zm_m285.2.drop 1140).take 60).all (zm_rok zm_P zm_W zm_S zm_St zm_N zm_m285.1) = true := List.all_eq_true.mpr (zd_all 1592 (by decide +kernel))
set_option maxRecDepth 100000 in
theorem zm_ok285_20 : ((zm_m285.2.drop 1200).take 60).all (zm_rok zm_P zm_W zm_S zm_St zm_N zm_m285.1) = true := List.all_eq_true.mpr (zd_all 1666 (by decide +kernel))
set_option maxRecDepth 100000 in
theorem zm_ok285_21 : ((zm_m285.2.drop 1260).take 60).all (zm_rok zm_P zm_W zm_S zm_St zm_N zm_m285.1) = true := List.all_eq_true.mpr (zd_all 1738 (by decide +kernel))
set_option maxRecDepth 100000 in
theorem zm_ok285_22 : ((zm_m285.2.drop 1320).take 60).all (zm_rok zm_P zm_W zm_S zm_St zm_N zm_m285.1) = true := List.all_eq_true.mpr (zd_all 1814 (by decide +kernel))
set_option maxRecDepth 100000 in
theorem zm_ok285_23 : ((zm_m285.2.drop 1380).take 60).all (zm_rok zm_P zm_W zm_S zm_St zm_N zm_m285.1) = true := List.all_eq_true.mpr (zd_all 1885 (by decide +kernel))
set_option maxRecDepth 100000 in
theorem zm_ok285_24 : ((zm_m285.2.drop 1440).take 60).all (zm_rok zm_P zm_W zm_S zm_St zm_N zm_m285.1) = true := List.all_eq_true.mpr (zd_all 1954 (by decide +kernel))
set_option maxRecDepth 100000 in
theorem zm_ok285 : zm_mok zm_P zm_W zm_S zm_St zm_N zm_m285 := ⟨by decide +kernel, by decide +kernel, zm_chunks (c := 60) (n := 25) (by omega) (by decide +kernel) (fun j hj => by
  rcases (show j = 0 ∨ j = 1 ∨ j = 2 ∨ j = 3 ∨ j = 4 ∨ j = 5 ∨ j = 6 ∨ j = 7 ∨ j = 8 ∨ j = 9 ∨ j = 10 ∨ j = 11 ∨ j = 12 ∨ j = 13 ∨ j = 14 ∨ j = 15 ∨ j = 16 ∨ j = 17 ∨ j = 18 ∨ j = 19 ∨ j = 20 ∨ j = 21 ∨ j = 22 ∨ j = 23 ∨ j = 24 by omega) with rfl | rfl | rfl | rfl | rfl | rfl | rfl | rfl | rfl | rfl | rfl | rfl | rfl | rfl | rfl | rfl | rfl | rfl | rfl | rfl | rfl | rfl | rfl | rfl | rfl
  · exact zm_ok285_0
  · exact zm_ok285_1
  · exact zm_ok285_2
  · exact zm_ok285_3
  · exact zm_ok285_4
  · exact zm_ok285_5
  · exact zm_ok285_6
  · exact zm_ok285_7
  · exact zm_ok285_8
  · exact zm_ok285_9
  · exact zm_ok285_10
  · exact zm_ok285_11
  · exact zm_ok285_12
  · exact zm_ok285_13
  · exact zm_ok285_14
  · exact zm_ok285_15
  · exact zm_ok285_16
  · exact zm_ok285_17
  · exact zm_ok285_18
  · exact zm_ok285_19
  · exact zm_ok285_20
  · exact zm_ok285_21
  · exact zm_ok285_22
  · exact zm_ok285_23
  · exact zm_ok285_24), Or.inl rfl⟩
set_option maxRecDepth 100000 in
theorem zm_ok286 : zm_mok zm_P zm_W zm_S zm_St zm_N zm_m286 := ⟨by decide +kernel, by decide +kernel, zd_all 0 (by decide +kernel), Or.inr (zm_cw 3 151 rfl rfl)⟩
set_option maxRecDepth 100000 in
theorem zm_ok287 : zm_mok zm_P zm_W zm_S zm_St zm_N zm_m287 := ⟨by decide +kernel, by decide +kernel, zd_all 0 (by decide +kernel), Or.inr (zm_cw 3 155 rfl rfl)⟩
set_option maxRecDepth 100000 in
theorem zm_ok288 : zm_mok zm_P zm_W zm_S zm_St zm_N zm_m288 := ⟨by decide +kernel, by decide +kernel, zd_all 0 (by decide +kernel), Or.inr (zm_cw 3 161 rfl rfl)⟩
set_option maxRecDepth 100000 in
theorem zm_ok289 : zm_mok zm_P zm_W zm_S zm_St zm_N zm_m289 := ⟨by decide +kernel, by decide +kernel, zd_all 0 (by decide +kernel), Or.inr (zm_cw 3 165 rfl rfl)⟩
set_option maxRecDepth 100000 in
theorem zm_ok290 : zm_mok zm_P zm_W zm_S zm_St zm_N zm_m290 := ⟨by decide +kernel, by decide +kernel, zd_all 0 (by decide +kernel), Or.inr (zm_cw 3 168 rfl rfl)⟩
set_option maxRecDepth 100000 in
theorem zm_ok291 : zm_mok zm_P zm_W zm_S zm_St zm_N zm_m291 := ⟨by decide +kernel, by decide +kernel, zd_all 0 (by decide +kernel), Or.inr (zm_cw 3 171 rfl rfl)⟩
set_option maxRecDepth 100000 in
theorem zm_ok292 : zm_mok zm_P zm_W zm_S zm_St zm_N zm_m292 := ⟨by decide +kernel, by decide +kernel, zd_all 0 (by decide +kernel), Or.inr (zm_cw 3 176 rfl rfl)⟩
set_option maxRecDepth 100000 in
theorem zm_ok293 : zm_mok zm_P zm_W zm_S zm_St zm_N zm_m293 := ⟨by decide +kernel, by decide +kernel, zd_all 0 (by decide +kernel), Or.inr (zm_cw 8 200 rfl rfl)⟩
set_option maxRecDepth 100000 in
theorem zm_ok294 : zm_mok zm_P zm_W zm_S zm_St zm_N zm_m294 := ⟨by decide +kernel, by decide +kernel, zd_all 0 (by decide +kernel), Or.inr (zm_cw 8 204 rfl rfl)⟩
set_option maxRecDepth 100000 in
theorem zm_ok295 : zm_mok zm_P zm_W zm_S zm_St zm_N zm_m295 := ⟨by decide +kernel, by decide +kernel, zd_all 0 (by decide +kernel), Or.inr (zm_cw 8 207 rfl rfl)⟩
set_option maxRecDepth 100000 in
theorem zm_ok296 : zm_mok zm_P zm_W zm_S zm_St zm_N zm_m296 := ⟨by decide +kernel, by decide +kernel, zd_all 0 (by decide +kernel), Or.inr (zm_cw 8 212 rfl rfl)⟩
