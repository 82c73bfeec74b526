/-! Strings, statics, nest mates, defaults -/
def zm_S : zm_SS := [("WindowRollModel", 452, "from", 38), ("WindowRollModel", 454, "counts", 39), ("WindowRollModel", 456, "part", 40), ("WindowRollModel", 458, "spare", 41), ("WindowRollModel", 463, "apart", 42), ("WindowRollModel", 465, "pay", 43), ("WindowRollModel", 467, "add", 44), ("WindowRollModel", 389, "lesser", 45), ("WindowRollModel", 395, "greater", 46), ("WindowRollModel", 415, "house street year count known how collector worth tax ", 47), ("WindowRollModel", 417, "worth families street rooms openings year count panes kind floor back lattice ", 48), ("WindowRollModel", 469, "when", 49), ("WindowRollModel", 436, "not", 50), ("WindowRollModel", 445, "and", 51), ("WindowRollModel", 450, "or", 52), ("WindowRollModel", 612, "number", 53), ("WindowRollModel", 613, "sum", 54), ("WindowRollModel", 614, "least", 55), ("WindowRollModel", 616, "greatest", 56), ("WindowRollModel", 629, "where", 57), ("WindowRollModel", 631, "by", 58), ("WindowRoll$Word", 203, "from", 59), ("WindowRoll$Word", 209, "pay", 60), ("WindowRoll$Word", 212, "add", 61), ("WindowRoll$Word", 239, "lesser", 62), ("WindowRoll$Word", 242, "greater", 63), ("WindowRoll$Word", 215, "counts", 64), ("WindowRoll$Word", 218, "part", 65), ("WindowRoll$Word", 221, "spare", 66), ("WindowRoll$Word", 224, "apart", 67), ("WindowRoll$Word", 227, "when", 68), ("WindowRoll$Word", 236, "not", 69), ("WindowRoll$Word", 233, "and", 70), ("WindowRoll$Word", 230, "or", 71), ("WindowRoll$Word", 149, "worth", 72), ("WindowRoll$Word", 155, "families", 73), ("WindowRoll$Word", 158, "street", 74), ("WindowRoll$Word", 161, "rooms", 75), ("WindowRoll$Word", 164, "openings", 76), ("WindowRoll$Word", 167, "year", 77), ("WindowRoll$Word", 173, "panes", 78), ("WindowRoll$Word", 176, "kind", 79), ("WindowRoll$Word", 179, "floor", 80), ("WindowRoll$Word", 182, "back", 81), ("WindowRoll$Word", 185, "lattice", 82), ("WindowRoll$Word", 170, "count", 83), ("WindowRoll$Word", 245, "number", 84), ("WindowRoll$Word", 248, "sum", 85), ("WindowRoll$Word", 251, "least", 86), ("WindowRoll$Word", 254, "greatest", 87), ("WindowRoll$Word", 257, "where", 88), ("WindowRoll$Word", 260, "by", 89), ("WindowRoll$Word", 188, "house", 90), ("WindowRoll$Word", 191, "known", 91), ("WindowRoll$Word", 194, "how", 92), ("WindowRoll$Word", 197, "collector", 93), ("WindowRoll$Word", 200, "tax", 94)]
def zm_St : zm_ST := [("WindowRoll$Reader", "WORDS", "[LWindowRoll$Word;", 1), ("WindowRoll$Word", "FROM", "LWindowRoll$Word;", 2), ("WindowRoll$Word", "PAY", "LWindowRoll$Word;", 3), ("WindowRoll$Word", "ADD", "LWindowRoll$Word;", 4), ("WindowRoll$Word", "LESSER", "LWindowRoll$Word;", 5), ("WindowRoll$Word", "GREATER", "LWindowRoll$Word;", 6), ("WindowRoll$Word", "COUNTS", "LWindowRoll$Word;", 7), ("WindowRoll$Word", "PART", "LWindowRoll$Word;", 8), ("WindowRoll$Word", "SPARE", "LWindowRoll$Word;", 9), ("WindowRoll$Word", "APART", "LWindowRoll$Word;", 10), ("WindowRoll$Word", "WHEN", "LWindowRoll$Word;", 11), ("WindowRoll$Word", "NOT", "LWindowRoll$Word;", 12), ("WindowRoll$Word", "AND", "LWindowRoll$Word;", 13), ("WindowRoll$Word", "OR", "LWindowRoll$Word;", 14), ("WindowRoll$Word", "WORTH", "LWindowRoll$Word;", 15), ("WindowRoll$Word", "FAMILIES", "LWindowRoll$Word;", 16), ("WindowRoll$Word", "STREET", "LWindowRoll$Word;", 17), ("WindowRoll$Word", "ROOMS", "LWindowRoll$Word;", 18), ("WindowRoll$Word", "OPENINGS", "LWindowRoll$Word;", 19), ("WindowRoll$Word", "YEAR", "LWindowRoll$Word;", 20), ("WindowRoll$Word", "PANES", "LWindowRoll$Word;", 21), ("WindowRoll$Word", "KIND", "LWindowRoll$Word;", 22), ("WindowRoll$Word", "FLOOR", "LWindowRoll$Word;", 23), ("WindowRoll$Word", "BACK", "LWindowRoll$Word;", 24), ("WindowRoll$Word", "LATTICE", "LWindowRoll$Word;", 25), ("WindowRoll$Word", "COUNT", "LWindowRoll$Word;", 26), ("WindowRoll$Word", "NUMBER", "LWindowRoll$Word;", 27), ("WindowRoll$Word", "SUM", "LWindowRoll$Word;", 28), ("WindowRoll$Word", "LEAST", "LWindowRoll$Word;", 29), ("WindowRoll$Word", "GREATEST", "LWindowRoll$Word;", 30), ("WindowRoll$Word", "WHERE", "LWindowRoll$Word;", 31), ("WindowRoll$Word", "BY", "LWindowRoll$Word;", 32), ("WindowRoll$Word", "HOUSE", "LWindowRoll$Word;", 33), ("WindowRoll$Word", "KNOWN", "LWindowRoll$Word;", 34), ("WindowRoll$Word", "HOW", "LWindowRoll$Word;", 35), ("WindowRoll$Word", "COLLECTOR", "LWindowRoll$Word;", 36), ("WindowRoll$Word", "TAX", "LWindowRoll$Word;", 37)]
def zm_N : zm_NW := [("WindowRoll", 33, ⟨"WindowRoll$Reader", "<init>", "()V"⟩, "WindowRoll"), ("WindowRoll", 40, ⟨"WindowRoll$Law", "<init>", "()V"⟩, "WindowRoll"), ("WindowRoll", 47, ⟨"WindowRoll$Court", "<init>", "()V"⟩, "WindowRoll"), ("WindowRoll", 54, ⟨"WindowRoll$Lines", "<init>", "()V"⟩, "WindowRoll"), ("WindowRoll", 70, ⟨"WindowRoll$Answers", "<init>", "()V"⟩, "WindowRoll"), ("WindowRoll", 77, ⟨"WindowRoll$Rows", "<init>", "()V"⟩, "WindowRoll")]
def zm_df : Nat → List Value := fun c => match c with
  | 0 => [.null, .null, .null, .int 0, .int 0]
  | 1 => [.int 0, .int 0, .null]
  | 2 => [.int 0, .int 0, .int 0, .int 0, .int 0, .int 0, .null, .int 0, .null, .int 0, .long 0]
  | 3 => [.null, .int 0, .null, .null, .null, .null]
  | 4 => [.null, .null, .null, .null, .null, .null, .int 0, .null, .null]
  | 5 => [.int 0, .int 0, .int 0, .int 0, .int 0, .int 0, .int 0, .int 0]
  | 6 => [.null, .null, .null, .int 0, .int 0, .null, .null, .int 0, .null, .int 0, .null, .null, .null, .null, .null]
  | 7 => [.null, .int 0, .null, .null, .null, .int 0, .int 0, .null, .int 0, .int 0]
  | 8 => [.null, .null, .null, .null, .int 0, .null]
  | 9 => [.null, .int 0, .null, .null, .null, .null, .null, .int 0, .int 0, .null]
  | 10 => [.null, .int 0, .int 0, .int 0, .int 0, .int 0, .null, .null, .null, .null, .null, .null, .null, .null, .null, .null]
  | _ => [.int 0, .null, .null, .null, .null, .int 0, .int 0, .int 0, .int 0, .int 0, .int 0, .int 0, .int 0, .int 0, .int 0, .null, .null, .null, .null, .null, .null, .null, .null, .null, .null, .null, .null, .null, .null, .null, .null, .null, .null, .null, .null, .null, .null, .null, .null, .null, .null, .null, .null, .null, .null, .null, .null, .null, .null, .null, .int 0, .int 0, .null, .null, .null, .null, .int 0, .int 0, .int 0, .int 0, .int 0, .int 0, .int 0, .int 0, .int 0, .int 0, .int 0, .int 0, .int 0, .long 0, .int 0, .int 0, .int 0, .long 0, .long 0, .long 0, .long 0, .int 0, .int 0, .int 0, .int 0, .null, .int 0, .int 0, .int 0, .null, .null, .null, .null, .null, .null, .null, .null, .null, .null, .null, .null, .null, .null, .null, .int 0, .int 0, .int 0, .long 0, .long 0, .int 0, .null, .null, .int 0]
theorem zm_uws {C : String} {T : u_T} {N : Nat} (ps : List Nat) (h : (List.range N).all (fun k => match ps[k]? with
  | some p => zm_m zm_W [p] 0 (u_lay C T k)
  | none => false) = true) : ∀ w ∈ u_ws C T N, w ∈ zm_W := by
  intro w hw
  unfold u_ws at hw
  obtain ⟨k, hk, rfl⟩ := List.mem_map.mp hw
  have h1 := List.all_eq_true.mp h k hk
  split at h1
  · exact zm_m_in h1
  · cases h1
theorem zm_T0_0 : (∀ w ∈ u_ws RX0 TX0 5, w ∈ zm_W) ∧ (∀ j : Nat, j < 5 → defaultValue (zm_ft 0 j) = vp_V (zm_df 0) j) := ⟨zm_uws [2049, 2051, 2053, 2055, 2057] (by decide +kernel), by decide +kernel⟩
theorem zm_T0_1 : (∀ w ∈ u_ws RX1 TX1 3, w ∈ zm_W) ∧ (∀ j : Nat, j < 3 → defaultValue (zm_ft 1 j) = vp_V (zm_df 1) j) := ⟨zm_uws [1164, 1166, 1168] (by decide +kernel), by decide +kernel⟩
theorem zm_T0_2 : (∀ w ∈ u_ws RX2 TX2 11, w ∈ zm_W) ∧ (∀ j : Nat, j < 11 → defaultValue (zm_ft 2 j) = vp_V (zm_df 2) j) := ⟨zm_uws [2200, 2202, 2204, 2206, 2208, 2210, 2212, 2214, 2216, 2218, 2220] (by decide +kernel), by decide +kernel⟩
theorem zm_T0_3 : (∀ w ∈ u_ws RX3 TX3 6, w ∈ zm_W) ∧ (∀ j : Nat, j < 6 → defaultValue (zm_ft 3 j) = vp_V (zm_df 3) j) := ⟨zm_uws [1138, 1140, 1142, 1144, 1146, 1148] (by decide +kernel), by decide +kernel⟩
theorem zm_T0_4 : (∀ w ∈ u_ws RX4 TX4 9, w ∈ zm_W) ∧ (∀ j : Nat, j < 9 → defaultValue (zm_ft 4 j) = vp_V (zm_df 4) j) := ⟨zm_uws [1195, 1197, 1199, 1201, 1203, 1205, 1207, 1209, 1211] (by decide +kernel), by decide +kernel⟩
theorem zm_T0_5 : (∀ w ∈ u_ws RX5 TX5 8, w ∈ zm_W) ∧ (∀ j : Nat, j < 8 → defaultValue (zm_ft 5 j) = vp_V (zm_df 5) j) := ⟨zm_uws [3051, 3053, 3055, 3057, 3059, 3061, 3063, 3065] (by decide +kernel), by decide +kernel⟩
theorem zm_T0_6 : (∀ w ∈ u_ws RX6 TX6 15, w ∈ zm_W) ∧ (∀ j : Nat, j < 15 → defaultValue (zm_ft 6 j) = vp_V (zm_df 6) j) := ⟨zm_uws [2003, 2005, 2007, 2009, 2011, 2013, 2015, 2017, 2019, 2021, 2023, 2025, 2027, 2029, 2031] (by decide +kernel), by decide +kernel⟩
theorem zm_T0_7 : (∀ w ∈ u_ws RX7 TX7 10, w ∈ zm_W) ∧ (∀ j : Nat, j < 10 → defaultValue (zm_ft 7 j) = vp_V (zm_df 7) j) := ⟨zm_uws [1051, 1053, 1055, 1057, 1059, 1061, 1063, 1065, 1067, 1069] (by decide +kernel), by decide +kernel⟩
theorem zm_T0_8 : (∀ w ∈ u_ws RX8 TX8 6, w ∈ zm_W) ∧ (∀ j : Nat, j < 6 → defaultValue (zm_ft 8 j) = vp_V (zm_df 8) j) := ⟨zm_uws [2079, 2081, 2083, 2085, 2087, 2089] (by decide +kernel), by decide +kernel⟩
theorem zm_T0_9 : (∀ w ∈ u_ws RX9 TX9 10, w ∈ zm_W) ∧ (∀ j : Nat, j < 10 → defaultValue (zm_ft 9 j) = vp_V (zm_df 9) j) := ⟨zm_uws [1109, 1111, 1113, 1115, 1117, 1119, 1121, 1123, 1125, 1127] (by decide +kernel), by decide +kernel⟩
theorem zm_T0_10 : (∀ w ∈ u_ws RX11 TX11 16, w ∈ zm_W) ∧ (∀ j : Nat, j < 16 → defaultValue (zm_ft 10 j) = vp_V (zm_df 10) j) := ⟨zm_uws [2108, 2110, 2112, 2114, 2116, 2118, 2120, 2122, 2124, 2126, 2128, 2130, 2132, 2134, 2136, 2138] (by decide +kernel), by decide +kernel⟩
theorem zm_T0_11 : (∀ w ∈ u_ws RX12 TX12 109, w ∈ zm_W) ∧ (∀ j : Nat, j < 109 → defaultValue (zm_ft 11 j) = vp_V (zm_df 11) j) := ⟨zm_uws [7021, 7023, 7025, 7027, 7029, 7031, 7033, 7035, 7037, 7039, 7041, 7043, 7045, 7047, 7049, 7051, 7053, 7055, 7057, 7059, 7061, 7063, 7065, 7067, 7069, 7071, 7073, 7075, 7077, 7079, 7081, 7083, 7085, 7087, 7089, 7091, 7093, 7095, 7097, 7099, 7101, 7103, 7105, 7107, 7109, 7111, 7113, 7115, 7117, 7119, 7121, 7123, 7125, 7127, 7129, 7131, 7133, 7135, 7137, 7139, 7141, 7143, 7145, 7147, 7149, 7151, 7153, 7155, 7157, 7159, 7161, 7163, 7165, 7167, 7169, 7171, 7173, 7175, 7177, 7179, 7181, 7183, 7185, 7187, 7189, 7191, 7193, 7195, 7197, 7199, 7201, 7203, 7205, 7207, 7209, 7211, 7213, 7215, 7217, 7219, 7221, 7223, 7225, 7227, 7229, 7231, 7233, 7235, 7237] (by decide +kernel), by decide +kernel⟩
theorem zm_tr_df : ∀ c j : Nat, zm_tr 0 (fun _ => 0) (vp_V (zm_df c) j) = vp_V (zm_df c) j := by
  intro c j
  have h : ∀ (l : List Value), (∀ v ∈ l, zm_tr 0 (fun _ => 0) v = v) → zm_tr 0 (fun _ => 0) (vp_V l j) = vp_V l j := by
    intro l hl
    unfold vp_V
    rw [List.getD_eq_getElem?_getD]
    cases hv : l[j]? with
    | none => rfl
    | some v => exact hl v (List.mem_of_getElem? hv)
  apply h
  match c with
  | 0 => exact (by decide +kernel : ∀ v ∈ zm_df 0, zm_tr 0 (fun _ => 0) v = v)
  | 1 => exact (by decide +kernel : ∀ v ∈ zm_df 1, zm_tr 0 (fun _ => 0) v = v)
  | 2 => exact (by decide +kernel : ∀ v ∈ zm_df 2, zm_tr 0 (fun _ => 0) v = v)
  | 3 => exact (by decide +kernel : ∀ v ∈ zm_df 3, zm_tr 0 (fun _ => 0) v = v)
  | 4 => exact (by decide +kernel : ∀ v ∈ zm_df 4, zm_tr 0 (fun _ => 0) v = v)
  | 5 => exact (by decide +kernel : ∀ v ∈ zm_df 5, zm_tr 0 (fun _ => 0) v = v)
  | 6 => exact (by decide +kernel : ∀ v ∈ zm_df 6, zm_tr 0 (fun _ => 0) v = v)
  | 7 => exact (by decide +kernel : ∀ v ∈ zm_df 7, zm_tr 0 (fun _ => 0) v = v)
  | 8 => exact (by decide +kernel : ∀ v ∈ zm_df 8, zm_tr 0 (fun _ => 0) v = v)
  | 9 => exact (by decide +kernel : ∀ v ∈ zm_df 9, zm_tr 0 (fun _ => 0) v = v)
  | 10 => exact (by decide +kernel : ∀ v ∈ zm_df 10, zm_tr 0 (fun _ => 0) v = v)
  | c + 11 => exact (by decide +kernel : ∀ v ∈ zm_df (11), zm_tr 0 (fun _ => 0) v = v)
theorem zm_T0_ok : zm_T0 zm_W zm_df := by
  intro ci r hr
  match ci, hr with
  | 0, hr => cases hr; exact ⟨zm_T0_0.1, tyX0_ok, nmX0, zm_T0_0.2, rfl, zm_tr_df 0⟩
  | 1, hr => cases hr; exact ⟨zm_T0_1.1, tyX1_ok, nmX1, zm_T0_1.2, rfl, zm_tr_df 1⟩
  | 2, hr => cases hr; exact ⟨zm_T0_2.1, tyX2_ok, nmX2, zm_T0_2.2, rfl, zm_tr_df 2⟩
  | 3, hr => cases hr; exact ⟨zm_T0_3.1, tyX3_ok, nmX3, zm_T0_3.2, rfl, zm_tr_df 3⟩
  | 4, hr => cases hr; exact ⟨zm_T0_4.1, tyX4_ok, nmX4, zm_T0_4.2, rfl, zm_tr_df 4⟩
  | 5, hr => cases hr; exact ⟨zm_T0_5.1, tyX5_ok, nmX5, zm_T0_5.2, rfl, zm_tr_df 5⟩
  | 6, hr => cases hr; exact ⟨zm_T0_6.1, tyX6_ok, nmX6, zm_T0_6.2, rfl, zm_tr_df 6⟩
  | 7, hr => cases hr; exact ⟨zm_T0_7.1, tyX7_ok, nmX7, zm_T0_7.2, rfl, zm_tr_df 7⟩
  | 8, hr => cases hr; exact ⟨zm_T0_8.1, tyX8_ok, nmX8, zm_T0_8.2, rfl, zm_tr_df 8⟩
  | 9, hr => cases hr; exact ⟨zm_T0_9.1, tyX9_ok, nmX9, zm_T0_9.2, rfl, zm_tr_df 9⟩
  | 10, hr => cases hr; exact ⟨zm_T0_10.1, tyX11_ok, nmX11, zm_T0_10.2, rfl, zm_tr_df 10⟩
  | 11, hr => cases hr; exact ⟨zm_T0_11.1, tyX12_ok, nmX12, zm_T0_11.2, rfl, zm_tr_df 11⟩
  | ci + 12, hr => simp [zm_cl] at hr
