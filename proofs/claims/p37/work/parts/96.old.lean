/-! What the start says of words and strings -/
def zs_wt : List (Nat × String × Nat × Int32 × Int32 × Int32 × Int32) := [(2, "FROM", 203, (-1), 0, 0, 17), (3, "PAY", 209, (-1), 0, 0, 18), (4, "ADD", 212, (-1), 0, 0, 19), (5, "LESSER", 239, (-1), 0, 0, 28), (6, "GREATER", 242, (-1), 0, 0, 29), (7, "COUNTS", 215, (-1), 0, 0, 20), (8, "PART", 218, (-1), 0, 0, 21), (9, "SPARE", 221, (-1), 0, 0, 22), (10, "APART", 224, (-1), 0, 0, 23), (11, "WHEN", 227, (-1), 0, 0, 24), (12, "NOT", 236, (-1), 0, 0, 27), (13, "AND", 233, (-1), 0, 0, 26), (14, "OR", 230, (-1), 0, 0, 25), (15, "WORTH", 149, 0, 1, 1, 0), (16, "FAMILIES", 155, 1, 1, 0, 1), (17, "STREET", 158, 2, 1, 1, 2), (18, "ROOMS", 161, 3, 1, 0, 3), (19, "OPENINGS", 164, 4, 1, 0, 4), (20, "YEAR", 167, 5, 1, 1, 5), (21, "PANES", 173, 7, 1, 0, 7), (22, "KIND", 176, 8, 1, 0, 8), (23, "FLOOR", 179, 9, 1, 0, 9), (24, "BACK", 182, 10, 1, 0, 10), (25, "LATTICE", 185, 11, 1, 0, 11), (26, "COUNT", 170, 6, 1, 1, 6), (27, "NUMBER", 245, (-1), 0, 0, 30), (28, "SUM", 248, (-1), 0, 0, 31), (29, "LEAST", 251, (-1), 0, 0, 32), (30, "GREATEST", 254, (-1), 0, 0, 33), (31, "WHERE", 257, (-1), 0, 0, 34), (32, "BY", 260, (-1), 0, 0, 35), (33, "HOUSE", 188, 12, 0, 1, 12), (34, "KNOWN", 191, 13, 0, 1, 13), (35, "HOW", 194, 14, 0, 1, 14), (36, "COLLECTOR", 197, 15, 0, 1, 15), (37, "TAX", 200, 16, 0, 1, 16)]
def zs_so : List (String × Nat × Nat) := [("WindowRollModel", 452, 38), ("WindowRollModel", 454, 39), ("WindowRollModel", 456, 40), ("WindowRollModel", 458, 41), ("WindowRollModel", 463, 42), ("WindowRollModel", 465, 43), ("WindowRollModel", 467, 44), ("WindowRollModel", 389, 45), ("WindowRollModel", 395, 46), ("WindowRollModel", 415, 47), ("WindowRollModel", 417, 48), ("WindowRollModel", 469, 49), ("WindowRollModel", 436, 50), ("WindowRollModel", 445, 51), ("WindowRollModel", 450, 52), ("WindowRollModel", 612, 53), ("WindowRollModel", 613, 54), ("WindowRollModel", 614, 55), ("WindowRollModel", 616, 56), ("WindowRollModel", 629, 57), ("WindowRollModel", 631, 58), ("WindowRoll$Word", 203, 59), ("WindowRoll$Word", 209, 60), ("WindowRoll$Word", 212, 61), ("WindowRoll$Word", 239, 62), ("WindowRoll$Word", 242, 63), ("WindowRoll$Word", 215, 64), ("WindowRoll$Word", 218, 65), ("WindowRoll$Word", 221, 66), ("WindowRoll$Word", 224, 67), ("WindowRoll$Word", 227, 68), ("WindowRoll$Word", 236, 69), ("WindowRoll$Word", 233, 70), ("WindowRoll$Word", 230, 71), ("WindowRoll$Word", 149, 72), ("WindowRoll$Word", 155, 73), ("WindowRoll$Word", 158, 74), ("WindowRoll$Word", 161, 75), ("WindowRoll$Word", 164, 76), ("WindowRoll$Word", 167, 77), ("WindowRoll$Word", 173, 78), ("WindowRoll$Word", 176, 79), ("WindowRoll$Word", 179, 80), ("WindowRoll$Word", 182, 81), ("WindowRoll$Word", 185, 82), ("WindowRoll$Word", 170, 83), ("WindowRoll$Word", 245, 84), ("WindowRoll$Word", 248, 85), ("WindowRoll$Word", 251, 86), ("WindowRoll$Word", 254, 87), ("WindowRoll$Word", 257, 88), ("WindowRoll$Word", 260, 89), ("WindowRoll$Word", 188, 90), ("WindowRoll$Word", 191, 91), ("WindowRoll$Word", 194, 92), ("WindowRoll$Word", 197, 93), ("WindowRoll$Word", 200, 94)]
def zs_ws (n : String) : Term := .static "WindowRoll$Word" n "LWindowRoll$Word;"
def zs_wc (q : Nat × String × Nat × Int32 × Int32 × Int32 × Int32) : List Cond := [.exactly (zs_ws q.2.1) "WindowRoll$Word", .eq (.field (zs_ws q.2.1) "java/lang/Enum" "ordinal" "I") (.int q.2.2.2.2.2.2), .eq (.field (zs_ws q.2.1) "WindowRoll$Word" "text" "Ljava/lang/String;") (.string "WindowRoll$Word" q.2.2.1), .eq (.field (zs_ws q.2.1) "WindowRoll$Word" "slot" "I") (.int q.2.2.2.1), .eq (.field (zs_ws q.2.1) "WindowRoll$Word" "inActs" "Z") (.int q.2.2.2.2.1), .eq (.field (zs_ws q.2.1) "WindowRoll$Word" "inAsked" "Z") (.int q.2.2.2.2.2.1)]
def zs_sv (q : String × Nat × Nat) : Term := .field (.string q.1 q.2.1) "java/lang/String" "value" "[B"
def zs_sl (q : String × Nat × Nat) : List Int32 := match zm_sb q.2.2 with
  | some l => l
  | none => []
def zs_el (t : Term) : Nat → List Int32 → List Cond
  | _, [] => []
  | j, b :: r => .eq (.elem t (.int (Int32.ofNat j))) (.int b) :: zs_el t (j + 1) r
def zs_sc (q : String × Nat × Nat) : List Cond := [.exactly (.string q.1 q.2.1) "java/lang/String", .eq (.field (.string q.1 q.2.1) "java/lang/String" "coder" "B") (.int 0), .arrayOf (zs_sv q) .byte, .eq (.length (zs_sv q)) (.int (Int32.ofNat (zs_sl q).length))] ++ zs_el (zs_sv q) 0 (zs_sl q)
/-- the one is left over from the other -/
def zs_sub : List Cond → List Cond → Bool
  | [], _ => true
  | _ :: _, [] => false
  | a :: s, b :: t => bif decide (a = b) then zs_sub s t else zs_sub (a :: s) t
theorem zs_sub_in : ∀ {t s : List Cond}, zs_sub s t = true → ∀ c ∈ s, c ∈ t
  | [], [], _, c, hc => by cases hc
  | [], _ :: _, h, _, _ => by cases h
  | b :: t, [], _, c, hc => by cases hc
  | b :: t, a :: s, h, c, hc => by
    simp only [zs_sub] at h
    cases hd : decide (a = b) with
    | true =>
      rw [hd] at h
      have e := of_decide_eq_true hd
      subst e
      rcases List.mem_cons.mp hc with rfl | hc
      · exact List.mem_cons_self
      · exact List.mem_cons_of_mem _ (zs_sub_in h c hc)
    | false =>
      rw [hd] at h
      exact List.mem_cons_of_mem _ (zs_sub_in h c hc)
set_option maxRecDepth 100000 in
theorem zs_wc_in : zs_sub (zs_wt.flatMap zs_wc) (flatC (Jvm.Cond.and given_1 narrow_1)) = true := by decide +kernel
set_option maxRecDepth 100000 in
theorem zs_sc_in : zs_sub (zs_so.flatMap zs_sc) (flatC (Jvm.Cond.and given_1 narrow_1)) = true := by decide +kernel
def zs_wd : Term := .static "WindowRoll$Reader" "WORDS" "[LWindowRoll$Word;"
def zs_we : Nat → List (Nat × Int32 × Int32 × Int32) → List Cond
  | _, [] => []
  | j, q :: r => (match zs_wt.find? (fun w => Nat.beq w.1 q.1) with
    | some w => [.eq (.elem zs_wd (.int (Int32.ofNat j))) (zs_ws w.2.1)]
    | none => []) ++ zs_we (j + 1) r
set_option maxRecDepth 100000 in
theorem zs_wd_in : zs_sub ([.arrayOf zs_wd (.object "WindowRoll$Word"), .eq (.length zs_wd) (.int 36)] ++ zs_we 0 zm_wl) (flatC (Jvm.Cond.and given_1 narrow_1)) = true := by decide +kernel
set_option maxRecDepth 100000 in
theorem zs_cs_in : (Cond.eq (.static "java/lang/String" "COMPACT_STRINGS" "Z") (.int 1)) ∈ flatC (Jvm.Cond.and given_1 narrow_1) ∧ (Cond.isRef (.static "jdk/internal/util/Preconditions" "SIOOBE_FORMATTER" "Ljava/util/function/BiFunction;")) ∈ flatC (Jvm.Cond.and given_1 narrow_1) := by decide +kernel
theorem zs_cs_tb : Cond.laysStatic "java/lang/String" "COMPACT_STRINGS" "Z" ∈ lw_tbl ∧ Cond.initialized "java/lang/String" ∈ lw_tbl ∧ Cond.laysStatic "jdk/internal/util/Preconditions" "SIOOBE_FORMATTER" "Ljava/util/function/BiFunction;" ∈ lw_tbl ∧ Cond.initialized "jdk/internal/util/Preconditions" ∈ lw_tbl := by decide +kernel
theorem zs_wt_wl : zm_wl.all (fun q => zs_wt.any (fun w => Nat.beq w.1 q.1 && (decide (w.2.2.2.1 = q.2.1) && (decide (w.2.2.2.2.1 = q.2.2.1) && decide (w.2.2.2.2.2.1 = q.2.2.2))))) = true := by decide +kernel
theorem zs_wt_st : ∀ w ∈ zs_wt, ("WindowRoll$Word", w.2.1, "LWindowRoll$Word;", w.1) ∈ zm_St ∧ ("WindowRoll$Word", w.2.2.1, w.1 + 57) ∈ zs_so := by decide +kernel
theorem zs_wt_or : ∀ v ∈ zs_wt, ∀ w ∈ zs_wt, v.2.2.2.2.2.2 = w.2.2.2.2.2.2 → v.1 = w.1 := by decide +kernel
theorem zs_so_s : ∀ q ∈ zm_S, (q.1, q.2.1, q.2.2.2) ∈ zs_so := by decide +kernel
theorem zs_so_x : ∀ q ∈ zm_sx, ∃ r ∈ zs_so, r.2.2 = q.1 := by decide +kernel
theorem zs_so_n : (zs_so.map (fun q => q.2.2)).Nodup := by decide +kernel
theorem zs_so_b : ∀ q ∈ zs_so, 38 ≤ q.2.2 ∧ q.2.2 ≤ 94 := by decide +kernel
set_option maxRecDepth 100000 in
theorem zs_we_at : ∀ j : Nat, j < 36 → ∃ w ∈ zs_wt, w.1 = zm_wh j ∧ Cond.eq (.elem zs_wd (.int (Int32.ofNat j))) (zs_ws w.2.1) ∈ zs_we 0 zm_wl := by decide +kernel
theorem zs_wrl : ∀ {t : List (Nat × Int32 × Int32 × Int32)} {j : Nat} {q : Int32 × Int32 × Int32}, zm_wrl t j = some q → (j, q) ∈ t
  | [], j, q, h => by cases h
  | p :: t, j, q, h => by
    simp only [zm_wrl] at h
    cases h1 : Nat.beq p.1 j with
    | true =>
      rw [h1] at h
      cases h
      have e := Nat.eq_of_beq_eq_true h1
      subst e
      exact List.mem_cons_self
    | false =>
      rw [h1] at h
      exact List.mem_cons_of_mem _ (zs_wrl h)
theorem zs_sbl : ∀ {t : List (Nat × List Int32)} {j : Nat} {l : List Int32}, zm_sbl t j = some l → (j, l) ∈ t
  | [], j, l, h => by cases h
  | p :: t, j, l, h => by
    simp only [zm_sbl] at h
    cases h1 : Nat.beq p.1 j with
    | true =>
      rw [h1] at h
      cases h
      have e := Nat.eq_of_beq_eq_true h1
      subst e
      exact List.mem_cons_self
    | false =>
      rw [h1] at h
      exact List.mem_cons_of_mem _ (zs_sbl h)
theorem zs_el_at {t : Term} : ∀ {l : List Int32} {k j : Nat} {b : Int32}, l[j]? = some b → Cond.eq (.elem t (.int (Int32.ofNat (k + j)))) (.int b) ∈ zs_el t k l
  | [], k, j, b, h => by simp at h
  | c :: l, k, 0, b, h => by
    simp only [List.getElem?_cons_zero, Option.some.injEq] at h
    subst h
    exact List.mem_cons_self
  | c :: l, k, j + 1, b, h => by
    rw [List.getElem?_cons_succ] at h
    have := zs_el_at (t := t) (k := k + 1) h
    rw [show k + 1 + j = k + (j + 1) by omega] at this
    exact List.mem_cons_of_mem _ this
def zs_og (L : Nat) (xs : Nat → Int32) (c : Bool) : Nat → Option zm_C := fun j => if j = 0 then some (.inl (0, L, .inl xs)) else if j = 95 then (if c then some (.inr (0, [])) else none) else none
