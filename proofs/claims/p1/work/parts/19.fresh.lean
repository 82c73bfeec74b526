/-! Both objects, fresh -/
def zp_r1 : Option (Option Value × zm_H) := zm_ex zm_P zm_df (fun _ => none) 2000 10 0 0 [(0, .ref 0)] [] [.inr (10, zm_df 10)]
def zp_r2 : Option (Option Value × zm_H) := match zp_r1 with
  | some (_, h) => zm_ex zm_P zm_df (fun _ => none) 2000 10 180 0 [(0, .ref 55)] [] (h ++ [.inr (11, zm_df 11)])
  | none => none
def zp_objs : List (Nat × Nat × List Value) := [(0, 10, [.ref 1, .int 0, .int 0, .int 0, .int 2, .int (-1), .ref 2, .ref 7, .ref 25, .ref 27, .ref 36, .ref 41, .ref 45, .ref 54, .null, .null]),
  (2, 7, [.ref 3, .int 0, .ref 4, .ref 5, .ref 6, .int 0, .int 0, .null, .int 0, .int (-1)]),
  (7, 3, [.ref 8, .int 0, .ref 9, .ref 16, .ref 23, .ref 24]),
  (9, 9, [.ref 10, .int 0, .ref 11, .ref 12, .ref 13, .ref 14, .ref 15, .int 0, .int 0, .null]),
  (16, 9, [.ref 17, .int 0, .ref 18, .ref 19, .ref 20, .ref 21, .ref 22, .int 0, .int 0, .null]),
  (25, 1, [.int 5, .int 0, .ref 26]),
  (27, 4, [.ref 28, .ref 29, .ref 30, .ref 31, .ref 32, .ref 33, .int 0, .ref 34, .ref 35]),
  (36, 6, [.ref 7, .ref 37, .ref 38, .int 20, .int 30, .ref 39, .ref 40, .int 0, .null, .int 0, .null, .null, .null, .null, .null]),
  (41, 0, [.ref 42, .ref 43, .ref 44, .int 0, .int 0]),
  (45, 8, [.ref 46, .ref 51, .ref 52, .ref 53, .int 0, .null]),
  (55, 11, [.int 0, .ref 56, .ref 57, .ref 58, .ref 59, .int 0, .int 0, .int 0, .int 0, .int 0, .int 0, .int 20, .int 30, .int 5, .int 2, .ref 60, .ref 61, .ref 62, .ref 63, .ref 64, .ref 65, .ref 66, .ref 67, .ref 68, .ref 69, .ref 70, .ref 71, .ref 72, .ref 73, .ref 74, .ref 75, .ref 76, .ref 77, .ref 78, .ref 79, .ref 80, .ref 81, .ref 82, .ref 83, .ref 84, .ref 85, .ref 86, .ref 87, .ref 88, .ref 89, .ref 90, .ref 91, .ref 92, .ref 93, .ref 94, .int 0, .int (-1), .ref 95, .ref 96, .ref 97, .ref 98, .int 0, .int 0, .int 0, .int 0, .int 0, .int 0, .int 0, .int 0, .int 0, .int 0, .int 0, .int 0, .int 0, .long 0, .int 0, .int 0, .int 0, .long 0, .long 0, .long 0, .long 0, .int 0, .int 0, .int 0, .int 0, .ref 99, .int 0, .int 0, .int 0, .ref 100, .ref 101, .ref 102, .ref 103, .ref 104, .ref 105, .ref 106, .ref 107, .ref 108, .ref 109, .ref 110, .ref 111, .ref 112, .ref 113, .ref 114, .int 0, .int 0, .int 0, .long 0, .long 0, .int 0, .ref 115, .ref 116, .int 0])]
def zp_ints : List (Nat × Nat × Nat × List Int32) := [(3, 0, 300, []), (4, 0, 301, []), (5, 0, 301, []), (6, 0, 301, []), (10, 0, 300, []), (11, 0, 12, [0, 0, 0, 0, 0, 0, 0, 0, 0, 0, 0, 0]), (12, 0, 12, [0, 0, 0, 0, 0, 0, 0, 0, 0, 0, 0, 0]), (13, 0, 12, [0, 0, 0, 0, 0, 0, 0, 0, 0, 0, 0, 0]), (14, 0, 12, [0, 0, 0, 0, 0, 0, 0, 0, 0, 0, 0, 0]), (15, 0, 12, [0, 0, 0, 0, 0, 0, 0, 0, 0, 0, 0, 0]), (17, 0, 0, []), (18, 0, 0, []), (19, 0, 0, []), (20, 0, 0, []), (21, 0, 0, []), (22, 0, 0, []), (26, 0, 480, []), (28, 0, 1200, []), (29, 0, 1200, []), (30, 0, 1200, []), (31, 0, 1200, []), (32, 0, 1200, []), (33, 0, 1200, []), (34, 0, 16, [0, 0, 0, 0, 0, 0, 0, 0, 0, 0, 0, 0, 0, 0, 0, 0]), (35, 0, 1600, []), (37, 0, 4, [3, 3, 3, 3]), (38, 0, 4, [12, 12, 12, 12]), (39, 0, 10, [0, 0, 0, 0, 0, 0, 0, 0, 0, 0]), (40, 0, 10, [0, 0, 0, 0, 0, 0, 0, 0, 0, 0]), (44, 0, 200, []), (51, 0, 4, [(-1), (-1), (-1), (-1)]), (52, 0, 4, [0, 0, 0, 0]), (53, 0, 60, []), (54, 0, 16, [0, 0, 0, 0, 0, 0, 0, 0, 0, 0, 0, 0, 0, 0, 0, 0]), (56, 0, 4, [(-1), (-1), (-1), (-1)]), (57, 0, 4, [0, 0, 0, 0]), (60, 0, 4, [3, 3, 3, 3]), (61, 0, 4, [12, 12, 12, 12]), (62, 0, 16, [0, 0, 0, 0, 0, 0, 0, 0, 0, 0, 0, 0, 0, 0, 0, 0]), (63, 0, 16, [0, 0, 0, 0, 0, 0, 0, 0, 0, 0, 0, 0, 0, 0, 0, 0]), (64, 0, 16, [0, 0, 0, 0, 0, 0, 0, 0, 0, 0, 0, 0, 0, 0, 0, 0]), (65, 0, 16, [0, 0, 0, 0, 0, 0, 0, 0, 0, 0, 0, 0, 0, 0, 0, 0]), (66, 0, 16, [0, 0, 0, 0, 0, 0, 0, 0, 0, 0, 0, 0, 0, 0, 0, 0]), (67, 0, 16, [0, 0, 0, 0, 0, 0, 0, 0, 0, 0, 0, 0, 0, 0, 0, 0]), (68, 0, 16, [0, 0, 0, 0, 0, 0, 0, 0, 0, 0, 0, 0, 0, 0, 0, 0]), (69, 3, 16, [0, 0, 0, 0, 0, 0, 0, 0, 0, 0, 0, 0, 0, 0, 0, 0]), (71, 0, 96, []), (72, 0, 96, []), (73, 0, 160, []), (74, 0, 160, []), (75, 0, 160, []), (76, 0, 160, []), (77, 3, 160, []), (78, 3, 160, []), (79, 0, 60, []), (80, 0, 60, []), (81, 0, 60, []), (82, 0, 60, []), (83, 3, 60, []), (84, 3, 60, []), (85, 3, 60, []), (86, 3, 60, []), (87, 0, 1200, []), (88, 0, 1200, []), (89, 0, 1200, []), (90, 0, 1200, []), (91, 0, 1200, []), (92, 0, 1200, []), (93, 0, 16, [(-1), (-1), (-1), (-1), (-1), (-1), (-1), (-1), (-1), (-1), (-1), (-1), (-1), (-1), (-1), (-1)]), (94, 2, 300, []), (95, 2, 4500, []), (96, 0, 15, [0, 0, 0, 0, 0, 0, 0, 0, 0, 0, 0, 0, 0, 0, 0]), (97, 0, 12, [0, 0, 0, 0, 0, 0, 0, 0, 0, 0, 0, 0]), (98, 0, 12, [0, 0, 0, 0, 0, 0, 0, 0, 0, 0, 0, 0]), (100, 0, 10, [0, 0, 0, 0, 0, 0, 0, 0, 0, 0]), (104, 0, 10, [0, 0, 0, 0, 0, 0, 0, 0, 0, 0]), (105, 0, 10, [0, 0, 0, 0, 0, 0, 0, 0, 0, 0]), (106, 0, 1024, []), (108, 0, 100, []), (111, 0, 1200, []), (114, 0, 200, []), (115, 0, 3721, []), (116, 0, 60, [])]
def zp_longs : List (Nat × Nat) := [(23, 17), (24, 300), (42, 200), (43, 200), (47, 60), (48, 60), (49, 60), (50, 60), (58, 240), (59, 60), (70, 16), (99, 1200), (101, 11264), (102, 10240), (103, 91), (107, 16), (109, 1200), (110, 1200), (112, 200), (113, 200)]
def zp_refs : List (Nat × Nat × Nat × List (Option Nat)) := [(1, 4, 16, [none, none, none, none, none, none, none, none, none, none, none, none, none, none, none, none]), (8, 5, 12, [none, none, none, none, none, none, none, none, none, none, none, none]), (46, 7, 4, [some 47, some 48, some 49, some 50])]
def zp_same {α : Type} [DecidableEq α] (f : Nat → α) : Nat → List α → Bool
  | _, [] => true
  | j, v :: vs => decide (f j = v) && zp_same f (j + 1) vs
theorem zp_same_at {α : Type} [DecidableEq α] {f : Nat → α} : ∀ {vs : List α} {j k : Nat} {v : α}, zp_same f j vs = true → vs[k]? = some v → f (j + k) = v
  | [], j, k, v, _, hk => by simp at hk
  | w :: vs, j, 0, v, h, hk => by
    simp only [zp_same, Bool.and_eq_true, decide_eq_true_eq] at h
    simp only [List.getElem?_cons_zero, Option.some.injEq] at hk
    rw [Nat.add_zero, h.1, hk]
  | w :: vs, j, k + 1, v, h, hk => by
    simp only [zp_same, Bool.and_eq_true] at h
    rw [List.getElem?_cons_succ] at hk
    have := zp_same_at h.2 hk
    rw [show j + (k + 1) = j + 1 + k by omega]
    exact this
def zp_co (h : zm_H) (q : Nat × Nat × List Value) : Bool := match h[q.1]? with
  | some (.inr o) => decide (o = q.2)
  | _ => false
def zp_ci (h : zm_H) (q : Nat × Nat × Nat × List Int32) : Bool := match h[q.1]? with
  | some (.inl (t, n, .inl f)) => decide (t = q.2.1) && (decide (n = q.2.2.1) && zp_same f 0 q.2.2.2)
  | _ => false
def zp_cl (h : zm_H) (q : Nat × Nat) : Bool := match h[q.1]? with
  | some (.inl (t, n, .inr (.inl _))) => decide (t = 1) && decide (n = q.2)
  | _ => false
def zp_cr (h : zm_H) (q : Nat × Nat × Nat × List (Option Nat)) : Bool := match h[q.1]? with
  | some (.inl (t, n, .inr (.inr f))) => decide (t = q.2.1) && (decide (n = q.2.2.1) && zp_same f 0 q.2.2.2)
  | _ => false
def zp_ck (h : zm_H) : Bool := decide (h.length = 117) && (decide (zm_szs h = 58452) && (zp_objs.all (zp_co h) && (zp_ints.all (zp_ci h) && (zp_longs.all (zp_cl h) && zp_refs.all (zp_cr h)))))
def zp_ck1 : Bool := match zp_r1 with
  | some (none, h) => decide (h.length = 55)
  | _ => false
def zp_ck2 : Bool := match zp_r2 with
  | some (none, h) => zp_ck h
  | _ => false
set_option maxRecDepth 100000 in
theorem zp_ck1_ok : zp_ck1 = true := by decide +kernel
set_option maxRecDepth 100000 in
theorem zp_ck2_ok : zp_ck2 = true := by decide +kernel
/-- the int array, the long array, the array of references at a place -/
def zp_f (h : zm_H) (k : Nat) : Nat → Int32 := match h[k]? with
  | some (.inl (_, _, .inl f)) => f
  | _ => fun _ => 0
def zp_g (h : zm_H) (k : Nat) : Nat → Int64 := match h[k]? with
  | some (.inl (_, _, .inr (.inl f))) => f
  | _ => fun _ => 0
def zp_q (h : zm_H) (k : Nat) : Nat → Option Nat := match h[k]? with
  | some (.inl (_, _, .inr (.inr f))) => f
  | _ => fun _ => none
theorem zp_len {h : zm_H} (F : zp_ck h = true) : h.length = 117 ∧ zm_szs h = 58452 := by
  unfold zp_ck at F
  simp only [Bool.and_eq_true, decide_eq_true_eq] at F
  exact ⟨F.1, F.2.1⟩
theorem zp_o {h : zm_H} (F : zp_ck h = true) (i : Nat) {k ci : Nat} {fs : List Value} (hi : zp_objs[i]? = some (k, ci, fs)) : h[k]? = some (.inr (ci, fs)) := by
  unfold zp_ck at F
  simp only [Bool.and_eq_true] at F
  have h1 := List.all_eq_true.mp F.2.2.1 _ (List.mem_of_getElem? hi)
  unfold zp_co at h1
  split at h1
  · rename_i o ho
    rw [of_decide_eq_true h1] at ho
    exact ho
  · cases h1
theorem zp_i {h : zm_H} (F : zp_ck h = true) (i : Nat) {k t n : Nat} {vs : List Int32} (hi : zp_ints[i]? = some (k, t, n, vs)) : h[k]? = some (.inl (t, n, .inl (zp_f h k))) := by
  unfold zp_ck at F
  simp only [Bool.and_eq_true] at F
  have h1 := List.all_eq_true.mp F.2.2.2.1 _ (List.mem_of_getElem? hi)
  unfold zp_ci at h1
  split at h1
  · rename_i t2 n2 f ho
    simp only [Bool.and_eq_true, decide_eq_true_eq] at h1
    obtain ⟨rfl, rfl, -⟩ := h1
    dsimp only at ho
    unfold zp_f
    rw [ho]
  · cases h1
theorem zp_iv {h : zm_H} (F : zp_ck h = true) (i : Nat) {k t n j : Nat} {vs : List Int32} {v : Int32} (hi : zp_ints[i]? = some (k, t, n, vs)) (hj : vs[j]? = some v) : zp_f h k j = v := by
  unfold zp_ck at F
  simp only [Bool.and_eq_true] at F
  have h1 := List.all_eq_true.mp F.2.2.2.1 _ (List.mem_of_getElem? hi)
  unfold zp_ci at h1
  split at h1
  · rename_i t2 n2 f ho
    simp only [Bool.and_eq_true, decide_eq_true_eq] at h1
    obtain ⟨rfl, rfl, h2⟩ := h1
    dsimp only at ho
    unfold zp_f
    rw [ho]
    have := zp_same_at h2 hj
    rw [Nat.zero_add] at this
    exact this
  · cases h1
theorem zp_l {h : zm_H} (F : zp_ck h = true) (i : Nat) {k n : Nat} (hi : zp_longs[i]? = some (k, n)) : h[k]? = some (.inl (1, n, .inr (.inl (zp_g h k)))) := by
  unfold zp_ck at F
  simp only [Bool.and_eq_true] at F
  have h1 := List.all_eq_true.mp F.2.2.2.2.1 _ (List.mem_of_getElem? hi)
  unfold zp_cl at h1
  split at h1
  · rename_i t2 n2 f ho
    simp only [Bool.and_eq_true, decide_eq_true_eq] at h1
    obtain ⟨rfl, rfl⟩ := h1
    dsimp only at ho
    unfold zp_g
    rw [ho]
  · cases h1
theorem zp_r {h : zm_H} (F : zp_ck h = true) (i : Nat) {k t n : Nat} {vs : List (Option Nat)} (hi : zp_refs[i]? = some (k, t, n, vs)) : h[k]? = some (.inl (t, n, .inr (.inr (zp_q h k)))) := by
  unfold zp_ck at F
  simp only [Bool.and_eq_true] at F
  have h1 := List.all_eq_true.mp F.2.2.2.2.2 _ (List.mem_of_getElem? hi)
  unfold zp_cr at h1
  split at h1
  · rename_i t2 n2 f ho
    simp only [Bool.and_eq_true, decide_eq_true_eq] at h1
    obtain ⟨rfl, rfl, -⟩ := h1
    dsimp only at ho
    unfold zp_q
    rw [ho]
  · cases h1
theorem zp_rv {h : zm_H} (F : zp_ck h = true) (i : Nat) {k t n j : Nat} {vs : List (Option Nat)} {v : Option Nat} (hi : zp_refs[i]? = some (k, t, n, vs)) (hj : vs[j]? = some v) : zp_q h k j = v := by
  unfold zp_ck at F
  simp only [Bool.and_eq_true] at F
  have h1 := List.all_eq_true.mp F.2.2.2.2.2 _ (List.mem_of_getElem? hi)
  unfold zp_cr at h1
  split at h1
  · rename_i t2 n2 f ho
    simp only [Bool.and_eq_true, decide_eq_true_eq] at h1
    obtain ⟨rfl, rfl, h2⟩ := h1
    dsimp only at ho
    unfold zp_q
    rw [ho]
    have := zp_same_at h2 hj
    rw [Nat.zero_add] at this
    exact this
  · cases h1
/-- the two constructors -/
theorem zp_fresh (og : Nat → Option zm_C) : ∃ h1 h2 : zm_H, h1.length = 55 ∧ zp_ck h2 = true ∧ zm_Y og 10 0 0 [(0, .ref 0)] [] [.inr (10, zm_df 10)] (fun r h => r = none ∧ h = h1) ∧ zm_Y og 10 180 0 [(0, .ref 55)] [] (h1 ++ [.inr (11, zm_df 11)]) (fun r h => r = none ∧ h = h2) := by
  have a := zp_ck1_ok
  have b := zp_ck2_ok
  unfold zp_ck1 at a
  split at a
  · rename_i h1 e1
    unfold zp_ck2 zp_r2 at b
    rw [e1] at b
    dsimp only at b
    split at b
    · rename_i h2 e2
      refine ⟨h1, h2, of_decide_eq_true a, b, ?_, ?_⟩
      · exact zm_Y.old (og := fun _ => none) ⟨2000, none, h1, e1, rfl, rfl⟩ (fun _ _ z => by cases z)
      · exact zm_Y.old (og := fun _ => none) ⟨2000, none, h2, e2, rfl, rfl⟩ (fun _ _ z => by cases z)
    · cases b
  · cases a
