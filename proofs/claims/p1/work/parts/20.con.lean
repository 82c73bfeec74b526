/-! Contracts of what is called again and again -/
theorem zl_emp {x lo hi : Int32} (h : hi < lo) : ¬ zw x lo hi := fun z => by
  have a := Int32.le_trans z.1 z.2
  rw [Int32.le_iff_toInt_le] at a
  rw [Int32.lt_iff_toInt_lt] at h
  omega
theorem zl_lt {x lo hi : Int32} {n : Nat} (h : zw x lo hi) (h0 : 0 ≤ lo) (hn : hi.toNatClampNeg < n) : x.toNatClampNeg < n := by
  obtain ⟨a, b⟩ := h
  rw [Int32.le_iff_toInt_le] at a b h0
  have e1 : x.toNatClampNeg = x.toInt.toNat := rfl
  have e2 : hi.toNatClampNeg = hi.toInt.toNat := rfl
  omega
theorem zl_nn {x lo hi : Int32} (h : zw x lo hi) (h0 : 0 ≤ lo) : ¬ x < 0 := by
  obtain ⟨a, b⟩ := h
  rw [Int32.le_iff_toInt_le] at a h0
  rw [Int32.lt_iff_toInt_lt]
  have e0 : (0 : Int32).toInt = 0 := rfl
  omega
theorem zl_in {x lo hi : Int32} {n : Nat} (h : zw x lo hi) (h0 : 0 ≤ lo) (hn : hi.toNatClampNeg < n) : zm_in x n = true := by
  unfold zm_in
  simp only [Bool.and_eq_true, Bool.not_eq_true', decide_eq_false_iff_not, decide_eq_true_eq]
  exact ⟨zl_nn h h0, zl_lt h h0 hn⟩
theorem zl_4 {x : Int32} (h : zw x 0 3) : x = 0 ∨ x = 1 ∨ x = 2 ∨ x = 3 := by
  obtain ⟨a, b⟩ := h
  rw [Int32.le_iff_toInt_le] at a b
  have e0 : (0 : Int32).toInt = 0 := rfl
  have e3 : (3 : Int32).toInt = 3 := rfl
  have key : ∀ y : Int32, x.toInt = y.toInt → x = y := fun y h => Int32.toInt_inj.mp h
  rcases (show x.toInt = 0 ∨ x.toInt = 1 ∨ x.toInt = 2 ∨ x.toInt = 3 by omega) with h | h | h | h
  · exact Or.inl (key 0 h)
  · exact Or.inr (Or.inl (key 1 h))
  · exact Or.inr (Or.inr (Or.inl (key 2 h)))
  · exact Or.inr (Or.inr (Or.inr (key 3 h)))
theorem zl_10 (x : Int32) : x = 0 ∨ x = 1 ∨ x = 2 ∨ x = 3 ∨ x = 4 ∨ x = 5 ∨ x = 6 ∨ x = 7 ∨ x = 8 ∨ x = 9 ∨ (x.toInt < 0 ∨ 9 < x.toInt) := by
  have key : ∀ y : Int32, x.toInt = y.toInt → x = y := fun y h => Int32.toInt_inj.mp h
  by_cases h : x.toInt < 0 ∨ 9 < x.toInt
  · simp [h]
  · rcases (show x.toInt = 0 ∨ x.toInt = 1 ∨ x.toInt = 2 ∨ x.toInt = 3 ∨ x.toInt = 4 ∨ x.toInt = 5 ∨ x.toInt = 6 ∨ x.toInt = 7 ∨ x.toInt = 8 ∨ x.toInt = 9 by omega) with h | h | h | h | h | h | h | h | h | h
    · simp [key 0 h]
    · simp [key 1 h]
    · simp [key 2 h]
    · simp [key 3 h]
    · simp [key 4 h]
    · simp [key 5 h]
    · simp [key 6 h]
    · simp [key 7 h]
    · simp [key 8 h]
    · simp [key 9 h]
theorem zl_2a {x y : Int32} (h : zw x 0 3) (g : zw y 0 3) : zm_in (x * 4 + y) 16 = true ∧ (x * 4 + y).toNatClampNeg < 16 := by
  rcases zl_4 h with rfl | rfl | rfl | rfl <;> rcases zl_4 g with rfl | rfl | rfl | rfl <;> decide
theorem zl_2b {x y : Int32} (h : zw x 0 3) (g : zw y 0 3) : zm_in (4 * x + y) 16 = true ∧ (4 * x + y).toNatClampNeg < 16 := by
  rcases zl_4 h with rfl | rfl | rfl | rfl <;> rcases zl_4 g with rfl | rfl | rfl | rfl <;> decide
theorem zs_szset {h : zm_H} {a n : Nat} {c c2 : zm_C} (hc : h[a]? = some c) (hs : zm_sz c2 = zm_sz c) (hp : zm_szs h = n) : zm_szs (h.set a c2) = n := by rw [(zm_set_sz hc hs).2]; exact hp
theorem zs_szle {h : zm_H} {a n : Nat} {c c2 : zm_C} (hc : h[a]? = some c) (hs : zm_sz c2 = zm_sz c) (hp : zm_szs h ≤ n) : zm_szs (h.set a c2) ≤ n := by rw [(zm_set_sz hc hs).2]; exact hp
theorem zs_szapp {h g : zm_H} {n m : Nat} (hp : zm_szs h = n) (hm : n + zm_szs g = m) : zm_szs (h ++ g) = m := by rw [zm_szs_app2, hp]; exact hm
theorem zp_iall {h : zm_H} (F : zp_ck h = true) (i : Nat) {k t n : Nat} {vs : List Int32} {v : Int32} (hi : zp_ints[i]? = some (k, t, n, vs)) (hl : vs.length = n) (ha : ∀ w ∈ vs, w = v) {j : Nat} (hj : j < n) : zp_f h k j = v := by
  have hv : vs[j]? = some vs[j] := List.getElem?_eq_getElem (by omega)
  rw [zp_iv F i hi hv]
  exact ha _ (List.getElem_mem _)
theorem zt_out {x : zm_X} {pc t : Nat} {d lo hi : Int} {offs : Array Int} {a : Int32} {st : List Value} (h : a.toInt < lo ∨ hi < a.toInt) (ht : ((pc : Int) + d).toNat = t) : zm_br (.tableswitch d lo hi offs) x pc (.int a :: st) = some (t, st) := by
  simp only [zm_br, zm_tab, if_pos h, ht]
theorem zk_within {og : Nat → Option zm_C} {d : Nat} {h : zm_H} (x lo hi : Int32) : zm_Y og d 10 0 [(0, .int x), (1, .int lo), (2, .int hi)] [] h (fun r h1 => h1 = h ∧ ((r = some (.int 1) ∧ zw x lo hi) ∨ (r = some (.int 0) ∧ ¬ zw x lo hi))) := by
  refine zy_n 2 (mr := zm_m10) (pc' := 2) (ls' := [(0, .int x), (1, .int lo), (2, .int hi)]) (st' := [.int lo, .int x]) rfl rfl ?_
  refine zy_b (mr := zm_m10) rfl rfl rfl (zc_lt (fun hc1 => ?_) (fun hc1 => ?_))
  · skip
    refine zy_n 1 (mr := zm_m10) (pc' := 15) (ls' := [(0, .int x), (1, .int lo), (2, .int hi)]) (st' := [.int 0]) rfl rfl ?_
    refine zy_r (mr := zm_m10) rfl rfl rfl ?_
    refine ⟨rfl, ?_⟩
    exact Or.inr ⟨rfl, fun z => absurd z.1 (Int32.not_le.mpr hc1)⟩
  · skip
    refine zy_n 2 (mr := zm_m10) (pc' := 7) (ls' := [(0, .int x), (1, .int lo), (2, .int hi)]) (st' := [.int hi, .int x]) rfl rfl ?_
    refine zy_b (mr := zm_m10) rfl rfl rfl (zc_gt (fun hc2 => ?_) (fun hc2 => ?_))
    · skip
      refine zy_n 1 (mr := zm_m10) (pc' := 15) (ls' := [(0, .int x), (1, .int lo), (2, .int hi)]) (st' := [.int 0]) rfl rfl ?_
      refine zy_r (mr := zm_m10) rfl rfl rfl ?_
      refine ⟨rfl, ?_⟩
      exact Or.inr ⟨rfl, fun z => absurd z.2 (Int32.not_le.mpr hc2)⟩
    · skip
      refine zy_n 2 (mr := zm_m10) (pc' := 15) (ls' := [(0, .int x), (1, .int lo), (2, .int hi)]) (st' := [.int 1]) rfl rfl ?_
      refine zy_r (mr := zm_m10) rfl rfl rfl ?_
      refine ⟨rfl, ?_⟩
      exact Or.inl ⟨rfl, Int32.not_lt.mp hc1, Int32.not_lt.mp hc2⟩
theorem zw_wide (a b : Int32) : a.toInt64 ≤ b.toInt64 ↔ a ≤ b := by
  rw [Int64.le_iff_toInt_le, Int32.le_iff_toInt_le, Int32.toInt_toInt64, Int32.toInt_toInt64]
theorem zk_in {og : Nat → Option zm_C} {d : Nat} {h : zm_H} (x lo hi : Int32) {lx l u : Int64} (hx : x.toInt64 = lx) (hl : lo.toInt64 = l) (hu : hi.toInt64 = u) : zm_Y og d 183 0 [(0, .long lx), (2, .long l), (4, .long u)] [] h (fun r h1 => h1 = h ∧ ((r = some (.int 1) ∧ zw x lo hi) ∨ (r = some (.int 0) ∧ ¬ zw x lo hi))) := by
  refine zy_n 3 (mr := zm_m183) (pc' := 3) (ls' := [(0, .long lx), (2, .long l), (4, .long u)]) (st' := [.int (lg_cmp lx l)]) rfl rfl ?_
  refine zy_b (mr := zm_m183) rfl rfl rfl (zi_lt (fun hc1 => ?_) (fun hc1 => ?_))
  · skip
    refine zy_n 1 (mr := zm_m183) (pc' := 18) (ls' := [(0, .long lx), (2, .long l), (4, .long u)]) (st' := [.int 0]) rfl rfl ?_
    refine zy_r (mr := zm_m183) rfl rfl rfl ?_
    refine ⟨rfl, ?_⟩
    simp only [lg_cmp_lt, ← hx, ← hl] at hc1
    exact Or.inr ⟨rfl, fun z => absurd ((zw_wide _ _).mpr z.1) (Int64.not_le.mpr hc1)⟩
  · skip
    refine zy_n 3 (mr := zm_m183) (pc' := 10) (ls' := [(0, .long lx), (2, .long l), (4, .long u)]) (st' := [.int (lg_cmp lx u)]) rfl rfl ?_
    refine zy_b (mr := zm_m183) rfl rfl rfl (zi_gt (fun hc2 => ?_) (fun hc2 => ?_))
    · skip
      refine zy_n 1 (mr := zm_m183) (pc' := 18) (ls' := [(0, .long lx), (2, .long l), (4, .long u)]) (st' := [.int 0]) rfl rfl ?_
      refine zy_r (mr := zm_m183) rfl rfl rfl ?_
      refine ⟨rfl, ?_⟩
      simp only [lg_cmp_lt, ← hx, ← hl] at hc1
      simp only [lg_cmp_gt, ← hx, ← hu] at hc2
      exact Or.inr ⟨rfl, fun z => absurd ((zw_wide _ _).mpr z.2) (Int64.not_le.mpr hc2)⟩
    · skip
      refine zy_n 2 (mr := zm_m183) (pc' := 18) (ls' := [(0, .long lx), (2, .long l), (4, .long u)]) (st' := [.int 1]) rfl rfl ?_
      refine zy_r (mr := zm_m183) rfl rfl rfl ?_
      refine ⟨rfl, ?_⟩
      simp only [lg_cmp_lt, ← hx, ← hl] at hc1
      simp only [lg_cmp_gt, ← hx, ← hu] at hc2
      refine Or.inl ⟨rfl, ?_, ?_⟩
      · exact (zw_wide _ _).mp (Int64.not_lt.mp hc1)
      · exact (zw_wide _ _).mp (Int64.not_lt.mp hc2)
theorem zk_filli_loop {og : Nat → Option zm_C} {d a n : Nat} (v : Int32) (hn : n < 2 ^ 31) : ∀ (k i : Nat) (h : zm_H) (f : Nat → Int32), i + k = n → h[a]? = some (.inl (0, n, .inl f)) → (∀ j : Nat, j < i → f j = v) → zm_Y og d 129 5 [(2, .int (nI i)), (3, .int (nI n)), (0, .ref a), (1, .int v)] [] h (fun r h1 => r = none ∧ ∃ g : Nat → Int32, h1 = h.set a (.inl (0, n, .inl g)) ∧ ∀ j : Nat, j < n → g j = v) := by
  intro k
  induction k with
  | zero =>
    intro i h f hik hc hv
    refine zy_n 2 (mr := zm_m129) (pc' := 7) (ls' := [(2, .int (nI i)), (3, .int (nI n)), (0, .ref a), (1, .int v)]) (st' := [.int (nI n), .int (nI i)]) rfl rfl ?_
    refine zy_b (mr := zm_m129) rfl rfl rfl (zc_ge (fun _ => ?_) (fun hc2 => absurd (nI_le (by omega) (by omega)) hc2))
    refine zy_r (mr := zm_m129) rfl rfl rfl ⟨rfl, f, ?_, fun j hj => hv j (by omega)⟩
    exact (List.ext_getElem? (fun j => by
      by_cases hj : j = a
      · subst hj; rw [zs_eq hc, hc]
      · rw [List.getElem?_set_ne (Ne.symm hj)]))
  | succ k ih =>
    intro i h f hik hc hv
    refine zy_n 2 (mr := zm_m129) (pc' := 7) (ls' := [(2, .int (nI i)), (3, .int (nI n)), (0, .ref a), (1, .int v)]) (st' := [.int (nI n), .int (nI i)]) rfl rfl ?_
    refine zy_b (mr := zm_m129) rfl rfl rfl (zc_ge (fun hc2 => absurd hc2 (nI_ge (by omega) (by omega))) (fun _ => ?_))
    refine zy_n 3 (mr := zm_m129) (pc' := 13) (ls' := [(2, .int (nI i)), (3, .int (nI n)), (0, .ref a), (1, .int v)]) (st' := [.int v, .int (nI i), .ref a]) rfl rfl ?_
    have hi : (nI i).toNatClampNeg = i := nI_clamp (by omega)
    refine zy_h (mr := zm_m129) rfl rfl (zh_iast hc (by
      unfold zm_in
      simp only [Bool.and_eq_true, Bool.not_eq_true', decide_eq_false_iff_not, decide_eq_true_eq]
      exact ⟨nI_pos (by omega), by rw [hi]; omega⟩)) ?_
    refine zy_n 2 (mr := zm_m129) (pc' := 5) (ls' := [(2, .int (nI i + 1)), (3, .int (nI n)), (0, .ref a), (1, .int v)]) (st' := []) rfl rfl ?_
    rw [nI_1, hi]
    refine zm_Y.mono (ih (i + 1) _ (upd f i v) (by omega) (zs_eq hc) (fun j hj => ?_)) ?_
    · by_cases hji : j = i
      · subst hji; exact pk_us
      · rw [pk_un hji]; exact hv j (by omega)
    · rintro r h1 ⟨e1, g, e2, e3⟩
      exact ⟨e1, g, by rw [e2, List.set_set], e3⟩
theorem zk_filli {og : Nat → Option zm_C} {d a n : Nat} {h : zm_H} {f : Nat → Int32} (v : Int32) (hc : h[a]? = some (.inl (0, n, .inl f))) (hn : n < 2 ^ 31) : zm_Y og d 129 0 [(0, .ref a), (1, .int v)] [] h (fun r h1 => r = none ∧ ∃ g : Nat → Int32, h1 = h.set a (.inl (0, n, .inl g)) ∧ ∀ j : Nat, j < n → g j = v) := by
  refine zy_n 3 (mr := zm_m129) (pc' := 3) (ls' := [(2, .int 0), (0, .ref a), (1, .int v)]) (st' := [.ref a]) rfl rfl ?_
  refine zy_h (mr := zm_m129) rfl rfl (zh_alen hc) ?_
  refine zy_n 1 (mr := zm_m129) (pc' := 5) (ls' := [(3, .int (nI n)), (2, .int 0), (0, .ref a), (1, .int v)]) (st' := []) rfl rfl ?_
  refine zy_sub [(2, .int (nI 0)), (3, .int (nI n)), (0, .ref a), (1, .int v)] (by simp) (by
    intro q hq
    simp only [List.mem_cons, List.not_mem_nil, or_false] at hq
    rcases hq with rfl | rfl | rfl | rfl <;> rfl) ?_
  exact zk_filli_loop v hn n 0 h f (Nat.zero_add n) hc (fun j hj => absurd hj (Nat.not_lt_zero j))
theorem zk_filll_loop {og : Nat → Option zm_C} {d a n : Nat} (v : Int64) (hn : n < 2 ^ 31) : ∀ (k i : Nat) (h : zm_H) (f : Nat → Int64), i + k = n → h[a]? = some (.inl (1, n, .inr (.inl f))) → (∀ j : Nat, j < i → f j = v) → zm_Y og d 78 6 [(3, .int (nI i)), (4, .int (nI n)), (0, .ref a), (1, .long v)] [] h (fun r h1 => r = none ∧ ∃ g : Nat → Int64, h1 = h.set a (.inl (1, n, .inr (.inl g))) ∧ ∀ j : Nat, j < n → g j = v) := by
  intro k
  induction k with
  | zero =>
    intro i h f hik hc hv
    refine zy_n 2 (mr := zm_m78) (pc' := 9) (ls' := [(3, .int (nI i)), (4, .int (nI n)), (0, .ref a), (1, .long v)]) (st' := [.int (nI n), .int (nI i)]) rfl rfl ?_
    refine zy_b (mr := zm_m78) rfl rfl rfl (zc_ge (fun _ => ?_) (fun hc2 => absurd (nI_le (by omega) (by omega)) hc2))
    refine zy_r (mr := zm_m78) rfl rfl rfl ⟨rfl, f, ?_, fun j hj => hv j (by omega)⟩
    exact (List.ext_getElem? (fun j => by
      by_cases hj : j = a
      · subst hj; rw [zs_eq hc, hc]
      · rw [List.getElem?_set_ne (Ne.symm hj)]))
  | succ k ih =>
    intro i h f hik hc hv
    refine zy_n 2 (mr := zm_m78) (pc' := 9) (ls' := [(3, .int (nI i)), (4, .int (nI n)), (0, .ref a), (1, .long v)]) (st' := [.int (nI n), .int (nI i)]) rfl rfl ?_
    refine zy_b (mr := zm_m78) rfl rfl rfl (zc_ge (fun hc2 => absurd hc2 (nI_ge (by omega) (by omega))) (fun _ => ?_))
    refine zy_n 3 (mr := zm_m78) (pc' := 15) (ls' := [(3, .int (nI i)), (4, .int (nI n)), (0, .ref a), (1, .long v)]) (st' := [.long v, .int (nI i), .ref a]) rfl rfl ?_
    have hi : (nI i).toNatClampNeg = i := nI_clamp (by omega)
    refine zy_h (mr := zm_m78) rfl rfl (zh_last hc (by
      unfold zm_in
      simp only [Bool.and_eq_true, Bool.not_eq_true', decide_eq_false_iff_not, decide_eq_true_eq]
      exact ⟨nI_pos (by omega), by rw [hi]; omega⟩)) ?_
    refine zy_n 2 (mr := zm_m78) (pc' := 6) (ls' := [(3, .int (nI i + 1)), (4, .int (nI n)), (0, .ref a), (1, .long v)]) (st' := []) rfl rfl ?_
    rw [nI_1, hi]
    refine zm_Y.mono (ih (i + 1) _ (vp_updL f i v) (by omega) (zs_eq hc) (fun j hj => ?_)) ?_
    · by_cases hji : j = i
      · subst hji; exact pk_uLs
      · rw [pk_uLn hji]; exact hv j (by omega)
    · rintro r h1 ⟨e1, g, e2, e3⟩
      exact ⟨e1, g, by rw [e2, List.set_set], e3⟩
theorem zk_filll {og : Nat → Option zm_C} {d a n : Nat} {h : zm_H} {f : Nat → Int64} (v : Int64) (hc : h[a]? = some (.inl (1, n, .inr (.inl f)))) (hn : n < 2 ^ 31) : zm_Y og d 78 0 [(0, .ref a), (1, .long v)] [] h (fun r h1 => r = none ∧ ∃ g : Nat → Int64, h1 = h.set a (.inl (1, n, .inr (.inl g))) ∧ ∀ j : Nat, j < n → g j = v) := by
  refine zy_n 3 (mr := zm_m78) (pc' := 3) (ls' := [(3, .int 0), (0, .ref a), (1, .long v)]) (st' := [.ref a]) rfl rfl ?_
  refine zy_h (mr := zm_m78) rfl rfl (zh_alen hc) ?_
  refine zy_n 1 (mr := zm_m78) (pc' := 6) (ls' := [(4, .int (nI n)), (3, .int 0), (0, .ref a), (1, .long v)]) (st' := []) rfl rfl ?_
  refine zy_sub [(3, .int (nI 0)), (4, .int (nI n)), (0, .ref a), (1, .long v)] (by simp) (by
    intro q hq
    simp only [List.mem_cons, List.not_mem_nil, or_false] at hq
    rcases hq with rfl | rfl | rfl | rfl <;> rfl) ?_
  exact zk_filll_loop v hn n 0 h f (Nat.zero_add n) hc (fun j hj => absurd hj (Nat.not_lt_zero j))
theorem zk_route {og : Nat → Option zm_C} {d A : Nat} {h : zm_H} {g : Nat → Int64} {fs : List Value} {Q : Option Value → zm_H → Prop} (a1 a2 : Int32) (ha : zw a2 0 500) (hr : h[0]? = some (.inr (10, fs))) (hf : fs[14]? = some (.ref A)) (hc : h[A]? = some (.inl (1, 501, .inr (.inl g)))) (h0 : g 0 = 0) (hm : ∀ j : Nat, 0 < j → j < 501 → g j = -1) (K : zm_Y og d 128 148 [(3, .int 0), (0, .ref 0), (1, .int a1), (2, .int a2)] [] h Q) : zm_Y og d 128 116 [(4, .int 1), (3, .int 0), (0, .ref 0), (1, .int a1), (2, .int a2)] [] h Q := by
  have key : ∀ (k m : Nat), m + k = 501 → 0 < m → zm_Y og d 128 116 [(4, .int (nI m)), (3, .int 0), (0, .ref 0), (1, .int a1), (2, .int a2)] [] h Q := by
    have out : ∀ m : Nat, zm_Y og d 128 148 [(4, .int (nI m)), (3, .int 0), (0, .ref 0), (1, .int a1), (2, .int a2)] [] h Q := fun m => zy_sub _ (by simp) (by
      intro q hq
      simp only [List.mem_cons, List.not_mem_nil, or_false] at hq
      rcases hq with rfl | rfl | rfl | rfl <;> rfl) K
    intro k
    induction k with
    | zero =>
      intro m hmk hm0
      refine zy_n 2 (mr := zm_m128) (pc' := 119) (ls' := [(4, .int (nI m)), (3, .int 0), (0, .ref 0), (1, .int a1), (2, .int a2)]) (st' := [.int a2, .int (nI m)]) rfl rfl ?_
      refine zy_b (mr := zm_m128) rfl rfl rfl (zc_gt (fun _ => out m) (fun hc2 => absurd ?_ hc2))
      have h2 := ha.2
      rw [Int32.le_iff_toInt_le] at h2
      rw [Int32.lt_iff_toInt_lt, nI_toInt (by omega)]
      have e : (500 : Int32).toInt = 500 := rfl
      omega
    | succ k ih =>
      intro m hmk hm0
      refine zy_n 2 (mr := zm_m128) (pc' := 119) (ls' := [(4, .int (nI m)), (3, .int 0), (0, .ref 0), (1, .int a1), (2, .int a2)]) (st' := [.int a2, .int (nI m)]) rfl rfl ?_
      refine zy_b (mr := zm_m128) rfl rfl rfl (zc_gt (fun _ => out m) (fun _ => ?_))
      refine zy_n 1 (mr := zm_m128) (pc' := 123) (ls' := [(4, .int (nI m)), (3, .int 0), (0, .ref 0), (1, .int a1), (2, .int a2)]) (st' := [.ref 0]) rfl rfl ?_
      refine zy_h (mr := zm_m128) rfl rfl (zh_get (v := .ref A) hr hf) ?_
      refine zy_n 1 (mr := zm_m128) (pc' := 128) (ls' := [(4, .int (nI m)), (3, .int 0), (0, .ref 0), (1, .int a1), (2, .int a2)]) (st' := [.int (nI m), .ref A]) rfl rfl ?_
      have hi : (nI m).toNatClampNeg = m := nI_clamp (by omega)
      refine zy_h (mr := zm_m128) rfl rfl (zh_lald (v := -1) hc (by
        unfold zm_in
        simp only [Bool.and_eq_true, Bool.not_eq_true', decide_eq_false_iff_not, decide_eq_true_eq]
        exact ⟨nI_pos (by omega), by rw [hi]; omega⟩) (by rw [hi]; exact hm m hm0 (by omega))) ?_
      refine zy_n 1 (mr := zm_m128) (pc' := 130) (ls' := [(4, .int (nI m)), (3, .int 0), (0, .ref 0), (1, .int a1), (2, .int a2)]) (st' := [.ref 0, .long (-1)]) rfl rfl ?_
      refine zy_h (mr := zm_m128) rfl rfl (zh_get (v := .ref A) hr hf) ?_
      refine zy_n 1 (mr := zm_m128) (pc' := 134) (ls' := [(4, .int (nI m)), (3, .int 0), (0, .ref 0), (1, .int a1), (2, .int a2)]) (st' := [.int 0, .ref A, .long (-1)]) rfl rfl ?_
      refine zy_h (mr := zm_m128) rfl rfl (zh_lald (v := 0) hc (by decide) h0) ?_
      refine zy_n 1 (mr := zm_m128) (pc' := 136) (ls' := [(4, .int (nI m)), (3, .int 0), (0, .ref 0), (1, .int a1), (2, .int a2)]) (st' := [.int (lg_cmp (-1) 0)]) rfl rfl ?_
      refine zy_b (mr := zm_m128) rfl rfl rfl (zi_le (a := lg_cmp (-1) 0) (t := 142) (f := 139) (fun _ => ?_) (fun hc2 => absurd ((lg_cmp_le (-1) 0).mpr (by decide)) hc2))
      refine zy_n 2 (mr := zm_m128) (pc' := 116) (ls' := [(4, .int (nI m + 1)), (3, .int 0), (0, .ref 0), (1, .int a1), (2, .int a2)]) (st' := []) rfl rfl ?_
      rw [nI_1]
      exact ih (m + 1) (by omega) (by omega)
  exact key 500 1 (by omega) (by omega)
theorem zh_v {j k n c b : Nat} {w : Value} {ps : List Nat} {rest st : List Value} {h : zm_H} {fs : List Value} (hd : st.drop n = .ref b :: rest) (hb : h[b]? = some (.inr (c, fs))) (hc : Nat.ble (zm_cat rest) 8 = true) : zm_call (.invokevirtual j) (k, n, c, w, ps) st h = some (k, .ref b :: (st.take n).reverse, rest) := by
  simp only [zm_call, hd, hb, hc, Nat.beq_refl, Bool.and_true, cond_true]
section ZSE
variable {h h2 g : zm_H} {a b k n m : Nat} {c x : zm_C}
theorem zs_neE (e : h2 = h.set a x) (hb : h[b]? = some c) (hn : a ≠ b) : h2[b]? = some c := by rw [e]; exact zs_ne hb hn
theorem zs_eqE (e : h2 = h.set a x) (hb : h[a]? = some c) : h2[a]? = some x := by rw [e]; exact zs_eq hb
theorem zs_appE (e : h2 = h ++ g) (hb : h[b]? = some c) : h2[b]? = some c := by rw [e]; exact zs_app hb
theorem zs_newE (e : h2 = h ++ g) (hl : h.length = n) (hg : g[k]? = some c) : h2[n + k]? = some c := by rw [e]; exact zs_new hl hg
theorem zs_lsetE (e : h2 = h.set a x) (hl : h.length = n) : h2.length = n := by rw [e]; exact zs_lset hl
theorem zs_lappE (e : h2 = h ++ g) (hl : h.length = n) (hg : n + g.length = m) : h2.length = m := by rw [e]; exact zs_lapp hl hg
theorem zs_lleE (e : h2 = h.set a x) (hl : h.length ≤ n) : h2.length ≤ n := by rw [e, List.length_set]; exact hl
theorem zs_szsetE {w : Nat} (e : h2 = h.set a x) (hc : h[a]? = some c) (hs : zm_sz x = w) (hs2 : zm_sz c = w) (hp : zm_szs h = n) : zm_szs h2 = n := by rw [e]; exact zs_szset hc (hs.trans hs2.symm) hp
theorem zs_szleE {w : Nat} (e : h2 = h.set a x) (hc : h[a]? = some c) (hs : zm_sz x = w) (hs2 : zm_sz c = w) (hp : zm_szs h ≤ n) : zm_szs h2 ≤ n := by rw [e]; exact zs_szle hc (hs.trans hs2.symm) hp
theorem zs_szappE (e : h2 = h ++ g) (hp : zm_szs h = n) (hm : n + zm_szs g = m) : zm_szs h2 = m := by rw [e]; exact zs_szapp hp hm
theorem zs_kE (e : h2 = h.set a x) (hn : a ≠ k) : h2[k]? = h[k]? := by rw [e]; exact List.getElem?_set_ne hn
theorem zs_kappE (e : h2 = h ++ g) (hl : h.length = n) (hk : k < n) : h2[k]? = h[k]? := by rw [e]; exact List.getElem?_append_left (by rw [hl]; exact hk)
end ZSE
theorem zy_hE {og : Nat → Option zm_C} {d mi pc : Nat} {ls : zm_L} {st st' : List Value} {h h' : zm_H} {Q : Option Value → zm_H → Prop} {mr : zm_M} {i : Jvm.ClassFile.Instr × Nat × zm_X} (hP : zm_P mi = some mr) (ha : zm_at mr.2 pc = some i) (hp : zm_hp zm_df og i.1 i.2.2 st h = some (st', h')) (k : ∀ h2 : zm_H, h2 = h' → zm_Y og d mi (pc + i.2.1) ls st' h2 Q) : zm_Y og d mi pc ls st h Q := zy_h hP ha hp (k h' rfl)
theorem zy_hS (x : zm_C) {og : Nat → Option zm_C} {d mi pc a : Nat} {ls : zm_L} {st st' : List Value} {h : zm_H} {Q : Option Value → zm_H → Prop} {mr : zm_M} {i : Jvm.ClassFile.Instr × Nat × zm_X} (hP : zm_P mi = some mr) (ha : zm_at mr.2 pc = some i) (hp : zm_hp zm_df og i.1 i.2.2 st h = some (st', h.set a x)) (k : ∀ h2 : zm_H, h2 = h.set a x → zm_Y og d mi (pc + i.2.1) ls st' h2 Q) : zm_Y og d mi pc ls st h Q := zy_h hP ha hp (k _ rfl)
