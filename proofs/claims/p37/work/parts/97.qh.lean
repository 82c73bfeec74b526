/-! Tools for the hands: a cell at a time -/
/-- places: fields (0, cell, field), elements (1, cell, place) -/
def xag (S : List (Nat × Nat × Nat)) (h h' : zm_H) : Prop := (∀ (b g : Nat) (v : Value), (0, b, g) ∉ S → xfd h b g = some v → xfd h' b g = some v) ∧ ∀ (b j : Nat) (v : Value), (1, b, j) ∉ S → xar h b j = some v → xar h' b j = some v
section XHK
variable {og : Nat → Option zm_C} {τ : List Nat} {h h1 h2 : zm_H}
theorem xag_refl : xag [] h h := ⟨fun _ _ _ _ e => e, fun _ _ _ _ e => e⟩
theorem xag_trans {S T : List (Nat × Nat × Nat)} (a : xag S h h1) (b : xag T h1 h2) : xag (T ++ S) h h2 :=
  ⟨fun p g v k e => b.1 p g v (fun z => k (List.mem_append_left _ z)) (a.1 p g v (fun z => k (List.mem_append_right _ z)) e), fun p g v k e => b.2 p g v (fun z => k (List.mem_append_left _ z)) (a.2 p g v (fun z => k (List.mem_append_right _ z)) e)⟩
theorem xar_of {a kd n i t : Nat} {js : List xJ} {v : Value} (hH : xHI xKT xSG τ h) (ht : τ[a]? = some kd) (hk : xKT kd = some (.inr (t, n, js))) (hv : xar h a i = some v) : ∃ k, h[a]? = some (.inl (t, n, k)) ∧ xka t k ∧ i < n ∧ zm_kv k i = v := by
  obtain ⟨k, h1, h2, -⟩ := xcf_a hH ht hk
  have h1 : h[a]? = some (.inl (t, n, k)) := h1
  unfold xar at hv
  rw [h1] at hv
  have hv : (if i < n then some (zm_kv k i) else none) = some v := hv
  by_cases hi : i < n
  · rw [if_pos hi] at hv
    exact ⟨k, h1, h2, hi, Option.some.inj hv⟩
  · rw [if_neg hi] at hv
    cases hv
theorem xHI_up3 {a kd n : Nat} {js : List xJ} {f : Nat → Int32} {j : Nat} {v : Int32} {q : xJ} (hH : xHI xKT xSG τ h) (ht : τ[a]? = some kd) (hk : xKT kd = some (.inr (3, n, js))) (hh : h[a]? = some (.inl (3, n, .inl f))) (hq : q ∈ js) (hs : xsat τ q.1 (.int v)) (hj : xjok q j) : xHI xKT xSG τ (h.set a (.inl (3, n, .inl (upd f j v)))) := by
  obtain ⟨k, h1, h2, h3⟩ := xcf_a hH ht hk
  rw [hh] at h1
  cases h1
  refine xHI_set hH hh ht hk ⟨.inl (upd f j v), rfl, ⟨_, rfl⟩, fun i hi => ?_⟩
  by_cases e : i = j
  · subst e
    refine ⟨q, hq, ?_, hj⟩
    show xsat τ q.1 (.int (if i = i then v else f i))
    rw [if_pos rfl]
    exact hs
  · obtain ⟨q2, b1, b2, b3⟩ := h3 i hi
    refine ⟨q2, b1, ?_, b3⟩
    show xsat τ q2.1 (.int (if i = j then v else f i))
    rw [if_neg e]
    exact b2
theorem xag_o {v : Value} {a ci f : Nat} {fs : List Value} (hh : h[a]? = some (.inr (ci, fs))) : xag [(0, a, f)] h (h.set a (.inr (ci, fs.set f v))) := by
  refine ⟨fun b g v hb e => ?_, fun b m v _ e => ?_⟩
  · rw [xfd_set hh ?_]
    · exact e
    · by_cases e : b = a
      · right
        rintro rfl
        subst e
        exact hb List.mem_cons_self
      · exact Or.inl e
  · unfold xar at e ⊢
    rw [xgs hh]
    by_cases e2 : a = b
    · subst e2
      rw [hh] at e
      cases e
    · rw [if_neg e2]
      exact e
theorem xag_a {a t n i : Nat} {k k' : zm_K} (hh : h[a]? = some (.inl (t, n, k))) (hk : ∀ m, m < n → m ≠ i → zm_kv k' m = zm_kv k m) : xag [(1, a, i)] h (h.set a (.inl (t, n, k'))) := by
  refine ⟨fun b g v _ e => by rw [xfd_seta hh]; exact e, fun b m v hb e => ?_⟩
  unfold xar at e ⊢
  rw [xgs hh]
  by_cases e2 : a = b
  · subst e2
    rw [hh] at e
    rw [if_pos rfl]
    have e : (if m < n then some (zm_kv k m) else none) = some v := e
    show (if m < n then some (zm_kv k' m) else none) = some v
    by_cases hm : m < n
    · rw [if_pos hm] at e
      rw [if_pos hm, hk m hm (fun z => hb (by rw [z]; exact List.mem_cons_self))]
      exact e
    · rw [if_neg hm] at e
      cases e
  · rw [if_neg e2]
    exact e
variable {d mi pc a kd ci f ix len c n i : Nat} {sps : List (List xA)} {sp : List xA} {js : List xJ} {v w : Value} {ps : List Nat} {mr : zm_M} {ls : zm_L} {st : List Value} {Q : Option Value → zm_H → Prop} {x : zm_X} {q : xJ} {j z : Int32}
/-- a field is read -/
theorem zk_get (hP : zm_P mi = some mr) (ha : zm_at mr.2 pc = some (.getfield ix, len, (ci, f, c, w, ps))) (hH : xHI xKT xSG τ h) (ht : τ[a]? = some kd) (hk : xKT kd = some (.inl (ci, sps))) (hv : xfd h a f = some v) (kk : zm_Y og d mi (pc + len) ls (v :: st) h Q) : zm_Y og d mi pc ls (.ref a :: st) h Q := by
  obtain ⟨fs, h1, -, -⟩ := xcf_o hH ht hk
  exact zy_h hP ha (zh_get h1 (xfd_obj h1 hv)) kk
theorem zk_ild (hP : zm_P mi = some mr) (ha : zm_at mr.2 pc = some (.iaload, len, x)) (hH : xHI xKT xSG τ h) (ht : τ[a]? = some kd) (hk : xKT kd = some (.inr (0, n, js))) (hv : xar h a i = some (.int z)) (hj : j.toInt = (i : Int)) (kk : zm_Y og d mi (pc + len) ls (.int z :: st) h Q) : zm_Y og d mi pc ls (.int j :: .ref a :: st) h Q := by
  obtain ⟨k, h1, ⟨f, rfl⟩, hi, hz⟩ := xar_of hH ht hk hv
  have hin := xin_ok (j := j) (n := n) (by omega) (by omega)
  have e : j.toNatClampNeg = i := by have := hin.2.1; omega
  have hz : Value.int (f i) = .int z := hz
  cases hz
  exact zy_h hP ha (zh_iald h1 hin.1 (by rw [e])) kk
theorem zk_zld (hP : zm_P mi = some mr) (ha : zm_at mr.2 pc = some (.baload, len, x)) (hH : xHI xKT xSG τ h) (ht : τ[a]? = some kd) (hk : xKT kd = some (.inr (3, n, js))) (hv : xar h a i = some (.int z)) (hj : j.toInt = (i : Int)) (kk : zm_Y og d mi (pc + len) ls (.int z :: st) h Q) : zm_Y og d mi pc ls (.int j :: .ref a :: st) h Q := by
  obtain ⟨k, h1, ⟨f, rfl⟩, hi, hz⟩ := xar_of hH ht hk hv
  have hin := xin_ok (j := j) (n := n) (by omega) (by omega)
  have e : j.toNatClampNeg = i := by have := hin.2.1; omega
  have hz : Value.int (f i) = .int z := hz
  cases hz
  exact zy_h hP ha (zh_zald h1 rfl hin.1 (by rw [e])) kk
theorem zk_ald {b t : Nat} (hP : zm_P mi = some mr) (ha : zm_at mr.2 pc = some (.aaload, len, x)) (hH : xHI xKT xSG τ h) (ht : τ[a]? = some kd) (hk : xKT kd = some (.inr (t, n, js))) (h4 : (Nat.ble 4 t && Nat.ble t 7) = true) (hv : xar h a i = some (.ref b)) (hj : j.toInt = (i : Int)) (kk : zm_Y og d mi (pc + len) ls (.ref b :: st) h Q) : zm_Y og d mi pc ls (.int j :: .ref a :: st) h Q := by
  obtain ⟨k, h1, h2, hi, hz⟩ := xar_of hH ht hk hv
  have hin := xin_ok (j := j) (n := n) (by omega) (by omega)
  have e : j.toNatClampNeg = i := by have := hin.2.1; omega
  obtain ⟨f, rfl⟩ : ∃ f, k = .inr (.inr f) := by
    rcases k with f | f | f
    · cases hz
    · cases hz
    · exact ⟨f, rfl⟩
  have hz : va_rf (f i) = .ref b := hz
  refine zy_h hP ha (zh_aald (v := f i) h1 h4 hin.1 (by rw [e])) ?_
  rw [hz]
  exact kk
/-- a field is written -/
theorem zk_put (hP : zm_P mi = some mr) (ha : zm_at mr.2 pc = some (.putfield ix, len, (ci, f, c, w, ps))) (hH : xHI xKT xSG τ h) (hX : xX τ h) (ht : τ[a]? = some kd) (hk : xKT kd = some (.inl (ci, sps))) (hpr : xPRf kd f = false) (hs : sps[f]? = some sp) (ho : zm_okv (zm_ft ci f) v = true) (hv : ∃ x ∈ sp, xsat τ x v) (kk : ∀ h', xHI xKT xSG τ h' → xX τ h' → xW h' = xW h → xfd h' a f = some v → xag [(0, a, f)] h h' → (∀ ms, xms ms kd f = true → xF (xms ms) τ h τ h') → zm_Y og d mi (pc + len) ls st h' Q) : zm_Y og d mi pc ls (v :: .ref a :: st) h Q := by
  obtain ⟨fs, h1, h2, -⟩ := xcf_o hH ht hk
  have h1 : h[a]? = some (.inr (ci, fs)) := h1
  have hl : f < fs.length := by
    rw [h2]
    exact (List.getElem?_eq_some_iff.mp hs).1
  have hx := xXW_ok.1 τ h a kd ci f fs v hX ht hpr h1 hl
  refine zy_h hP ha (zh_put h1 (Nat.blt_eq.mpr hl) ho) (kk _ (xHI_setf hH ht hk h1 (fun sp' e => ?_)) hx.1 hx.2 ?_ (xag_o h1) (fun ms hm => xF_setf ht hm h1))
  · rw [hs] at e
    cases e
    exact hv
  · unfold xfd
    rw [zs_eq h1]
    exact List.getElem?_set_self hl
theorem zk_ist (hP : zm_P mi = some mr) (ha : zm_at mr.2 pc = some (.iastore, len, x)) (hH : xHI xKT xSG τ h) (hX : xX τ h) (ht : τ[a]? = some kd) (hk : xKT kd = some (.inr (0, n, js))) (hpr : xPRf kd 0 = false) (hj : j.toInt = (i : Int)) (hi : i < n) (hq : q ∈ js) (hs : xsat τ q.1 (.int z)) (ho : xjok q i) (kk : ∀ h', xHI xKT xSG τ h' → xX τ h' → xW h' = xW h → xar h' a i = some (.int z) → xag [(1, a, i)] h h' → (∀ ms, xms ms kd 0 = true → xF (xms ms) τ h τ h') → zm_Y og d mi (pc + len) ls st h' Q) : zm_Y og d mi pc ls (.int z :: .int j :: .ref a :: st) h Q := by
  obtain ⟨k, h1, ⟨f, rfl⟩, -⟩ := xcf_a hH ht hk
  have h1 : h[a]? = some (.inl (0, n, .inl f)) := h1
  have hin := xin_ok (j := j) (n := n) (by omega) (by omega)
  have e : j.toNatClampNeg = i := by have := hin.2.1; omega
  have hx := xXW_ok.2.1 τ h a kd 0 n (.inl f) (.inl (upd f i z)) hX ht hpr h1
  refine zy_h hP ha (zh_iast h1 hin.1) ?_
  rw [e]
  refine kk _ (xHI_up hH ht hk h1 hq hs ho) hx.1 hx.2 ?_ (xag_a h1 (fun m _ hne => ?_)) (fun ms hm => xF_a ht hm h1)
  · unfold xar
    rw [zs_eq h1]
    show (if i < n then some (Value.int (if i = i then z else f i)) else none) = _
    rw [if_pos hi, if_pos rfl]
  · show Value.int (if m = i then z else f m) = .int (f m)
    rw [if_neg hne]
theorem zk_zst (hP : zm_P mi = some mr) (ha : zm_at mr.2 pc = some (.bastore, len, x)) (hH : xHI xKT xSG τ h) (hX : xX τ h) (ht : τ[a]? = some kd) (hk : xKT kd = some (.inr (3, n, js))) (hpr : xPRf kd 0 = false) (hj : j.toInt = (i : Int)) (hi : i < n) (hz : z &&& 1 = z) (hq : q ∈ js) (hs : xsat τ q.1 (.int z)) (ho : xjok q i) (kk : ∀ h', xHI xKT xSG τ h' → xX τ h' → xW h' = xW h → xar h' a i = some (.int z) → xag [(1, a, i)] h h' → (∀ ms, xms ms kd 0 = true → xF (xms ms) τ h τ h') → zm_Y og d mi (pc + len) ls st h' Q) : zm_Y og d mi pc ls (.int z :: .int j :: .ref a :: st) h Q := by
  obtain ⟨k, h1, ⟨f, rfl⟩, -⟩ := xcf_a hH ht hk
  have h1 : h[a]? = some (.inl (3, n, .inl f)) := h1
  have hin := xin_ok (j := j) (n := n) (by omega) (by omega)
  have e : j.toNatClampNeg = i := by have := hin.2.1; omega
  have hx := xXW_ok.2.1 τ h a kd 3 n (.inl f) (.inl (upd f i z)) hX ht hpr h1
  refine zy_h hP ha (zh_zast h1 hin.1) ?_
  rw [e, hz]
  refine kk _ (xHI_up3 hH ht hk h1 hq hs ho) hx.1 hx.2 ?_ (xag_a h1 (fun m _ hne => ?_)) (fun ms hm => xF_a ht hm h1)
  · unfold xar
    rw [zs_eq h1]
    show (if i < n then some (Value.int (if i = i then z else f i)) else none) = _
    rw [if_pos hi, if_pos rfl]
  · show Value.int (if m = i then z else f m) = .int (f m)
    rw [if_neg hne]
/-- within -/
theorem zh_withinE {d : Nat} {a lo hi : Int32} : zm_Y og d 10 0 [(0, .int a), (1, .int lo), (2, .int hi)] [] h (fun r h' => h' = h ∧ r = some (.int (if lo.toInt ≤ a.toInt ∧ a.toInt ≤ hi.toInt then 1 else 0))) := by
  refine zy_n 2 (mr := zm_m10) rfl rfl ?_
  refine zy_b (mr := zm_m10) rfl rfl rfl ?_
  refine zc_lt (fun h1 => ?_) (fun h1 => ?_)
  · refine zy_n 1 (mr := zm_m10) rfl rfl ?_
    have h1 := Int32.lt_iff_toInt_lt.mp h1
    rw [if_neg (by omega)]
    exact zy_r (mr := zm_m10) rfl rfl rfl ⟨rfl, rfl⟩
  · have h1 := Int32.le_iff_toInt_le.mp (Int32.not_lt.mp h1)
    refine zy_n 2 (mr := zm_m10) rfl rfl ?_
    refine zy_b (mr := zm_m10) rfl rfl rfl ?_
    refine zc_gt (fun h2 => ?_) (fun h2 => ?_)
    · refine zy_n 1 (mr := zm_m10) rfl rfl ?_
      have h2 := Int32.lt_iff_toInt_lt.mp h2
      rw [if_neg (by omega)]
      exact zy_r (mr := zm_m10) rfl rfl rfl ⟨rfl, rfl⟩
    · have h2 := Int32.le_iff_toInt_le.mp (Int32.not_lt.mp h2)
      refine zy_n 2 (mr := zm_m10) rfl rfl ?_
      rw [if_pos ⟨h1, h2⟩]
      exact zy_r (mr := zm_m10) rfl rfl rfl ⟨rfl, rfl⟩
theorem xlgc (a b : Int64) : (lg_cmp a b < 0 ↔ a.toInt < b.toInt) ∧ (0 < lg_cmp a b ↔ b.toInt < a.toInt) := by
  have e : a.toInt + Int.negSucc 0 * b.toInt = a.toInt - b.toInt := by
    show a.toInt + (-1) * b.toInt = _
    omega
  rw [xcmp_sgn, e]
  unfold xsgn
  by_cases h1 : a.toInt - b.toInt < 0
  · rw [if_pos h1]
    exact ⟨⟨fun _ => by omega, fun _ => by decide⟩, ⟨fun z => absurd z (by decide), fun _ => by omega⟩⟩
  · rw [if_neg h1]
    by_cases h2 : a.toInt - b.toInt = 0
    · rw [if_pos h2]
      exact ⟨⟨fun z => absurd z (by decide), fun _ => by omega⟩, ⟨fun z => absurd z (by decide), fun _ => by omega⟩⟩
    · rw [if_neg h2]
      exact ⟨⟨fun z => absurd z (by decide), fun _ => by omega⟩, ⟨fun _ => by omega, fun _ => by decide⟩⟩
/-- in -/
theorem zh_minE {d : Nat} {a lo hi : Int64} : zm_Y og d 183 0 [(0, .long a), (2, .long lo), (4, .long hi)] [] h (fun r h' => h' = h ∧ r = some (.int (if lo.toInt ≤ a.toInt ∧ a.toInt ≤ hi.toInt then 1 else 0))) := by
  refine zy_n 3 (mr := zm_m183) rfl rfl ?_
  refine zy_b (mr := zm_m183) rfl rfl rfl ?_
  refine zi_lt (fun h1 => ?_) (fun h1 => ?_)
  · refine zy_n 1 (mr := zm_m183) rfl rfl ?_
    have h1 := (xlgc _ _).1.mp h1
    rw [if_neg (by omega)]
    exact zy_r (mr := zm_m183) rfl rfl rfl ⟨rfl, rfl⟩
  · have h1 : ¬ a.toInt < lo.toInt := fun z => h1 ((xlgc _ _).1.mpr z)
    refine zy_n 3 (mr := zm_m183) rfl rfl ?_
    refine zy_b (mr := zm_m183) rfl rfl rfl ?_
    refine zi_gt (fun h2 => ?_) (fun h2 => ?_)
    · refine zy_n 1 (mr := zm_m183) rfl rfl ?_
      have h2 := (xlgc _ _).2.mp h2
      rw [if_neg (by omega)]
      exact zy_r (mr := zm_m183) rfl rfl rfl ⟨rfl, rfl⟩
    · have h2 : ¬ hi.toInt < a.toInt := fun z => h2 ((xlgc _ _).2.mpr z)
      refine zy_n 2 (mr := zm_m183) rfl rfl ?_
      rw [if_pos ⟨by omega, by omega⟩]
      exact zy_r (mr := zm_m183) rfl rfl rfl ⟨rfl, rfl⟩
/-- calls of the class and of the model -/
theorem zk_cx {k m n : Nat} {w : Value} {ps : List Nat} {A rest : List Value} (hH : xHI xKT xSG τ h) (hn : A.length = n) (hr : Nat.ble (zm_cat rest) 16 = true) : zm_call (.invokevirtual k) (m, n, 10, w, ps) (A.reverse ++ .ref 0 :: rest) h = some (m, .ref 0 :: A, rest) := by
  obtain ⟨fs, v, h1, -⟩ := xfo (f := 1) (k := 0) hH rfl rfl rfl
  have h1 : h[0]? = some (.inr (10, fs)) := h1
  have e1 : (A.reverse ++ .ref 0 :: rest).drop n = .ref 0 :: rest := by rw [← hn, ← List.length_reverse (as := A), List.drop_left]
  have e2 : (A.reverse ++ .ref 0 :: rest).take n = A.reverse := by rw [← hn, ← List.length_reverse (as := A), List.take_left]
  simp only [zm_call, e1, e2, h1, hr, Nat.beq_refl, Bool.and_self, cond_true, List.reverse_reverse]
theorem zk_cm {k m n : Nat} {w : Value} {ps : List Nat} {A rest : List Value} (hH : xHI xKT xSG τ h) (hn : A.length = n) (hr : Nat.ble (zm_cat rest) 16 = true) : zm_call (.invokevirtual k) (m, n, 11, w, ps) (A.reverse ++ .ref 55 :: rest) h = some (m, .ref 55 :: A, rest) := by
  obtain ⟨fs, h1⟩ := xo55 hH
  have e1 : (A.reverse ++ .ref 55 :: rest).drop n = .ref 55 :: rest := by rw [← hn, ← List.length_reverse (as := A), List.drop_left]
  have e2 : (A.reverse ++ .ref 55 :: rest).take n = A.reverse := by rw [← hn, ← List.length_reverse (as := A), List.take_left]
  simp only [zm_call, e1, e2, h1, hr, Nat.beq_refl, Bool.and_self, cond_true, List.reverse_reverse]
/-- calls of a singleton of any class -/
theorem zk_co {a ci k m n : Nat} {sps : List (List xA)} {w : Value} {ps : List Nat} {A rest : List Value} (hH : xHI xKT xSG τ h) (hs : xSG a = true) (hk : xKT a = some (.inl (ci, sps))) (hn : A.length = n) (hr : Nat.ble (zm_cat rest) 16 = true) : zm_call (.invokevirtual k) (m, n, ci, w, ps) (A.reverse ++ .ref a :: rest) h = some (m, .ref a :: A, rest) := by
  obtain ⟨fs, h1, -, -⟩ := xcf_o hH (hH.2.2 a hs) hk
  have h1 : h[a]? = some (.inr (ci, fs)) := h1
  have e1 : (A.reverse ++ .ref a :: rest).drop n = .ref a :: rest := by rw [← hn, ← List.length_reverse (as := A), List.drop_left]
  have e2 : (A.reverse ++ .ref a :: rest).take n = A.reverse := by rw [← hn, ← List.length_reverse (as := A), List.take_left]
  simp only [zm_call, e1, e2, h1, hr, Nat.beq_refl, Bool.and_self, cond_true, List.reverse_reverse]
end XHK
