/-! Tools for the hands: longs, copies -/
section XHL
variable {og : Nat → Option zm_C} {τ : List Nat} {h : zm_H}
variable {d mi pc a kd ix len n i : Nat} {js : List xJ} {w : Value} {ps : List Nat} {mr : zm_M} {ls : zm_L} {st : List Value} {Q : Option Value → zm_H → Prop} {x : zm_X} {q : xJ} {j : Int32} {z : Int64}
theorem zk_lld (hP : zm_P mi = some mr) (ha : zm_at mr.2 pc = some (.laload, len, x)) (hH : xHI xKT xSG τ h) (ht : τ[a]? = some kd) (hk : xKT kd = some (.inr (1, n, js))) (hv : xar h a i = some (.long z)) (hj : j.toInt = (i : Int)) (kk : zm_Y og d mi (pc + len) ls (.long z :: st) h Q) : zm_Y og d mi pc ls (.int j :: .ref a :: st) h Q := by
  obtain ⟨k, h1, ⟨f, rfl⟩, hi, hz⟩ := xar_of hH ht hk hv
  have hin := xin_ok (j := j) (n := n) (by omega) (by omega)
  have e : j.toNatClampNeg = i := by have := hin.2.1; omega
  have hz : Value.long (f i) = .long z := hz
  cases hz
  exact zy_h hP ha (zh_lald h1 hin.1 (by rw [e])) kk
theorem zk_alen {t : Nat} (hP : zm_P mi = some mr) (ha : zm_at mr.2 pc = some (.arraylength, len, x)) (hH : xHI xKT xSG τ h) (ht : τ[a]? = some kd) (hk : xKT kd = some (.inr (t, n, js))) (kk : zm_Y og d mi (pc + len) ls (.int (Int32.ofNat n) :: st) h Q) : zm_Y og d mi pc ls (.ref a :: st) h Q := by
  obtain ⟨k, h1, -, -⟩ := xcf_a hH ht hk
  exact zy_h hP ha (zh_alen h1) kk
theorem xHI_upL {f : Nat → Int64} {m : Nat} {v : Int64} (hH : xHI xKT xSG τ h) (ht : τ[a]? = some kd) (hk : xKT kd = some (.inr (1, n, js))) (hh : h[a]? = some (.inl (1, n, .inr (.inl f)))) (hq : q ∈ js) (hs : xsat τ q.1 (.long v)) (hj : xjok q m) : xHI xKT xSG τ (h.set a (.inl (1, n, .inr (.inl (vp_updL f m v))))) := by
  obtain ⟨k, h1, h2, h3⟩ := xcf_a hH ht hk
  rw [hh] at h1
  cases h1
  refine xHI_set hH hh ht hk ⟨.inr (.inl (vp_updL f m v)), rfl, ⟨_, rfl⟩, fun i hi => ?_⟩
  by_cases e : i = m
  · subst e
    refine ⟨q, hq, ?_, hj⟩
    show xsat τ q.1 (.long (if i = i then v else f i))
    rw [if_pos rfl]
    exact hs
  · obtain ⟨q2, b1, b2, b3⟩ := h3 i hi
    refine ⟨q2, b1, ?_, b3⟩
    show xsat τ q2.1 (.long (if i = m then v else f i))
    rw [if_neg e]
    exact b2
theorem zk_lst (hP : zm_P mi = some mr) (ha : zm_at mr.2 pc = some (.lastore, len, x)) (hH : xHI xKT xSG τ h) (hX : xX τ h) (ht : τ[a]? = some kd) (hk : xKT kd = some (.inr (1, n, js))) (hpr : xPRf kd 0 = false) (hj : j.toInt = (i : Int)) (hi : i < n) (hq : q ∈ js) (hs : xsat τ q.1 (.long z)) (ho : xjok q i) (kk : ∀ h', xHI xKT xSG τ h' → xX τ h' → xW h' = xW h → xar h' a i = some (.long z) → xag [(1, a, i)] h h' → (∀ ms, xms ms kd 0 = true → xF (xms ms) τ h τ h') → zm_Y og d mi (pc + len) ls st h' Q) : zm_Y og d mi pc ls (.long z :: .int j :: .ref a :: st) h Q := by
  obtain ⟨k, h1, ⟨f, rfl⟩, -⟩ := xcf_a hH ht hk
  have h1 : h[a]? = some (.inl (1, n, .inr (.inl f))) := h1
  have hin := xin_ok (j := j) (n := n) (by omega) (by omega)
  have e : j.toNatClampNeg = i := by have := hin.2.1; omega
  have hx := xXW_ok.2.1 τ h a kd 1 n (.inr (.inl f)) (.inr (.inl (vp_updL f i z))) hX ht hpr h1
  refine zy_h hP ha (zh_last h1 hin.1) ?_
  rw [e]
  refine kk _ (xHI_upL hH ht hk h1 hq hs ho) hx.1 hx.2 ?_ (xag_a h1 (fun m _ hne => ?_)) (fun ms hm => xF_a ht hm h1)
  · unfold xar
    rw [zs_eq h1]
    show (if i < n then some (Value.long (if i = i then z else f i)) else none) = _
    rw [if_pos hi, if_pos rfl]
  · show Value.long (if m = i then z else f m) = .long (f m)
    rw [if_neg hne]
/-- System.arraycopy from one row of numbers to another one, or to itself -/
theorem zk_cpy {a0 a1 sp dp m : Nat} {jn jd jp : Int32} {F G : Nat → Int64} (hP : zm_P mi = some mr) (ha : zm_at mr.2 pc = some (.invokestatic ix, len, x)) (hx7 : Nat.beq x.2.2.1 7 = true) (hst : Nat.ble (zm_cat st) 8 = true) (hH : xHI xKT xSG τ h) (hX : xX τ h) (t0 : τ[a0]? = some 211) (t1 : τ[a1]? = some 211) (hF : ∀ i, i < 60 → xar h a0 i = some (.long (F i))) (hG : ∀ i, i < 60 → xar h a1 i = some (.long (G i))) (en : jn.toInt = (m : Int)) (ed : jd.toInt = (dp : Int)) (ep : jp.toInt = (sp : Int)) (l0 : sp + m ≤ 60) (l1 : dp + m ≤ 60) (kk : ∀ h', xHI xKT xSG τ h' → xX τ h' → xW h' = xW h → (∀ i, i < 60 → xar h' a1 i = some (.long (if dp ≤ i ∧ i < dp + m then F (sp + (i - dp)) else G i))) → (∀ (b g : Nat) (v : Value), xfd h b g = some v → xfd h' b g = some v) → (∀ (b g : Nat) (v : Value), b ≠ a1 → xar h b g = some v → xar h' b g = some v) → (∀ ms, xms ms 211 0 = true → xF (xms ms) τ h τ h') → zm_Y og d mi (pc + len) ls st h' Q) : zm_Y og d mi pc ls (.int jn :: .int jd :: .ref a1 :: .int jp :: .ref a0 :: st) h Q := by
  obtain ⟨k0, h0, ⟨f, rfl⟩, -⟩ := xcf_a hH t0 (show xKT 211 = some (.inr (1, 60, _)) from rfl)
  obtain ⟨k1, h1, ⟨g, rfl⟩, u1⟩ := xcf_a hH t1 (show xKT 211 = some (.inr (1, 60, _)) from rfl)
  have h0 : h[a0]? = some (.inl (1, 60, .inr (.inl f))) := h0
  have h1 : h[a1]? = some (.inl (1, 60, .inr (.inl g))) := h1
  have eF : ∀ i, i < 60 → f i = F i := fun i hi => by
    have := hF i hi
    unfold xar at this
    rw [h0] at this
    have this : (if i < 60 then some (Value.long (f i)) else none) = some (.long (F i)) := this
    rw [if_pos hi] at this
    injection this with e
    injection e
  have eG : ∀ i, i < 60 → g i = G i := fun i hi => by
    have := hG i hi
    unfold xar at this
    rw [h1] at this
    have this : (if i < 60 then some (Value.long (g i)) else none) = some (.long (G i)) := this
    rw [if_pos hi] at this
    injection this with e
    injection e
  have hnn : ∀ {q : Int32} {k : Nat}, q.toInt = (k : Int) → ¬ q < 0 ∧ q.toNatClampNeg = k := fun {q k} e => by
    refine ⟨fun z => ?_, ?_⟩
    · have := Int32.lt_iff_toInt_lt.mp z
      have e0 : (0 : Int32).toInt = 0 := rfl
      omega
    · show q.toInt.toNat = k
      rw [e]
      rfl
  obtain ⟨n1, n2⟩ := hnn en
  obtain ⟨d1, d2⟩ := hnn ed
  obtain ⟨p1, p2⟩ := hnn ep
  have hz : zm_hp zm_df og (.invokestatic ix) x (.int jn :: .int jd :: .ref a1 :: .int jp :: .ref a0 :: st) h = some (st, h.set a1 (.inl (1, 60, .inr (.inl (va_cpy f g sp dp m))))) := by
    have e1 : Nat.ble (sp + m) 60 = true := Nat.ble_eq_true_of_le l0
    have e2 : Nat.ble (dp + m) 60 = true := Nat.ble_eq_true_of_le l1
    simp only [zm_hp, hx7, cond_true, zm_cpy, h0, h1, decide_eq_false n1, decide_eq_false d1, decide_eq_false p1, n2, d2, p2, e1, e2, hst, Bool.not_false, Bool.and_self, zm_cpk, Nat.beq_refl]
  have hx := xXW_ok.2.1 τ h a1 211 1 60 (.inr (.inl g)) (.inr (.inl (va_cpy f g sp dp m))) hX t1 rfl h1
  refine zy_h hP ha hz (kk _ (xHI_set hH h1 t1 (show xKT 211 = some (.inr (1, 60, _)) from rfl) ⟨_, rfl, ⟨_, rfl⟩, fun i hi => ?_⟩) hx.1 hx.2 (fun i hi => ?_) (fun b gg v e => by rw [xfd_seta h1]; exact e) (fun b gg v hb e => ?_) (fun ms hm => xF_a t1 hm h1))
  · have hi : i < 60 := hi
    exact ⟨_, List.mem_cons_self, ⟨_, rfl⟩, by show (0 : Int) ≤ _; omega, by show _ ≤ (59 : Int); omega, Or.inl rfl⟩
  · unfold xar
    rw [zs_eq h1]
    show (if i < 60 then some (Value.long (if dp ≤ i ∧ i < dp + m then f (sp + (i - dp)) else g i)) else none) = _
    rw [if_pos hi, eG i hi]
    by_cases c : dp ≤ i ∧ i < dp + m
    · rw [if_pos c, if_pos c, eF _ (by omega)]
    · rw [if_neg c, if_neg c]
  · unfold xar at e ⊢
    rw [xgs h1, if_neg (fun z => hb z.symm)]
    exact e
end XHL
