/-! Tools for the hands: the least, how far apart, a new row -/
section XHM
variable {og : Nat → Option zm_C} {τ : List Nat} {h : zm_H}
variable {d mi pc ix len : Nat} {w : Value} {ps : List Nat} {mr : zm_M} {ls : zm_L} {st : List Value} {Q : Option Value → zm_H → Prop}
theorem zk_min {xa xb : Nat} {x y : Int32} (hP : zm_P mi = some mr) (ha : zm_at mr.2 pc = some (.invokestatic ix, len, (xa, xb, 2, w, ps))) (hst : Nat.ble (zm_cat st) 7 = true) (kk : ∀ z : Int32, z.toInt = min x.toInt y.toInt → zm_Y og d mi (pc + len) ls (.int z :: st) h Q) : zm_Y og d mi pc ls (.int y :: .int x :: st) h Q := by
  have hz : zm_hp zm_df og (.invokestatic ix) (xa, xb, 2, w, ps) (.int y :: .int x :: st) h = some (.int (if y < x then y else x) :: st, h) := by
    have e : Nat.ble (zm_cat (.int (if y < x then y else x) :: st)) 8 = true := by
      refine Nat.ble_eq_true_of_le ?_
      have := Nat.le_of_ble_eq_true hst
      show 1 + zm_cat st ≤ 8
      omega
    show (bif Nat.ble (zm_cat (.int (if y < x then y else x) :: st)) 8 then some (.int (if y < x then y else x) :: st, h) else none) = _
    rw [e]
    rfl
  refine zy_h hP ha hz (kk _ ?_)
  by_cases c : y < x
  · rw [if_pos c]
    have := Int32.lt_iff_toInt_lt.mp c
    omega
  · rw [if_neg c]
    have := Int32.le_iff_toInt_le.mp (Int32.not_lt.mp c)
    omega
theorem zk_absL {xa xb : Nat} {x : Int64} (hP : zm_P mi = some mr) (ha : zm_at mr.2 pc = some (.invokestatic ix, len, (xa, xb, 6, w, ps))) (hst : Nat.ble (zm_cat st) 6 = true) (hx : -1000000 ≤ x.toInt) (kk : ∀ z : Int64, z.toInt = (x.toInt.natAbs : Int) → zm_Y og d mi (pc + len) ls (.long z :: st) h Q) : zm_Y og d mi pc ls (.long x :: st) h Q := by
  have hz : zm_hp zm_df og (.invokestatic ix) (xa, xb, 6, w, ps) (.long x :: st) h = some (.long (if 0 < x then x else -x) :: st, h) := by
    have e : Nat.ble (zm_cat (.long (if 0 < x then x else -x) :: st)) 8 = true := by
      refine Nat.ble_eq_true_of_le ?_
      have := Nat.le_of_ble_eq_true hst
      show 2 + zm_cat st ≤ 8
      omega
    show (bif Nat.ble (zm_cat (.long (if 0 < x then x else -x) :: st)) 8 then some (.long (if 0 < x then x else -x) :: st, h) else none) = _
    rw [e]
    rfl
  have ec : xI64a = -9223372036854775808 := rfl
  have ed : xI64b = 9223372036854775807 := rfl
  have e0 : (0 : Int64).toInt = 0 := rfl
  have r := xb_rngL x
  rw [ec, ed] at r
  refine zy_h hP ha hz (kk _ ?_)
  by_cases c : 0 < x
  · rw [if_pos c]
    have := Int64.lt_iff_toInt_lt.mp c
    omega
  · rw [if_neg c]
    have c2 : ¬ (0 : Int64).toInt < x.toInt := fun z => c (Int64.lt_iff_toInt_lt.mpr z)
    rw [Int64.toInt_neg, xb_bm64 (by omega) (by omega)]
    omega
/-- a new row of ints or longs -/
theorem zk_newa {at_ : ArrayType} {t k c n kd : Nat} {m : Int32} {js : List xJ} (hP : zm_P mi = some mr) (ha : zm_at mr.2 pc = some (.newarray at_, len, (t, k, c, w, ps))) (hH : xHI xKT xSG τ h) (hX : xX τ h) (hk : xKT kd = some (.inr (t, n, js))) (ht : t ≤ 1) (hz : (List.range n).all (fun j => js.any (xzj t j)) = true) (hm : (!(decide (m < 0)) && Nat.ble m.toNatClampNeg 60000) = true) (hN : m.toNatClampNeg = n) (kk : ∀ (h' : zm_H) (r : Nat), xHI xKT xSG (τ ++ [kd]) h' → xX (τ ++ [kd]) h' → xW h' = xW h + n + 13 → (τ ++ [kd])[r]? = some kd → (∀ (b g : Nat) (v : Value), xfd h b g = some v → xfd h' b g = some v) → (∀ (b g : Nat) (v : Value), xar h b g = some v → xar h' b g = some v) → (∀ ms, xF (xms ms) τ h (τ ++ [kd]) h') → zm_Y og d mi (pc + len) ls (.ref r :: st) h' Q) : zm_Y og d mi pc ls (.int m :: st) h Q := by
  have hx := xXW_ok.2.2 τ h kd t n (zm_zero t) hX hH
  refine zy_h hP ha (zh_newa (n := h.length) rfl hm hN) (kk _ h.length (xHI_app hH hk ht hz) hx.1 hx.2 ?_ (fun b g v e => ?_) (fun b g v e => ?_) (fun ms => xF_app))
  · rw [hH.1, List.getElem?_append_right (Nat.le_refl _), Nat.sub_self]
    rfl
  · unfold xfd at e ⊢
    split at e
    · rename_i o ho
      rw [zs_app ho]
      exact e
    · cases e
  · unfold xar at e ⊢
    split at e
    · rename_i o ho
      rw [zs_app ho]
      exact e
    · cases e
end XHM
