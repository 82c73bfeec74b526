/-! By hand: the constructor of a HOUSE -/
section XHN
variable {k : zm_H} {og : Nat → Option zm_C}
theorem xset_app0 {N : Nat} {y a : zm_C} (hN : N < k.length) : k.set N y ++ [a] = (k ++ [a]).set N y := by
  rw [List.set_append_left _ _ hN]
theorem xlt_app {N : Nat} {a : zm_C} (hN : N < k.length) : N < (k ++ [a]).length := by
  rw [List.length_append]
  omega
theorem xY_eq {d m p l s Q} {h h' : zm_H} (e : h = h') (y : zm_Y og d m p l s h' Q) : zm_Y og d m p l s h Q := by
  subst e
  exact y
def xhc1 : zm_C := Sum.inl (0, 6, zm_zero 0)
def xhc2 : zm_C := Sum.inl (6, 10, .inr (.inr (fun _ => none)))
theorem zh_hin {d N : Nat} {s w f m r : Int32} {v0 v1 v2 v3 v4 v5 v6 v7 v8 v9 v10 : Value} (hh : k[N]? = some (.inr (2, [v0, v1, v2, v3, v4, v5, v6, v7, v8, v9, v10]))) : zm_Y og d 15 0 [(0, .ref N), (1, .int s), (2, .int w), (3, .int f), (4, .int m), (5, .int r)] [] k (fun q h' => q = none ∧ h' = ((k ++ [xhc1]) ++ [xhc2]).set N (.inr (2, [.int s, .int w, .int f, .int m, .int r, .int 0, .ref k.length, .int 0, .ref (k ++ [xhc1]).length, .int 0, .long 0]))) := by
  have hN : N < k.length := (List.getElem?_eq_some_iff.mp hh).1
  have h1 : (k ++ [xhc1])[N]? = some (.inr (2, [v0, v1, v2, v3, v4, v5, v6, v7, v8, v9, v10])) := zs_app hh
  have h2 : ((k ++ [xhc1]) ++ [xhc2])[N]? = some (.inr (2, [v0, v1, v2, v3, v4, v5, v6, v7, v8, v9, v10])) := zs_app h1
  refine zy_n 1 (mr := zm_m15) rfl rfl ?_
  refine zy_h (mr := zm_m15) rfl rfl zh_oinit ?_
  refine zy_n 2 (mr := zm_m15) rfl rfl ?_
  refine zy_h (mr := zm_m15) rfl rfl (zh_put hh rfl rfl) ?_
  refine zy_n 2 (mr := zm_m15) rfl rfl ?_
  refine zy_h (mr := zm_m15) rfl rfl (zh_newa (n := k.length) (by rw [List.length_set]) rfl rfl) ?_
  refine xY_eq (xset_app0 (a := xhc1) hN) ?_
  refine zy_h (mr := zm_m15) rfl rfl (zh_put (zs_eq h1) rfl rfl) ?_
  rw [zs_set2]
  refine zy_n 2 (mr := zm_m15) rfl rfl ?_
  refine zy_h (mr := zm_m15) rfl rfl (zh_put (zs_eq h1) rfl rfl) ?_
  rw [zs_set2]
  refine zy_n 2 (mr := zm_m15) rfl rfl ?_
  refine zy_h (mr := zm_m15) rfl rfl (zh_anew (n := (k ++ [xhc1]).length) (by rw [List.length_set]) rfl rfl) ?_
  refine xY_eq (xset_app0 (a := xhc2) (xlt_app hN)) ?_
  refine zy_h (mr := zm_m15) rfl rfl (zh_put (zs_eq h2) rfl rfl) ?_
  rw [zs_set2]
  refine zy_n 2 (mr := zm_m15) rfl rfl ?_
  refine zy_h (mr := zm_m15) rfl rfl (zh_put (zs_eq h2) rfl rfl) ?_
  rw [zs_set2]
  refine zy_n 2 (mr := zm_m15) rfl rfl ?_
  refine zy_h (mr := zm_m15) rfl rfl (zh_put (zs_eq h2) rfl rfl) ?_
  rw [zs_set2]
  refine zy_n 2 (mr := zm_m15) rfl rfl ?_
  refine zy_h (mr := zm_m15) rfl rfl (zh_put (zs_eq h2) rfl rfl) ?_
  rw [zs_set2]
  refine zy_n 2 (mr := zm_m15) rfl rfl ?_
  refine zy_h (mr := zm_m15) rfl rfl (zh_put (zs_eq h2) rfl rfl) ?_
  rw [zs_set2]
  refine zy_n 2 (mr := zm_m15) rfl rfl ?_
  refine zy_h (mr := zm_m15) rfl rfl (zh_put (zs_eq h2) rfl rfl) ?_
  rw [zs_set2]
  refine zy_n 2 (mr := zm_m15) rfl rfl ?_
  refine zy_h (mr := zm_m15) rfl rfl (zh_put (zs_eq h2) rfl rfl) ?_
  rw [zs_set2]
  refine zy_n 2 (mr := zm_m15) rfl rfl ?_
  refine zy_h (mr := zm_m15) rfl rfl (zh_put (zs_eq h2) rfl rfl) ?_
  rw [zs_set2]
  exact zy_r (mr := zm_m15) rfl rfl rfl ⟨rfl, rfl⟩
end XHN
