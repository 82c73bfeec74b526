/-! By hand: the constructor of a TEXT -/
section XTN
variable {k : zm_H} {og : Nat → Option zm_C}
def xtc1 : zm_C := Sum.inl (0, 300, zm_zero 0)
def xtc2 : zm_C := Sum.inl (0, 12, zm_zero 0)
theorem zh_tin {d N : Nat} {v0 v1 v2 v3 v4 v5 v6 v7 v8 v9 : Value} (hh : k[N]? = some (.inr (9, [v0, v1, v2, v3, v4, v5, v6, v7, v8, v9]))) : zm_Y og d 3 0 [(0, .ref N), (1, .int 300), (2, .int 12)] [] k (fun q h' => q = none ∧ h' = ((((((k ++ [xtc1]) ++ [xtc2]) ++ [xtc2]) ++ [xtc2]) ++ [xtc2]) ++ [xtc2]).set N (.inr (9, [.ref k.length, .int 0, .ref (k ++ [xtc1]).length, .ref ((k ++ [xtc1]) ++ [xtc2]).length, .ref (((k ++ [xtc1]) ++ [xtc2]) ++ [xtc2]).length, .ref ((((k ++ [xtc1]) ++ [xtc2]) ++ [xtc2]) ++ [xtc2]).length, .ref (((((k ++ [xtc1]) ++ [xtc2]) ++ [xtc2]) ++ [xtc2]) ++ [xtc2]).length, .int 0, .int 0, .null]))) := by
  have n0 : N < k.length := (List.getElem?_eq_some_iff.mp hh).1
  have n1 : N < (k ++ [xtc1]).length := xlt_app n0
  have h1 : (k ++ [xtc1])[N]? = some (.inr (9, [v0, v1, v2, v3, v4, v5, v6, v7, v8, v9])) := zs_app hh
  have n2 : N < ((k ++ [xtc1]) ++ [xtc2]).length := xlt_app n1
  have h2 : ((k ++ [xtc1]) ++ [xtc2])[N]? = some (.inr (9, [v0, v1, v2, v3, v4, v5, v6, v7, v8, v9])) := zs_app h1
  have n3 : N < (((k ++ [xtc1]) ++ [xtc2]) ++ [xtc2]).length := xlt_app n2
  have h3 : (((k ++ [xtc1]) ++ [xtc2]) ++ [xtc2])[N]? = some (.inr (9, [v0, v1, v2, v3, v4, v5, v6, v7, v8, v9])) := zs_app h2
  have n4 : N < ((((k ++ [xtc1]) ++ [xtc2]) ++ [xtc2]) ++ [xtc2]).length := xlt_app n3
  have h4 : ((((k ++ [xtc1]) ++ [xtc2]) ++ [xtc2]) ++ [xtc2])[N]? = some (.inr (9, [v0, v1, v2, v3, v4, v5, v6, v7, v8, v9])) := zs_app h3
  have n5 : N < (((((k ++ [xtc1]) ++ [xtc2]) ++ [xtc2]) ++ [xtc2]) ++ [xtc2]).length := xlt_app n4
  have h5 : (((((k ++ [xtc1]) ++ [xtc2]) ++ [xtc2]) ++ [xtc2]) ++ [xtc2])[N]? = some (.inr (9, [v0, v1, v2, v3, v4, v5, v6, v7, v8, v9])) := zs_app h4
  have n6 : N < ((((((k ++ [xtc1]) ++ [xtc2]) ++ [xtc2]) ++ [xtc2]) ++ [xtc2]) ++ [xtc2]).length := xlt_app n5
  have h6 : ((((((k ++ [xtc1]) ++ [xtc2]) ++ [xtc2]) ++ [xtc2]) ++ [xtc2]) ++ [xtc2])[N]? = some (.inr (9, [v0, v1, v2, v3, v4, v5, v6, v7, v8, v9])) := zs_app h5
  refine zy_n 1 (mr := zm_m3) rfl rfl ?_
  refine zy_h (mr := zm_m3) rfl rfl zh_oinit ?_
  refine zy_n 2 (mr := zm_m3) rfl rfl ?_
  refine zy_h (mr := zm_m3) rfl rfl (zh_put hh rfl rfl) ?_
  refine zy_n 2 (mr := zm_m3) rfl rfl ?_
  refine zy_h (mr := zm_m3) rfl rfl (zh_put (zs_eq hh) rfl rfl) ?_
  rw [zs_set2]
  refine zy_n 2 (mr := zm_m3) rfl rfl ?_
  refine zy_h (mr := zm_m3) rfl rfl (zh_put (zs_eq hh) rfl rfl) ?_
  rw [zs_set2]
  refine zy_n 2 (mr := zm_m3) rfl rfl ?_
  refine zy_h (mr := zm_m3) rfl rfl (zh_put (zs_eq hh) rfl rfl) ?_
  rw [zs_set2]
  refine zy_n 2 (mr := zm_m3) rfl rfl ?_
  refine zy_h (mr := zm_m3) rfl rfl (zh_newa (n := k.length) (by rw [List.length_set]) rfl rfl) ?_
  refine xY_eq (xset_app0 (a := xtc1) n0) ?_
  refine zy_h (mr := zm_m3) rfl rfl (zh_put (zs_eq h1) rfl rfl) ?_
  rw [zs_set2]
  refine zy_n 2 (mr := zm_m3) rfl rfl ?_
  refine zy_h (mr := zm_m3) rfl rfl (zh_newa (n := (k ++ [xtc1]).length) (by rw [List.length_set]) rfl rfl) ?_
  refine xY_eq (xset_app0 (a := xtc2) n1) ?_
  refine zy_h (mr := zm_m3) rfl rfl (zh_put (zs_eq h2) rfl rfl) ?_
  rw [zs_set2]
  refine zy_n 2 (mr := zm_m3) rfl rfl ?_
  refine zy_h (mr := zm_m3) rfl rfl (zh_newa (n := ((k ++ [xtc1]) ++ [xtc2]).length) (by rw [List.length_set]) rfl rfl) ?_
  refine xY_eq (xset_app0 (a := xtc2) n2) ?_
  refine zy_h (mr := zm_m3) rfl rfl (zh_put (zs_eq h3) rfl rfl) ?_
  rw [zs_set2]
  refine zy_n 2 (mr := zm_m3) rfl rfl ?_
  refine zy_h (mr := zm_m3) rfl rfl (zh_newa (n := (((k ++ [xtc1]) ++ [xtc2]) ++ [xtc2]).length) (by rw [List.length_set]) rfl rfl) ?_
  refine xY_eq (xset_app0 (a := xtc2) n3) ?_
  refine zy_h (mr := zm_m3) rfl rfl (zh_put (zs_eq h4) rfl rfl) ?_
  rw [zs_set2]
  refine zy_n 2 (mr := zm_m3) rfl rfl ?_
  refine zy_h (mr := zm_m3) rfl rfl (zh_newa (n := ((((k ++ [xtc1]) ++ [xtc2]) ++ [xtc2]) ++ [xtc2]).length) (by rw [List.length_set]) rfl rfl) ?_
  refine xY_eq (xset_app0 (a := xtc2) n4) ?_
  refine zy_h (mr := zm_m3) rfl rfl (zh_put (zs_eq h5) rfl rfl) ?_
  rw [zs_set2]
  refine zy_n 2 (mr := zm_m3) rfl rfl ?_
  refine zy_h (mr := zm_m3) rfl rfl (zh_newa (n := (((((k ++ [xtc1]) ++ [xtc2]) ++ [xtc2]) ++ [xtc2]) ++ [xtc2]).length) (by rw [List.length_set]) rfl rfl) ?_
  refine xY_eq (xset_app0 (a := xtc2) n5) ?_
  refine zy_h (mr := zm_m3) rfl rfl (zh_put (zs_eq h6) rfl rfl) ?_
  rw [zs_set2]
  exact zy_r (mr := zm_m3) rfl rfl rfl ⟨rfl, rfl⟩
end XTN
