/-! By hand: a new OPENING -/
section XOP
variable {h : zm_H} {og : Nat → Option zm_C}
theorem zs_set2 {a : Nat} {x y : zm_C} : (h.set a x).set a y = h.set a y := List.set_set ..
def xob (b : Int32) : Int32 := if b = 0 then 0 else 1
theorem zh_oin {d N : Nat} {r k f p b l : Int32} {v0 v1 v2 v3 v4 v5 v6 v7 : Value} (hh : h[N]? = some (.inr (5, [v0, v1, v2, v3, v4, v5, v6, v7]))) : zm_Y og d 24 0 [(0, .ref N), (1, .int r), (2, .int k), (3, .int f), (4, .int p), (5, .int b), (6, .int l)] [] h (fun q h' => q = none ∧ h' = h.set N (.inr (5, [.int r, .int k, .int f, .int p, .int (xob b), .int (xob l), .int 0, .int (-1)]))) := by
  have key : ∀ {g : zm_H} {ws : List Value}, g = h.set N (.inr (5, ws)) → g[N]? = some (.inr (5, ws)) := fun e => by rw [e]; exact zs_eq hh
  refine zy_n 1 (mr := zm_m24) rfl rfl ?_
  refine zy_h (mr := zm_m24) rfl rfl zh_oinit ?_
  refine zy_n 2 (mr := zm_m24) rfl rfl ?_
  refine zy_h (mr := zm_m24) rfl rfl (zh_put hh rfl rfl) ?_
  refine zy_n 2 (mr := zm_m24) rfl rfl ?_
  refine zy_h (mr := zm_m24) rfl rfl (zh_put (zs_eq hh) rfl rfl) ?_
  rw [zs_set2]
  refine zy_n 2 (mr := zm_m24) rfl rfl ?_
  refine zy_h (mr := zm_m24) rfl rfl (zh_put (zs_eq hh) rfl rfl) ?_
  rw [zs_set2]
  refine zy_n 2 (mr := zm_m24) rfl rfl ?_
  refine zy_h (mr := zm_m24) rfl rfl (zh_put (zs_eq hh) rfl rfl) ?_
  rw [zs_set2]
  refine zy_n 2 (mr := zm_m24) rfl rfl ?_
  refine zy_h (mr := zm_m24) rfl rfl (zh_put (zs_eq hh) rfl rfl) ?_
  rw [zs_set2]
  refine zy_n 2 (mr := zm_m24) rfl rfl ?_
  refine zy_h (mr := zm_m24) rfl rfl (zh_put (zs_eq hh) rfl rfl) ?_
  rw [zs_set2]
  have tail : ∀ (u : Int32), zm_Y og d 24 49 [(0, .ref N), (1, .int r), (2, .int k), (3, .int f), (4, .int p), (5, .int b), (6, .int l)] [] (h.set N (.inr (5, [.int r, .int k, .int f, .int p, .int u, v5, .int 0, .int (-1)]))) (fun q h' => q = none ∧ h' = h.set N (.inr (5, [.int r, .int k, .int f, .int p, .int u, .int (xob l), .int 0, .int (-1)]))) := by
    intro u
    refine zy_n 2 (mr := zm_m24) rfl rfl ?_
    refine zy_b (mr := zm_m24) rfl rfl rfl ?_
    refine zi_eq (fun h0 => ?_) (fun h0 => ?_)
    · refine zy_n 1 (mr := zm_m24) rfl rfl ?_
      refine zy_h (mr := zm_m24) rfl rfl (zh_put (zs_eq hh) rfl rfl) ?_
      rw [zs_set2]
      refine zy_r (mr := zm_m24) rfl rfl rfl ⟨rfl, ?_⟩
      unfold xob
      rw [if_pos h0]
      rfl
    · refine zy_n 2 (mr := zm_m24) rfl rfl ?_
      refine zy_h (mr := zm_m24) rfl rfl (zh_put (zs_eq hh) rfl rfl) ?_
      rw [zs_set2]
      refine zy_r (mr := zm_m24) rfl rfl rfl ⟨rfl, ?_⟩
      unfold xob
      rw [if_neg h0]
      rfl
  refine zy_n 2 (mr := zm_m24) rfl rfl ?_
  refine zy_b (mr := zm_m24) rfl rfl rfl ?_
  refine zi_eq (fun h0 => ?_) (fun h0 => ?_)
  · refine zy_n 1 (mr := zm_m24) rfl rfl ?_
    refine zy_h (mr := zm_m24) rfl rfl (zh_put (zs_eq hh) rfl rfl) ?_
    rw [zs_set2]
    have e : xob b = 0 := if_pos h0
    rw [e]
    exact tail 0
  · refine zy_n 2 (mr := zm_m24) rfl rfl ?_
    refine zy_h (mr := zm_m24) rfl rfl (zh_put (zs_eq hh) rfl rfl) ?_
    rw [zs_set2]
    have e : xob b = 1 := if_neg h0
    rw [e]
    exact tail 1
end XOP
