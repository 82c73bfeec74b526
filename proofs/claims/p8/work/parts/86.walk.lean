/-! By hand: the model's walk -/
def xcnt (fD fS : Nat → Int32) (s : Int32) : Nat → Nat
  | 0 => 0
  | k + 1 => xcnt fD fS s k + if fD k = 0 ∧ fS k = s then 1 else 0
theorem xcnt_le {fD fS : Nat → Int32} {s : Int32} : ∀ k : Nat, xcnt fD fS s k ≤ k
  | 0 => Nat.le_refl _
  | k + 1 => by
    have := xcnt_le (fD := fD) (fS := fS) (s := s) k
    simp only [xcnt]
    split <;> omega
theorem xcnt_mono {fD fS : Nat → Int32} {s : Int32} {k : Nat} : ∀ m : Nat, xcnt fD fS s k ≤ xcnt fD fS s (k + m)
  | 0 => Nat.le_refl _
  | m + 1 => by
    have := xcnt_mono (fD := fD) (fS := fS) (s := s) (k := k) m
    show _ ≤ xcnt fD fS s ((k + m) + 1)
    simp only [xcnt]
    omega
section XWK2
variable {og : Nat → Option zm_C} {τ : List Nat} {h : zm_H} {Q : Option Value → zm_H → Prop}
theorem zh_w57 {d : Nat} {c who s : Int32} {fD fS : Nat → Int32} (hH : xHI xKT xSG τ h) (f6 : xfd h 55 6 = some (.int c)) (hD : h[69]? = some (.inl (3, 16, .inl fD))) (hS : h[62]? = some (.inl (0, 16, .inl fS))) {N : Nat} (hc : c = Int32.ofNat N) (hN : N ≤ 16)
    (kk : zm_Y og d 261 101 [(0, .ref 55), (1, .int who), (2, .int s), (3, .int (Int32.ofNat (xcnt fD fS s N)))] [] h Q) : ∀ (m k : Nat), k + m = N → zm_Y og d 261 57 [(0, .ref 55), (1, .int who), (2, .int s), (3, .int (Int32.ofNat (xcnt fD fS s k))), (4, .int (Int32.ofNat k))] [] h Q
  | 0, k, hk => by
    subst hc
    refine zy_n 2 (mr := zm_m261) rfl (show _ = some (60, [(0, .ref 55), (1, .int who), (2, .int s), (3, .int (Int32.ofNat (xcnt fD fS s k))), (4, .int (Int32.ofNat k))], [.ref 55, .int (Int32.ofNat k)]) from rfl) ?_
    refine zy_h (mr := zm_m261) rfl rfl (zh_gm hH f6) ?_
    refine zy_b (mr := zm_m261) rfl rfl (show _ = some (zm_ic .ge (Int32.ofNat k) (Int32.ofNat N) 101 66, []) from rfl) ?_
    have e : k = N := by omega
    subst e
    refine zc_ge (fun _ => ?_) (fun e => absurd (Int32.le_refl _) e)
    exact zy_sub _ (by simp) (fun q hq => by simp only [List.mem_cons, List.not_mem_nil, or_false] at hq; rcases hq with rfl | rfl | rfl | rfl <;> rfl) kk
  | m + 1, k, hk => by
    have hkN : k < N := by omega
    have ek := (xofn (k := k) (by omega))
    have eN := (xofn (k := N) (by omega))
    have hle := xcnt_le (fD := fD) (fS := fS) (s := s) k
    have ih := zh_w57 hH f6 hD hS hc hN kk m (k + 1) (by omega)
    subst hc
    refine zy_n 2 (mr := zm_m261) rfl (show _ = some (60, [(0, .ref 55), (1, .int who), (2, .int s), (3, .int (Int32.ofNat (xcnt fD fS s k))), (4, .int (Int32.ofNat k))], [.ref 55, .int (Int32.ofNat k)]) from rfl) ?_
    refine zy_h (mr := zm_m261) rfl rfl (zh_gm hH f6) ?_
    refine zy_b (mr := zm_m261) rfl rfl (show _ = some (zm_ic .ge (Int32.ofNat k) (Int32.ofNat N) 101 66, []) from rfl) ?_
    refine zc_ge (fun e => ?_) (fun _ => ?_)
    · have := Int32.le_iff_toInt_le.mp e
      rw [ek.1, eN.1] at this
      omega
    have hin : zm_in (Int32.ofNat k) 16 = true := (xin_ok (n := 16) (by rw [ek.1]; omega) (by rw [ek.1]; omega)).1
    refine zy_n 2 (mr := zm_m261) rfl (show _ = some (68, [(0, .ref 55), (1, .int who), (2, .int s), (3, .int (Int32.ofNat (xcnt fD fS s k))), (4, .int (Int32.ofNat k))], [.ref 55, .int (Int32.ofNat (xcnt fD fS s k))]) from rfl) ?_
    refine zy_h (mr := zm_m261) rfl rfl (zh_gm hH (xfo_ref (k := 55) (f := 24) (a := 69) hH rfl rfl rfl)) ?_
    refine zy_n 1 (mr := zm_m261) rfl (show _ = some (73, [(0, .ref 55), (1, .int who), (2, .int s), (3, .int (Int32.ofNat (xcnt fD fS s k))), (4, .int (Int32.ofNat k))], [.int (Int32.ofNat k), .ref 69, .int (Int32.ofNat (xcnt fD fS s k))]) from rfl) ?_
    refine zy_h (mr := zm_m261) rfl rfl (zh_zald (v := fD k) hD rfl hin (by rw [ek.2])) ?_
    refine zy_b (mr := zm_m261) rfl rfl (show _ = some (zm_if .ne (fD k) 92 77, [.int (Int32.ofNat (xcnt fD fS s k))]) from rfl) ?_
    have no : ¬ (fD k = 0 ∧ fS k = s) → zm_Y og d 261 92 [(0, .ref 55), (1, .int who), (2, .int s), (3, .int (Int32.ofNat (xcnt fD fS s k))), (4, .int (Int32.ofNat k))] [.int (Int32.ofNat (xcnt fD fS s k))] h Q := by
      intro hne
      refine zy_n 5 (mr := zm_m261) rfl (show _ = some (57, [(4, .int (Int32.ofNat k + 1)), (3, .int (Int32.ofNat (xcnt fD fS s k) + 0)), (0, .ref 55), (1, .int who), (2, .int s)], []) from rfl) ?_
      have e1 : xcnt fD fS s (k + 1) = xcnt fD fS s k := by simp only [xcnt, if_neg hne, Nat.add_zero]
      rw [e1] at ih
      rw [xofs (by omega), Int32.add_zero]
      exact zy_sub _ (by simp) (fun q hq => by simp only [List.mem_cons, List.not_mem_nil, or_false] at hq; rcases hq with rfl | rfl | rfl | rfl | rfl <;> rfl) ih
    refine zi_ne (fun hne => no (fun e => hne e.1)) (fun h0 => ?_)
    refine zy_n 1 (mr := zm_m261) rfl (show _ = some (78, [(0, .ref 55), (1, .int who), (2, .int s), (3, .int (Int32.ofNat (xcnt fD fS s k))), (4, .int (Int32.ofNat k))], [.ref 55, .int (Int32.ofNat (xcnt fD fS s k))]) from rfl) ?_
    refine zy_h (mr := zm_m261) rfl rfl (zh_gm hH (xfo_ref (k := 55) (f := 17) (a := 62) hH rfl rfl rfl)) ?_
    refine zy_n 1 (mr := zm_m261) rfl (show _ = some (83, [(0, .ref 55), (1, .int who), (2, .int s), (3, .int (Int32.ofNat (xcnt fD fS s k))), (4, .int (Int32.ofNat k))], [.int (Int32.ofNat k), .ref 62, .int (Int32.ofNat (xcnt fD fS s k))]) from rfl) ?_
    refine zy_h (mr := zm_m261) rfl rfl (zh_iald (v := fS k) hS hin (by rw [ek.2])) ?_
    refine zy_n 1 (mr := zm_m261) rfl (show _ = some (85, [(0, .ref 55), (1, .int who), (2, .int s), (3, .int (Int32.ofNat (xcnt fD fS s k))), (4, .int (Int32.ofNat k))], [.int s, .int (fS k), .int (Int32.ofNat (xcnt fD fS s k))]) from rfl) ?_
    refine zy_b (mr := zm_m261) rfl rfl (show _ = some (zm_ic .ne (fS k) s 92 88, [.int (Int32.ofNat (xcnt fD fS s k))]) from rfl) ?_
    refine zc_ne (fun hne => no (fun e => hne e.2)) (fun hs => ?_)
    refine zy_n 6 (mr := zm_m261) rfl (show _ = some (57, [(4, .int (Int32.ofNat k + 1)), (3, .int (Int32.ofNat (xcnt fD fS s k) + 1)), (0, .ref 55), (1, .int who), (2, .int s)], []) from rfl) ?_
    have e1 : xcnt fD fS s (k + 1) = xcnt fD fS s k + 1 := by simp only [xcnt, if_pos (And.intro h0 hs)]
    rw [e1] at ih
    rw [xofs (by omega), xofs (by omega)]
    exact zy_sub _ (by simp) (fun q hq => by simp only [List.mem_cons, List.not_mem_nil, or_false] at hq; rcases hq with rfl | rfl | rfl | rfl | rfl <;> rfl) ih
end XWK2
