/-! By hand: bits -/
theorem xb_low {x : Int32} (h : x ≠ 0) : (x &&& (x - 1)).toBitVec.toNat < x.toBitVec.toNat := by
  have h0 : x.toBitVec.toNat ≠ 0 := fun e => h (by
    apply Int32.toBitVec_inj.mp
    apply BitVec.eq_of_toNat_eq
    rw [e]
    rfl)
  have h1 : (x - 1).toBitVec.toNat = x.toBitVec.toNat - 1 := by
    rw [Int32.toBitVec_sub, BitVec.toNat_sub]
    have hl := x.toBitVec.isLt
    have e1 : (1 : Int32).toBitVec.toNat = 1 := rfl
    rw [e1]
    omega
  rw [Int32.toBitVec_and, BitVec.toNat_and]
  have := Nat.and_le_right (n := x.toBitVec.toNat) (m := (x - 1).toBitVec.toNat)
  omega
theorem zh_bits {og : Nat → Option zm_C} {d : Nat} {h : zm_H} : ∀ (N : Nat) (a n x : Int32), x.toBitVec.toNat < N → zm_Y og d 250 4 [(2, .int x), (1, .int n), (0, .int a)] [] h (fun r h' => h' = h ∧ ∃ i : Int32, r = some (.int i))
  | 0, a, n, x, hN => by omega
  | N + 1, a, n, x, hN => by
    refine zy_n 1 (mr := zm_m250) rfl rfl ?_
    refine zy_b (mr := zm_m250) rfl rfl rfl ?_
    refine zi_eq (fun h0 => ?_) (fun h0 => ?_)
    · refine zy_n 1 (mr := zm_m250) rfl rfl ?_
      exact zy_r (mr := zm_m250) rfl rfl rfl ⟨rfl, n, rfl⟩
    · have hlt := xb_low h0
      refine zy_n 7 (mr := zm_m250) rfl (show _ = some (17, [(2, .int (x &&& (x - 1))), (1, .int (n + 1)), (0, .int a)], []) from rfl) ?_
      refine zy_n 1 (mr := zm_m250) rfl (show _ = some (4, [(2, .int (x &&& (x - 1))), (1, .int (n + 1)), (0, .int a)], []) from rfl) ?_
      exact zh_bits N a (n + 1) (x &&& (x - 1)) (by omega)
theorem xv_bits {og : Nat → Option zm_C} : xV xVV xX xW og xc_174 := by
  intro ρ σ τ h lc hH hX hD hl
  have hlen : ρ.length = 1 := hD.1.2.symm
  obtain ⟨v, hv, a, rfl, ha⟩ := hl _ List.mem_cons_self
  refine zy_sub [(0, .int a)] (by simp) (fun q hq => by rw [List.mem_singleton.mp hq]; exact hv) ?_
  refine zy_n 4 (mr := zm_m250) rfl (show _ = some (4, [(2, .int a), (1, .int 0), (0, .int a)], []) from rfl) ?_
  refine (zh_bits _ a 0 a (Nat.lt_succ_self _)).mono (fun r h' hq => ?_)
  obtain ⟨rfl, i, rfl⟩ := hq
  have hg : (ρ ++ [i.toInt])[1]? = some i.toInt := by
    rw [List.getElem?_append_right (by omega), hlen]
    rfl
  refine ⟨τ, hH, hX, xF_refl _ _ _, by omega, _, List.mem_cons_self, [i.toInt], [], ?_, i, rfl, xe_sym (s := 1) hg⟩
  have hno : ∀ {α : Type} {P : α → Prop}, ∀ q ∈ ([] : List α), P q := fun q hq => by cases hq
  refine ⟨⟨⟨?_, hno⟩, ?_⟩, ?_, ?_, ?_⟩
  · intro q hq
    have hq := List.mem_singleton.mp hq
    subst hq
    exact ⟨i.toInt, hg, (xb_rng i).1, (xb_rng i).2⟩
  · show 2 = _
    rw [List.length_append, hlen]
    rfl
  · rw [List.append_nil]
    exact hD.2.1
  · intro q hq; cases hq
  · intro q hq; cases hq
