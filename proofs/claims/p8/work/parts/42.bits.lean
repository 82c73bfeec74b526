/-! Third part: bounds of the machine's operations -/
theorem xb_msb {a : Int32} (h : 0 ≤ a.toInt) : a.toBitVec.msb = false := by
  rw [BitVec.msb_eq_toInt]
  have h : 0 ≤ a.toBitVec.toInt := h
  simp only [decide_eq_false_iff_not]
  omega
theorem xb_nat {a : Int32} (h : 0 ≤ a.toInt) : a.toInt = (a.toBitVec.toNat : Int) := BitVec.toInt_eq_toNat_of_msb (xb_msb h)
theorem xb_of {a : Int32} (h : a.toBitVec.msb = false) : a.toInt = (a.toBitVec.toNat : Int) := BitVec.toInt_eq_toNat_of_msb h
theorem xb_and {a b : Int32} (hb : 0 ≤ b.toInt) : 0 ≤ (a &&& b).toInt ∧ (a &&& b).toInt ≤ b.toInt := by
  have hm : (a &&& b).toBitVec.msb = false := by
    rw [Int32.toBitVec_and, BitVec.msb_and, xb_msb hb, Bool.and_false]
  rw [xb_of hm, xb_nat hb, Int32.toBitVec_and, BitVec.toNat_and]
  have := Nat.and_le_right (n := a.toBitVec.toNat) (m := b.toBitVec.toNat)
  omega
theorem xb_andl {a b : Int32} (ha : 0 ≤ a.toInt) : 0 ≤ (a &&& b).toInt ∧ (a &&& b).toInt ≤ a.toInt := by
  have hm : (a &&& b).toBitVec.msb = false := by
    rw [Int32.toBitVec_and, BitVec.msb_and, xb_msb ha, Bool.false_and]
  rw [xb_of hm, xb_nat ha, Int32.toBitVec_and, BitVec.toNat_and]
  have := Nat.and_le_left (n := a.toBitVec.toNat) (m := b.toBitVec.toNat)
  omega
theorem xb_or {a b : Int32} {m : Nat} (ha : 0 ≤ a.toInt) (hb : 0 ≤ b.toInt) (ha2 : a.toInt < (2 ^ m : Nat)) (hb2 : b.toInt < (2 ^ m : Nat)) : 0 ≤ (a ||| b).toInt ∧ (a ||| b).toInt < (2 ^ m : Nat) := by
  have hm : (a ||| b).toBitVec.msb = false := by
    rw [Int32.toBitVec_or, BitVec.msb_or, xb_msb ha, xb_msb hb, Bool.or_false]
  rw [xb_nat ha] at ha2
  rw [xb_nat hb] at hb2
  rw [xb_of hm, Int32.toBitVec_or, BitVec.toNat_or]
  have := Nat.or_lt_two_pow (x := a.toBitVec.toNat) (y := b.toBitVec.toNat) (n := m) (by omega) (by omega)
  omega
theorem xb_xor {a b : Int32} {m : Nat} (ha : 0 ≤ a.toInt) (hb : 0 ≤ b.toInt) (ha2 : a.toInt < (2 ^ m : Nat)) (hb2 : b.toInt < (2 ^ m : Nat)) : 0 ≤ (a ^^^ b).toInt ∧ (a ^^^ b).toInt < (2 ^ m : Nat) := by
  have hm : (a ^^^ b).toBitVec.msb = false := by
    rw [Int32.toBitVec_xor, BitVec.msb_xor, xb_msb ha, xb_msb hb, Bool.xor_false]
  rw [xb_nat ha] at ha2
  rw [xb_nat hb] at hb2
  rw [xb_of hm, Int32.toBitVec_xor, BitVec.toNat_xor]
  have := Nat.xor_lt_two_pow (x := a.toBitVec.toNat) (y := b.toBitVec.toNat) (n := m) (by omega) (by omega)
  omega
theorem xb_shr {a b : Int32} (ha : 0 ≤ a.toInt) : 0 ≤ (a >>> b).toInt ∧ (a >>> b).toInt ≤ a.toInt := by
  have e : (a >>> b).toInt = a.toInt >>> ((b.toBitVec.smod 32).toNat) := by
    show ((a >>> b).toBitVec).toInt = _
    rw [Int32.toBitVec_shiftRight]
    exact BitVec.toInt_sshiftRight
  rw [e, Int.shiftRight_eq_div_pow]
  have hp : (0 : Int) < ((2 ^ (b.toBitVec.smod 32).toNat : Nat) : Int) := by exact_mod_cast Nat.two_pow_pos _
  refine ⟨Int.ediv_nonneg ha (Int.le_of_lt hp), Int.ediv_le_self _ ha⟩
theorem xb_shl1 {b : Int32} (h0 : 0 ≤ b.toInt) (h1 : b.toInt ≤ 30) : ((1 : Int32) <<< (b &&& 31)).toInt = ((2 ^ b.toInt.toNat : Nat) : Int) := by
  have key : ∀ k : Fin 31, ((1 : Int32) <<< (Int32.ofNat k.val &&& 31)).toInt = ((2 ^ k.val : Nat) : Int) := by decide
  have e : b = Int32.ofNat b.toInt.toNat := by
    rw [← Int32.toInt_inj, Int32.toInt_ofNat_of_lt (by omega)]
    omega
  have := key ⟨b.toInt.toNat, by omega⟩
  rw [← e] at this
  exact this
theorem xb_div {a b : Int32} (ha : 0 ≤ a.toInt) (hb : 0 < b.toInt) : 0 ≤ (a / b).toInt ∧ (a / b).toInt = a.toInt / b.toInt := by
  have e : (a / b).toInt = a.toInt.tdiv b.toInt := Int32.toInt_div_of_ne_right a b (fun h => by rw [h] at hb; exact absurd hb (by decide))
  rw [e, Int.tdiv_eq_ediv_of_nonneg ha]
  exact ⟨Int.ediv_nonneg ha (Int.le_of_lt hb), rfl⟩
theorem xb_rng (a : Int32) : xI32a ≤ a.toInt ∧ a.toInt ≤ xI32b := by
  have h1 := a.le_toInt
  have h2 := a.toInt_lt
  have e1 : xI32a = -2147483648 := rfl
  have e2 : xI32b = 2147483647 := rfl
  omega
theorem xb_rngL (a : Int64) : xI64a ≤ a.toInt ∧ a.toInt ≤ xI64b := by
  have h1 := a.le_toInt
  have h2 := a.toInt_lt
  have e1 : xI64a = -9223372036854775808 := rfl
  have e2 : xI64b = 9223372036854775807 := rfl
  omega
theorem xb_bm32 {z : Int} (h1 : xI32a ≤ z) (h2 : z ≤ xI32b) : z.bmod (2 ^ 32) = z := by
  have e1 : xI32a = -2147483648 := rfl
  have e2 : xI32b = 2147483647 := rfl
  apply Int.bmod_eq_of_le <;> omega
theorem xb_bm64 {z : Int} (h1 : xI64a ≤ z) (h2 : z ≤ xI64b) : z.bmod (2 ^ 64) = z := by
  have e1 : xI64a = -9223372036854775808 := rfl
  have e2 : xI64b = 9223372036854775807 := rfl
  apply Int.bmod_eq_of_le <;> omega
theorem xb_rem {a b : Int32} (ha : 0 ≤ a.toInt) (hb : 0 < b.toInt) : 0 ≤ (a - a / b * b).toInt ∧ (a - a / b * b).toInt < b.toInt := by
  obtain ⟨d0, d1⟩ := xb_div ha hb
  have hr := xb_rng a
  have h1 := Int.emod_nonneg a.toInt (b := b.toInt) (by omega)
  have h2 := Int.emod_lt_of_pos a.toInt hb
  have h3 := Int.mul_ediv_add_emod a.toInt b.toInt
  rw [Int.mul_comm] at h3
  have hm : (a / b * b).toInt = a.toInt / b.toInt * b.toInt := by
    rw [Int32.toInt_mul, d1]
    exact xb_bm32 (by have := Int.mul_nonneg (d1 ▸ d0) (Int.le_of_lt hb); have e1 : xI32a = -2147483648 := rfl; omega) (by omega)
  have e : (a - a / b * b).toInt = a.toInt % b.toInt := by
    rw [Int32.toInt_sub, hm]
    have hb3 := xb_rng b
    rw [xb_bm32 (by have e1 : xI32a = -2147483648 := rfl; omega) (by omega)]
    omega
  rw [e]
  exact ⟨h1, h2⟩
theorem xb_i2b (a : Int32) : a.toInt8.toInt32.toInt = a.toInt.bmod (2 ^ 8) := by
  rw [Int8.toInt_toInt32, Int32.toInt_toInt8]
theorem xb_i2s (a : Int32) : a.toInt16.toInt32.toInt = a.toInt.bmod (2 ^ 16) := by
  rw [Int16.toInt_toInt32, Int32.toInt_toInt16]
theorem xb_i2c (a : Int32) : 0 ≤ ((a.toUInt32 % 65536).toInt32).toInt ∧ ((a.toUInt32 % 65536).toInt32).toInt ≤ 65535 ∧ (0 ≤ a.toInt → a.toInt ≤ 65535 → ((a.toUInt32 % 65536).toInt32).toInt = a.toInt) := by
  have hn : (a.toUInt32 % 65536).toNat = a.toBitVec.toNat % 65536 := by
    rw [UInt32.toNat_mod]
    rfl
  have hl : (a.toUInt32 % 65536).toNat < 65536 := by rw [hn]; omega
  have e : ((a.toUInt32 % 65536).toInt32).toInt = ((a.toUInt32 % 65536).toNat : Int) := by
    show (a.toUInt32 % 65536).toBitVec.toInt = _
    rw [BitVec.toInt_eq_toNat_of_lt (by show 2 * (a.toUInt32 % 65536).toNat < 2 ^ 32; omega)]
    rfl
  refine ⟨by rw [e]; omega, by rw [e]; omega, fun h0 h1 => ?_⟩
  rw [e, hn]
  have := xb_nat h0
  omega
