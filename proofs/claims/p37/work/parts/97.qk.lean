/-! The least cost of two rows, and what is matched: numbers alone -/
def xEr (g : Int) (c F : Nat → Int) (b : Int) : Nat → Int
  | 0 => b
  | s + 1 => min (c s + F s) (min (g + F (s + 1)) (g + xEr g c F b s))
/-- what is left of the first row, of the second one -/
def xE (g : Int) (C : Nat → Nat → Int) : Nat → Nat → Int
  | 0 => fun s => (s : Int) * g
  | r + 1 => xEr g (C r) (xE g C r) (((r : Int) + 1) * g)
section XMA
variable {g : Int} {C : Nat → Nat → Int}
theorem xE_0 (s : Nat) : xE g C 0 s = (s : Int) * g := rfl
theorem xE_s0 (r : Nat) : xE g C (r + 1) 0 = ((r : Int) + 1) * g := rfl
theorem xE_ss (r s : Nat) : xE g C (r + 1) (s + 1) = min (C r s + xE g C r s) (min (g + xE g C r (s + 1)) (g + xE g C (r + 1) s)) := rfl
theorem xE_r0 (r : Nat) : xE g C r 0 = (r : Int) * g := by
  cases r with
  | zero => rfl
  | succ r =>
    rw [xE_s0]
    simp only [Int.natCast_add, Int.natCast_one]
theorem xE_b (hg : 0 ≤ g) (hC : ∀ r s, 0 ≤ C r s) : ∀ r s : Nat, 0 ≤ xE g C r s ∧ xE g C r s ≤ (r : Int) * g + (s : Int) * g := by
  have hn : ∀ k : Nat, 0 ≤ (k : Int) * g := fun k => Int.mul_nonneg (Int.natCast_nonneg k) hg
  intro r
  induction r with
  | zero =>
    intro s
    rw [xE_0]
    have := hn s
    simp only [Int.natCast_zero, Int.zero_mul]
    omega
  | succ r ihr =>
    intro s
    have e1 : ((r + 1 : Nat) : Int) * g = (r : Int) * g + g := by
      rw [Int.natCast_add, Int.add_mul]
      simp
    induction s with
    | zero =>
      rw [xE_s0, Int.add_mul, Int.one_mul, e1]
      have := hn r
      simp only [Int.natCast_zero, Int.zero_mul]
      omega
    | succ s ihs =>
      have e2 : ((s + 1 : Nat) : Int) * g = (s : Int) * g + g := by
        rw [Int.natCast_add, Int.add_mul]
        simp
      rw [xE_ss]
      have a1 := ihr s
      have a2 := ihr (s + 1)
      have a3 := hC r s
      rw [e1] at ihs
      rw [e1, e2]
      rw [e2] at a2
      omega
end XMA
/-- from the i-th number of the first row and the j-th of the second one on -/
def xVV2 (g : Int) (X Y : Nat → Int) (n m i j : Nat) : Int := xE g (fun r s => ((X (n - 1 - r) - Y (m - 1 - s)).natAbs : Int)) (n - i) (m - j)
section XMV
variable {g : Int} {X Y : Nat → Int} {n m : Nat}
theorem xVV2_n {j : Nat} : xVV2 g X Y n m n j = ((m - j : Nat) : Int) * g := by
  unfold xVV2
  rw [Nat.sub_self]
  rfl
theorem xVV2_m {i : Nat} : xVV2 g X Y n m i m = ((n - i : Nat) : Int) * g := by
  unfold xVV2
  rw [Nat.sub_self, xE_r0]
theorem xVV2_s {i j : Nat} (hi : i < n) (hj : j < m) : xVV2 g X Y n m i j = min (((X i - Y j).natAbs : Int) + xVV2 g X Y n m (i + 1) (j + 1)) (min (g + xVV2 g X Y n m (i + 1) j) (g + xVV2 g X Y n m i (j + 1))) := by
  unfold xVV2
  obtain ⟨r, hr⟩ : ∃ r, n - i = r + 1 := ⟨n - i - 1, by omega⟩
  obtain ⟨s, hs⟩ : ∃ s, m - j = s + 1 := ⟨m - j - 1, by omega⟩
  rw [hr, hs, show n - (i + 1) = r by omega, show m - (j + 1) = s by omega, xE_ss, show n - 1 - r = i by omega, show m - 1 - s = j by omega]
theorem xVV2_b (hg : 0 ≤ g) (i j : Nat) : 0 ≤ xVV2 g X Y n m i j ∧ xVV2 g X Y n m i j ≤ ((n - i : Nat) : Int) * g + ((m - j : Nat) : Int) * g := xE_b hg (fun _ _ => Int.natCast_nonneg _) _ _
theorem xVV2_60 (hg : 0 ≤ g) (hg2 : g ≤ 1000) (hn : n ≤ 60) (hm : m ≤ 60) (i j : Nat) : 0 ≤ xVV2 g X Y n m i j ∧ xVV2 g X Y n m i j ≤ 120000 := by
  have h := xVV2_b (X := X) (Y := Y) (n := n) (m := m) hg i j
  have h1 : ((n - i : Nat) : Int) * g ≤ 60 * 1000 := Int.mul_le_mul (by omega) hg2 hg (by omega)
  have h2 : ((m - j : Nat) : Int) * g ≤ 60 * 1000 := Int.mul_le_mul (by omega) hg2 hg (by omega)
  omega
end XMV
/-- which way it goes on -/
def xdec (V : Nat → Nat → Int) (c : Nat → Nat → Int) (g : Int) (i j : Nat) : Nat := if V i j = c i j + V (i + 1) (j + 1) then 0 else if V i j = g + V (i + 1) j then 1 else 2
def xtr (V : Nat → Nat → Int) (c : Nat → Nat → Int) (g : Int) (n m : Nat) : Nat → Nat → Nat → (Nat → Int32) → Nat → Int32
  | 0, _, _, P => P
  | f + 1, i, j, P => if i < n ∧ j < m then (if xdec V c g i j = 0 then xtr V c g n m f (i + 1) (j + 1) (upd P i (Int32.ofNat j)) else if xdec V c g i j = 1 then xtr V c g n m f (i + 1) j P else xtr V c g n m f i (j + 1) P) else P
section XTR
variable {V c : Nat → Nat → Int} {g : Int} {n m : Nat}
theorem xtr_end {f i j : Nat} {P : Nat → Int32} (h : ¬ (i < n ∧ j < m)) : xtr V c g n m f i j P = P := by
  cases f with
  | zero => rfl
  | succ f => exact if_neg h
theorem xtr_0 {f i j : Nat} {P : Nat → Int32} (h : i < n ∧ j < m) (hd : xdec V c g i j = 0) : xtr V c g n m (f + 1) i j P = xtr V c g n m f (i + 1) (j + 1) (upd P i (Int32.ofNat j)) := by
  show (if i < n ∧ j < m then _ else _) = _
  rw [if_pos h, if_pos hd]
theorem xtr_1 {f i j : Nat} {P : Nat → Int32} (h : i < n ∧ j < m) (hd : xdec V c g i j = 1) : xtr V c g n m (f + 1) i j P = xtr V c g n m f (i + 1) j P := by
  show (if i < n ∧ j < m then _ else _) = _
  rw [if_pos h, if_neg (by omega), if_pos hd]
theorem xtr_2 {f i j : Nat} {P : Nat → Int32} (h : i < n ∧ j < m) (h0 : ¬ xdec V c g i j = 0) (h1 : ¬ xdec V c g i j = 1) : xtr V c g n m (f + 1) i j P = xtr V c g n m f i (j + 1) P := by
  show (if i < n ∧ j < m then _ else _) = _
  rw [if_pos h, if_neg h0, if_neg h1]
end XTR
