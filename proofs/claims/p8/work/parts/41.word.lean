/-! What the tables say of words and strings -/
def xwt (x : Nat) : Bool := match xwh[x]? with
  | none => false
  | some j => Nat.beq (zm_wh x) j && (match zm_wrl zm_wl j with
    | none => false
    | some q => (bif Nat.ble x 16 then decide (q.1.toInt = (x : Int)) else decide (q.1.toInt = -1) && (decide (q.2.1.toInt = 0) && decide (q.2.2.toInt = 0))) && ((decide (0 ≤ q.2.1.toInt) && decide (q.2.1.toInt ≤ 1)) && ((decide (0 ≤ q.2.2.toInt) && decide (q.2.2.toInt ≤ 1)) && (match xsl (j + 57) with
      | none => false
      | some n => Nat.ble 2 n && Nat.ble n 10))))
theorem xwt_all : (List.range 36).all xwt = true := by decide +kernel
theorem xw_ok {x j : Nat} (h : xwh[x]? = some j) : zm_wh x = j ∧ ∃ s a b n, zm_wrl zm_wl j = some (s, a, b) ∧ (x ≤ 16 → s.toInt = (x : Int)) ∧ (17 ≤ x → s.toInt = -1 ∧ a.toInt = 0 ∧ b.toInt = 0) ∧ (0 ≤ a.toInt ∧ a.toInt ≤ 1) ∧ (0 ≤ b.toInt ∧ b.toInt ≤ 1) ∧ xsl (j + 57) = some n ∧ 2 ≤ n ∧ n ≤ 10 := by
  have hl := (List.getElem?_eq_some_iff.mp h).1
  have e : xwh.length = 36 := rfl
  have h1 := List.all_eq_true.mp xwt_all x (List.mem_range.mpr (by omega))
  unfold xwt at h1
  rw [h] at h1
  simp only [Bool.and_eq_true] at h1
  obtain ⟨h2, h3⟩ := h1
  refine ⟨Nat.eq_of_beq_eq_true h2, ?_⟩
  split at h3
  · cases h3
  · rename_i q hq
    obtain ⟨s, a, b⟩ := q
    simp only [Bool.and_eq_true, decide_eq_true_eq] at h3
    obtain ⟨h4, h5, h6, h7⟩ := h3
    split at h7
    · cases h7
    · rename_i n hn
      simp only [Bool.and_eq_true, Nat.ble_eq] at h7
      refine ⟨s, a, b, n, hq, fun hx => ?_, fun hx => ?_, h5, h6, hn, h7.1, h7.2⟩
      · rw [Nat.ble_eq_true_of_le hx] at h4
        simpa using h4
      · have e1 : Nat.ble x 16 = false := by
          cases e2 : Nat.ble x 16 with
          | false => rfl
          | true => have := Nat.le_of_ble_eq_true e2; omega
        rw [e1] at h4
        simpa using h4
theorem xw_is {x j : Nat} (h : xwh[x]? = some j) : zm_isw j = true := by
  obtain ⟨-, s, a, b, n, h1, -⟩ := xw_ok h
  unfold zm_isw
  rw [h1]
  rfl
theorem xs_mem : ∀ {t : List (Nat × List Int32)} {j : Nat} {l : List Int32}, zm_sbl t j = some l → ∃ q ∈ t, q.2 = l
  | [], j, l, h => by cases h
  | q :: t, j, l, h => by
    simp only [zm_sbl] at h
    cases h1 : Nat.beq q.1 j with
    | true =>
      rw [h1] at h
      cases h
      exact ⟨q, List.mem_cons_self, rfl⟩
    | false =>
      rw [h1] at h
      obtain ⟨p, a, b⟩ := xs_mem h
      exact ⟨p, List.mem_cons_of_mem _ a, b⟩
theorem xs_all : zm_sx.all (fun q => Nat.ble q.2.length 60000 && q.2.all (fun b => decide (0 ≤ b.toInt) && decide (b.toInt ≤ 127))) = true := by decide +kernel
theorem xs_ok {j : Nat} {l : List Int32} (h : zm_sb j = some l) : l.length ≤ 60000 ∧ ∀ i : Nat, 0 ≤ (l.getD i 0).toInt ∧ (l.getD i 0).toInt ≤ 127 := by
  obtain ⟨q, hq, rfl⟩ := xs_mem h
  have h1 := List.all_eq_true.mp xs_all q hq
  simp only [Bool.and_eq_true, List.all_eq_true, decide_eq_true_eq] at h1
  refine ⟨Nat.le_of_ble_eq_true h1.1, fun i => ?_⟩
  rw [List.getD_eq_getElem?_getD]
  cases hv : q.2[i]? with
  | none => exact ⟨by decide, by decide⟩
  | some b => exact h1.2 b (List.mem_of_getElem? hv)
theorem xsl_ok {j n : Nat} (h : xsl j = some n) : ∃ l, zm_sb j = some l ∧ l.length = n := by
  unfold xsl at h
  cases hl : zm_sb j with
  | none => rw [hl] at h; cases h
  | some l =>
    rw [hl] at h
    cases h
    exact ⟨l, rfl, rfl⟩
/-- the bytes of a string, by the handle of its array -/
theorem xba {j : Nat} {l : List Int32} (h : zm_sb j = some l) : zm_ba (j + 100) = some (.inl (2, l.length, .inl (fun i => l.getD i 0))) := by
  unfold zm_ba
  have e1 : Nat.beq (j + 100) 1 = false := by
    cases e : Nat.beq (j + 100) 1 with
    | false => rfl
    | true => have := Nat.eq_of_beq_eq_true e; omega
  have e2 : Nat.ble 100 (j + 100) = true := Nat.ble_eq_true_of_le (by omega)
  rw [e1, e2, Nat.add_sub_cancel, h]
  rfl
theorem xch {v : Int32} (h0 : 0 ≤ v.toInt) (h1 : v.toInt ≤ 65535) : v.toUInt32.toUInt16.toUInt32.toInt32 = v := by
  have hb : v.toBitVec.toNat ≤ 65535 := by
    have e : v.toInt = v.toBitVec.toInt := rfl
    rw [e, BitVec.toInt_eq_toNat_cond] at h0 h1
    have := v.toBitVec.isLt
    split at h0 <;> omega
  apply Int32.toBitVec_inj.mp
  apply BitVec.eq_of_toNat_eq
  show ((v.toBitVec.setWidth 16).setWidth 32).toNat = _
  simp only [BitVec.toNat_setWidth]
  omega
