/-! The answers are told -/
theorem zg_0 {a1 : Int32} {a2 : Int32} {a3 : Int32} {v w : Int32} (hv : zf_0 a1 a2 a3 v) (hw : zf_0 a1 a2 a3 w) : v = w := by
  by_cases hc : zw a1 0 3 ∧ zw a2 0 50 ∧ zw a3 0 200
  · rw [hv.1 hc, hw.1 hc]
  · rw [hv.2 hc, hw.2 hc]
theorem zg_1 {a1 : Int32} {a2 : Int32} {a3 : Int32} {a4 : Int32} {v w : Int32} (hv : zf_1 a1 a2 a3 a4 v) (hw : zf_1 a1 a2 a3 a4 w) : v = w := by
  by_cases hc : zw a1 0 1000 ∧ zw a2 0 1000 ∧ zw a3 0 60 ∧ zw a4 0 20
  · rw [hv.1 hc, hw.1 hc]
  · rw [hv.2 hc, hw.2 hc]
theorem zg_2 {a1 : Int32} {a2 : Int32} {a3 : Int32} {a4 : Int32} {v w : Int32} (hv : zf_2 a1 a2 a3 a4 v) (hw : zf_2 a1 a2 a3 a4 w) : v = w := by
  by_cases hc : zw a1 0 3 ∧ zw a2 0 10000 ∧ zw a3 1 9 ∧ zw a4 1 60
  · rw [hv.1 hc, hw.1 hc]
  · rw [hv.2 hc, hw.2 hc]
theorem zg_3 {a1 : Int32} {a2 : Int32} {a3 : Int32} {a4 : Int32} {v w : Int32} (hv : zf_3 a1 a2 a3 a4 v) (hw : zf_3 a1 a2 a3 a4 w) : v = w := by
  exact Eq.trans hv (Eq.symm hw)
theorem zg_4 {a1 : Int32} {a2 : Int32} {a3 : Int32} {v w : Int32} (hv : zf_4 a1 a2 a3 v) (hw : zf_4 a1 a2 a3 w) : v = w := by
  exact Eq.trans hv (Eq.symm hw)
theorem zg_5 {a1 : Int32} {a2 : Int32} {a3 : Int32} {v w : Int32} (hv : zf_5 a1 a2 a3 v) (hw : zf_5 a1 a2 a3 w) : v = w := by
  exact Eq.trans hv (Eq.symm hw)
theorem zg_6 {a1 : Int32} {a2 : Int32} {v w : Int32} (hv : zf_6 a1 a2 v) (hw : zf_6 a1 a2 w) : v = w := by
  exact Eq.trans hv (Eq.symm hw)
theorem zg_7 {a1 : Int32} {v w : Int32} (hv : zf_7 a1 v) (hw : zf_7 a1 w) : v = w := by
  exact Eq.trans hv (Eq.symm hw)
theorem zg_8 {a1 : Int32} {a2 : Int32} {a3 : Int32} {a4 : Int32} {a5 : Int32} {v w : Int32} (hv : zf_8 a1 a2 a3 a4 a5 v) (hw : zf_8 a1 a2 a3 a4 a5 w) : v = w := by
  exact Eq.trans hv (Eq.symm hw)
theorem zg_9 {a1 : Int32} {v w : Int32} (hv : zf_9 a1 v) (hw : zf_9 a1 w) : v = w := by
  by_cases hc : zw a1 0 0
  · rw [hv.1 hc, hw.1 hc]
  · rw [hv.2 hc, hw.2 hc]
theorem zg_10 {a1 : Int32} {v w : Int32} (hv : zf_10 a1 v) (hw : zf_10 a1 w) : v = w := by
  by_cases hc : zw a1 0 99
  · rw [hv.1 hc, hw.1 hc]
  · rw [hv.2 hc, hw.2 hc]
theorem zg_11  {v w : Int32} (hv : zf_11  v) (hw : zf_11  w) : v = w := by
  exact Eq.trans hv (Eq.symm hw)
theorem zg_12 {a1 : Int32} {a2 : Int32} {a3 : Int32} {v w : Int32} (hv : zf_12 a1 a2 a3 v) (hw : zf_12 a1 a2 a3 w) : v = w := by
  exact Eq.trans hv (Eq.symm hw)
theorem zg_13 {a1 : Int32} {a2 : Int32} {a3 : Int32} {v w : Int32} (hv : zf_13 a1 a2 a3 v) (hw : zf_13 a1 a2 a3 w) : v = w := by
  exact Eq.trans hv (Eq.symm hw)
theorem zg_14 {a1 : Int32} {a2 : Int32} {a3 : Int32} {v w : Int64} (hv : zf_14 a1 a2 a3 v) (hw : zf_14 a1 a2 a3 w) : v = w := by
  exact Eq.trans hv (Eq.symm hw)
theorem zg_15 {a1 : Int32} {v w : Int64} (hv : zf_15 a1 v) (hw : zf_15 a1 w) : v = w := by
  exact Eq.trans hv (Eq.symm hw)
theorem zg_16 {a1 : Int32} {a2 : Int32} {v w : Int64} (hv : zf_16 a1 a2 v) (hw : zf_16 a1 a2 w) : v = w := by
  exact Eq.trans hv (Eq.symm hw)
theorem zg_17 {a1 : Int32} {v w : Int32} (hv : zf_17 a1 v) (hw : zf_17 a1 w) : v = w := by
  exact Eq.trans hv (Eq.symm hw)
theorem zg_18  {v w : Int32} (hv : zf_18  v) (hw : zf_18  w) : v = w := by
  exact Eq.trans hv (Eq.symm hw)
theorem zg_19 {a1 : Int32} {a2 : Int32} {a3 : Int32} {a4 : Int32} {a5 : Int32} {a6 : Int32} {v w : Int32} (hv : zf_19 a1 a2 a3 a4 a5 a6 v) (hw : zf_19 a1 a2 a3 a4 a5 a6 w) : v = w := by
  by_cases hc : zw a1 0 3 ∧ zw a2 1 30 ∧ zw a3 0 5
  · rw [hv.1 hc, hw.1 hc]
  · rw [hv.2 hc, hw.2 hc]
theorem zg_20 {a1 : Int32} {a2 : Int32} {v w : Int32} (hv : zf_20 a1 a2 v) (hw : zf_20 a1 a2 w) : v = w := by
  exact Eq.trans hv (Eq.symm hw)
theorem zg_21 {a1 : Int32} {a2 : Int32} {v w : Int32} (hv : zf_21 a1 a2 v) (hw : zf_21 a1 a2 w) : v = w := by
  exact Eq.trans hv (Eq.symm hw)
theorem zg_22 {a1 : Int32} {v w : Int32} (hv : zf_22 a1 v) (hw : zf_22 a1 w) : v = w := by
  exact Eq.trans hv (Eq.symm hw)
theorem zg_23 {a1 : Int32} {a2 : Int32} {v w : Int32} (hv : zf_23 a1 a2 v) (hw : zf_23 a1 a2 w) : v = w := by
  exact Eq.trans hv (Eq.symm hw)
theorem zg_24 {a1 : Int32} {a2 : Int32} {v w : Int32} (hv : zf_24 a1 a2 v) (hw : zf_24 a1 a2 w) : v = w := by
  by_cases hc : zw a1 0 3 ∧ zw a2 0 3
  · rw [hv.1 hc, hw.1 hc]
  · rw [hv.2 hc, hw.2 hc]
theorem zg_25 {a1 : Int32} {a2 : Int32} {v w : Int32} (hv : zf_25 a1 a2 v) (hw : zf_25 a1 a2 w) : v = w := by
  exact Eq.trans hv (Eq.symm hw)
theorem zg_26 {a1 : Int32} {a2 : Int32} {v w : Int32} (hv : zf_26 a1 a2 v) (hw : zf_26 a1 a2 w) : v = w := by
  by_cases hc : zw a1 0 3 ∧ zw a2 0 500
  · rw [hv.1 hc, hw.1 hc]
  · rw [hv.2 hc, hw.2 hc]
theorem zg_27 {a1 : Int32} {a2 : Int32} {a3 : Int32} {v w : Int32} (hv : zf_27 a1 a2 a3 v) (hw : zf_27 a1 a2 a3 w) : v = w := by
  exact Eq.trans hv (Eq.symm hw)
theorem zg_28  {v w : Int64} (hv : zf_28  v) (hw : zf_28  w) : v = w := by
  exact Eq.trans hv (Eq.symm hw)
theorem zg_29 {a1 : Int32} {a2 : Int32} {a3 : Int32} {a4 : Int32} {v w : Int32} (hv : zf_29 a1 a2 a3 a4 v) (hw : zf_29 a1 a2 a3 a4 w) : v = w := by
  exact Eq.trans hv (Eq.symm hw)
theorem zg_30 {a1 : Int32} {a2 : Int32} {a3 : Int32} {a4 : Int32} {v w : Int32} (hv : zf_30 a1 a2 a3 a4 v) (hw : zf_30 a1 a2 a3 a4 w) : v = w := by
  exact Eq.trans hv (Eq.symm hw)
theorem zg_31 {a1 : Int32} {a2 : Int32} {a3 : Int32} {v w : Int32} (hv : zf_31 a1 a2 a3 v) (hw : zf_31 a1 a2 a3 w) : v = w := by
  by_cases hc : zw a1 0 3 ∧ zw a2 0 3 ∧ ¬ a1 = a2 ∧ zw a3 0 3
  · rw [hv.1 hc, hw.1 hc]
  · rw [hv.2 hc, hw.2 hc]
theorem zg_32 {a1 : Int32} {v w : Int32} (hv : zf_32 a1 v) (hw : zf_32 a1 w) : v = w := by
  by_cases hc : zw a1 0 0
  · rw [hv.1 hc, hw.1 hc]
  · rw [hv.2 hc, hw.2 hc]
theorem zg_33 {a1 : Int32} {a2 : Int32} {v w : Int64} (hv : zf_33 a1 a2 v) (hw : zf_33 a1 a2 w) : v = w := by
  exact Eq.trans hv (Eq.symm hw)
theorem zg_34 {a1 : Int32} {a2 : Int32} {a3 : Int32} {v w : Int32} (hv : zf_34 a1 a2 a3 v) (hw : zf_34 a1 a2 a3 w) : v = w := by
  by_cases hc : zw a1 0 3 ∧ zw a2 0 3 ∧ zw a3 0 1000
  · rw [hv.1 hc, hw.1 hc]
  · rw [hv.2 hc, hw.2 hc]
theorem zg_35 {a1 : Int32} {v w : Int32} (hv : zf_35 a1 v) (hw : zf_35 a1 w) : v = w := by
  exact Eq.trans hv (Eq.symm hw)
theorem zg_36 {a1 : Int32} {a2 : Int32} {v w : Int64} (hv : zf_36 a1 a2 v) (hw : zf_36 a1 a2 w) : v = w := by
  by_cases hc : zw a1 1 10 ∧ zw a2 0 4
  · rw [hv.1 hc, hw.1 hc]
  · rw [hv.2 hc, hw.2 hc]
theorem zg_37 {a1 : Int32} {v w : Int32} (hv : zf_37 a1 v) (hw : zf_37 a1 w) : v = w := by
  by_cases hc : 0 ≤ a1
  · rw [hv.1 hc, hw.1 hc]
  · rw [hv.2 hc, hw.2 hc]
theorem zg_38 {a1 : Int32} {a2 : Int32} {v w : Int32} (hv : zf_38 a1 a2 v) (hw : zf_38 a1 a2 w) : v = w := by
  exact Eq.trans hv (Eq.symm hw)
theorem zg_39 {a1 : Int32} {a2 : Int32} {a3 : Int32} {v w : Int32} (hv : zf_39 a1 a2 a3 v) (hw : zf_39 a1 a2 a3 w) : v = w := by
  exact Eq.trans hv (Eq.symm hw)
theorem zg_40 {a1 : Int32} {v w : Int64} (hv : zf_40 a1 v) (hw : zf_40 a1 w) : v = w := by
  exact Eq.trans hv (Eq.symm hw)
theorem zg_41 {a1 : Int32} {v w : Int32} (hv : zf_41 a1 v) (hw : zf_41 a1 w) : v = w := by
  by_cases hc : a1.toInt < 0 ∨ 9 < a1.toInt
  · rw [hv.2 hc, hw.2 hc]
  · rw [hv.1 hc, hw.1 hc]
theorem zg_42 {a1 : Int32} {a2 : Int32} {a3 : Int32} {v w : Int32} (hv : zf_42 a1 a2 a3 v) (hw : zf_42 a1 a2 a3 w) : v = w := by
  by_cases hc : zw a1 0 3 ∧ zw a2 0 3 ∧ a3 ≤ 60
  · by_cases h0 : 0 ≤ a3
    · rw [(hv.1 hc).1 h0, (hw.1 hc).1 h0]
    · rw [(hv.1 hc).2 h0, (hw.1 hc).2 h0]
  · rw [hv.2 hc, hw.2 hc]
theorem zg_43 {a1 : Int32} {v w : Int32} (hv : zf_43 a1 v) (hw : zf_43 a1 w) : v = w := by
  exact Eq.trans hv (Eq.symm hw)
theorem zg_44 {a1 : Int32} {a2 : Int32} {a3 : Int64} {v w : Int32} (hv : zf_44 a1 a2 a3 v) (hw : zf_44 a1 a2 a3 w) : v = w := by
  by_cases hc : zw a1 0 3
  · rw [hv.1 hc, hw.1 hc]
  · rw [hv.2 hc, hw.2 hc]
theorem zg_45 {a1 : Int32} {a2 : Int32} {a3 : Int32} {a4 : Int32} {a5 : Int32} {v w : Int32} (hv : zf_45 a1 a2 a3 a4 a5 v) (hw : zf_45 a1 a2 a3 a4 a5 w) : v = w := by
  by_cases hc : zw a1 0 3 ∧ zw a3 0 3
  · rw [hv.1 hc, hw.1 hc]
  · rw [hv.2 hc, hw.2 hc]
