/-! The words of the tables, by their places -/
def zm_W : List Cond := lw_tbl.filter goodWord
theorem zm_W_in : ∀ w ∈ zm_W, w ∈ lw_tbl := fun w h => (List.mem_filter.mp h).1
theorem zm_W_good : ∀ w ∈ zm_W, goodWord w = true := fun w h => (List.mem_filter.mp h).2
def zm_Wk : Nat → List Cond := fun k => match k with
  | 0 => k2_sels lw_privs
  | 1 => tables_1_1
  | 2 => tables_1_2
  | 3 => tables_1_3
  | 4 => tables_1_4
  | 5 => tables_1_5
  | 6 => tables_1_6
  | 7 => tables_1_7
  | 8 => tables_1_8
  | 9 => tables_1_9
  | _ => tables_1_10
theorem zm_Wk_in : ∀ (k : Nat) (w : Cond), w ∈ zm_Wk k → w ∈ lw_tbl := by
  intro k w h
  unfold lw_tbl tables_1
  simp only [List.mem_append]
  match k, h with
  | 0, h => simp only [zm_Wk] at h; simp [h]
  | 1, h => simp only [zm_Wk] at h; simp [h]
  | 2, h => simp only [zm_Wk] at h; simp [h]
  | 3, h => simp only [zm_Wk] at h; simp [h]
  | 4, h => simp only [zm_Wk] at h; simp [h]
  | 5, h => simp only [zm_Wk] at h; simp [h]
  | 6, h => simp only [zm_Wk] at h; simp [h]
  | 7, h => simp only [zm_Wk] at h; simp [h]
  | 8, h => simp only [zm_Wk] at h; simp [h]
  | 9, h => simp only [zm_Wk] at h; simp [h]
  | k + 10, h => simp only [zm_Wk] at h; simp [h]
def zm_lk (p : Nat) : Option Cond := (zm_Wk (p / 1000))[p % 1000]?
theorem zm_cw {w : Cond} (k j : Nat) (h : (zm_Wk k)[j]? = some w) (hg : goodWord w = true) : w ∈ zm_W := List.mem_filter.mpr ⟨zm_Wk_in k w (List.mem_of_getElem? h), hg⟩
theorem zm_lk_in {p : Nat} {w : Cond} (h : zm_lk p = some w) : w ∈ lw_tbl := zm_Wk_in _ w (List.mem_of_getElem? h)
