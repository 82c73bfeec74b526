/-! By hand: the model's match -/
def xMM : List (Nat × Nat) := [(55, 0), (55, 108), (115, 0), (116, 0)]
set_option maxRecDepth 20000 in
theorem xm106 {τ : List Nat} {h : zm_H} (hH : xHI xKT xSG τ h) : xfd h 55 106 = some (.ref 115) := xfo_ref (k := 55) (f := 106) (a := 115) hH rfl rfl rfl
section XMT
variable {og : Nat → Option zm_C} {τ0 τ : List Nat} {h0 h : zm_H} {fZ f : Nat → Int32}
def xmI (τ0 : List Nat) (h0 : zm_H) (τ : List Nat) (h : zm_H) (fZ f : Nat → Int32) : Prop := xHI xKT xSG τ h ∧ xX τ h ∧ xF (xms xMM) τ0 h0 τ h ∧ xW h ≤ xW h0 ∧ h[57]? = some (.inl (0, 4, .inl fZ)) ∧ h[115]? = some (.inl (0, 3721, .inl f))
theorem xmI_seg {ms : List (Nat × Nat)} {τ1 : List Nat} {h1 : zm_H} (hI : xmI τ0 h0 τ h fZ f) (hm : ∀ k g, xms ms k g = true → xms xMM k g = true) (m1 : xms ms 57 0 = false) (m2 : xms ms 115 0 = false) (hH1 : xHI xKT xSG τ1 h1) (hX1 : xX τ1 h1) (hF : xF (xms ms) τ h τ1 h1) (hW : xW h1 ≤ xW h) : xmI τ0 h0 τ1 h1 fZ f := by
  obtain ⟨a, b, c, d, e, g⟩ := hI
  exact ⟨hH1, hX1, xF_trans c (xF_weak hF hm), by omega, xkeep_a a rfl hF m1 e, xkeep_a a rfl hF m2 g⟩
theorem xmI_set {i : Nat} {v : Int32} (hI : xmI τ0 h0 τ h fZ f) : xmI τ0 h0 τ (h.set 115 (.inl (0, 3721, .inl (upd f i v)))) fZ (upd f i v) := by
  obtain ⟨a, b, c, d, e, g⟩ := hI
  obtain ⟨hX', hW⟩ := xXW_ok.2.1 τ h 115 115 0 3721 (.inl f) (.inl (upd f i v)) b (a.2.2 115 rfl) rfl g
  refine ⟨xHI_set a g (a.2.2 115 rfl) (show xKT 115 = some (.inr _) from rfl) ⟨_, rfl, ⟨_, rfl⟩, fun j hj => ⟨_, List.mem_singleton.mpr rfl, ⟨upd f i v j, rfl, (xb_rng _).1, (xb_rng _).2⟩, ?_⟩⟩, hX', xF_trans c ?_, by omega, ?_, ?_⟩
  · have hj : j < 3721 := hj
    refine ⟨?_, ?_, Or.inl rfl⟩
    · show (0 : Int) ≤ (j : Int); omega
    · show (j : Int) ≤ 3720; omega
  · refine ⟨⟨[], (List.append_nil τ).symm⟩, fun x kd y w h1 h2 h3 => by rw [xfd_seta g]; exact h3, fun x kd y h1 h2 h3 => ?_⟩
    rw [xgs g]
    by_cases ex : 115 = x
    · subst ex
      rw [a.2.2 115 rfl] at h1
      cases h1
      cases h2
    · rw [if_neg ex]; exact h3
  · rw [xgs g, if_neg (by decide)]; exact e
  · rw [xgs g, if_pos rfl]
/-- the last column: gap for each row to the end -/
def xcol (f : Nat → Int32) (SA SB : Nat) (g : Int) (lo : Nat) : Prop := ∀ i : Nat, lo ≤ i → i ≤ SA → (f (61 * i + SB)).toInt = g * ((SA : Int) - (i : Int))
theorem xcol_bnd {SA SB lo i : Nat} {g : Int} (hg : 0 ≤ g ∧ g ≤ 1000) (hSA : SA ≤ 60) (hc : xcol f SA SB g lo) (h1 : lo ≤ i) (h2 : i ≤ SA) : 0 ≤ (f (61 * i + SB)).toInt ∧ (f (61 * i + SB)).toInt ≤ 60000 := by
  rw [hc i h1 h2]
  have hk : 0 ≤ (SA : Int) - (i : Int) := by omega
  have hk2 : (SA : Int) - (i : Int) ≤ 60 := by omega
  refine ⟨Int.mul_nonneg hg.1 hk, ?_⟩
  have := Int.mul_le_mul hg.2 hk2 hk (by omega : (0 : Int) ≤ 1000)
  omega
theorem xcol_upd {SA SB n m : Nat} {g : Int} {v : Int32} (hSB : SB ≤ 60) (hm : m < SB) (hc : xcol f SA SB g n) : xcol (upd f (61 * n + m) v) SA SB g n := by
  intro i h1 h2
  have hne : ¬ 61 * i + SB = 61 * n + m := by omega
  show (if 61 * i + SB = 61 * n + m then v else f (61 * i + SB)).toInt = _
  rw [if_neg hne]
  exact hc i h1 h2
theorem xsub1 {y : Int32} {m : Nat} (hy : y.toInt = (m : Int)) (hm : m ≤ 100) : (y + -1).toInt = (m : Int) - 1 := by
  rw [Int32.toInt_add]
  have e1 : (-1 : Int32).toInt = -1 := rfl
  have ea : xI32a = -2147483648 := rfl
  have eb : xI32b = 2147483647 := rfl
  rw [e1, hy, xb_bm32 (by omega) (by omega)]
  omega
theorem xidx {x y : Int32} {n m : Nat} (hx : x.toInt = (n : Int)) (hy : y.toInt = (m : Int)) (hn : n ≤ 60) (hm : m ≤ 60) : (61 * x + y).toInt = ((61 * n + m : Nat) : Int) := by
  have ea : xI32a = -2147483648 := rfl
  have eb : xI32b = 2147483647 := rfl
  have e1 : (61 : Int32).toInt = 61 := rfl
  have e2 : (61 * x).toInt = 61 * (n : Int) := by
    rw [Int32.toInt_mul, e1, hx, xb_bm32 (by omega) (by omega)]
  rw [Int32.toInt_add, e2, hy, xb_bm32 (by omega) (by omega)]
  omega
set_option maxRecDepth 20000 in
theorem zh_m328 {Q : Option Value → zm_H → Prop} {a b g x y v : Int32} {n m : Nat} (hI : xmI τ0 h0 τ h fZ f) (hx : x.toInt = (n : Int)) (hy : y.toInt = (m : Int)) (hn : n ≤ 60) (hm : m ≤ 60) (kk : zm_Y og 12 276 156 [(0, .ref 55), (1, .int a), (2, .int b), (3, .int g), (4, .int x), (5, .int (y + -1))] [] (h.set 115 (.inl (0, 3721, .inl (upd f (61 * n + m) v)))) Q) : zm_Y og 12 276 328 [(0, .ref 55), (1, .int a), (2, .int b), (3, .int g), (4, .int x), (5, .int y), (6, .int v)] [] h Q := by
  have hix := xidx hx hy hn hm
  have hin := xin_ok (j := 61 * x + y) (n := 3721) (by omega) (by omega)
  have hnn : (61 * x + y).toNatClampNeg = 61 * n + m := by
    have := hin.2.1
    omega
  refine zy_n 1 (mr := zm_m276) rfl (show _ = some (329, [(0, .ref 55), (1, .int a), (2, .int b), (3, .int g), (4, .int x), (5, .int y), (6, .int v)], [.ref 55]) from rfl) ?_
  refine zy_h (mr := zm_m276) rfl rfl (zh_gm hI.1 (xm106 hI.1)) ?_
  refine zy_n 6 (mr := zm_m276) rfl (show _ = some (342, [(0, .ref 55), (1, .int a), (2, .int b), (3, .int g), (4, .int x), (5, .int y), (6, .int v)], [.int v, .int (61 * x + y), .ref 115]) from rfl) ?_
  refine zy_h (mr := zm_m276) rfl rfl (zh_iast hI.2.2.2.2.2 hin.1) ?_
  rw [hnn]
  refine zy_n 2 (mr := zm_m276) rfl (show _ = some (156, [(5, .int (y + -1)), (0, .ref 55), (1, .int a), (2, .int b), (3, .int g), (4, .int x), (6, .int v)], []) from rfl) ?_
  exact zy_sub _ (by simp) (fun q hq => by simp only [List.mem_cons, List.not_mem_nil, or_false] at hq; rcases hq with rfl | rfl | rfl | rfl | rfl | rfl <;> rfl) kk
theorem xmsz {a : Int32} {S : Nat} (hI : xmI τ0 h0 τ h fZ f) (ha : 0 ≤ a.toInt ∧ a.toInt ≤ 3) (hs : fZ a.toNatClampNeg = Int32.ofNat S) (hS : S ≤ 60) : ∃ (n : Nat) (v : Int32), (0 : Int) + (1 * a.toInt + 0) = (n : Int) ∧ xar h 57 n = some (.int v) ∧ (0 : Int) + (1 * (Int32.ofNat S).toInt + 0) = v.toInt := by
  have h1 := xin_ok (j := a) (n := 4) ha.1 (by omega)
  refine ⟨a.toNatClampNeg, Int32.ofNat S, by have := h1.2.1; omega, ?_, by omega⟩
  simp only [xar, hI.2.2.2.2.1, if_pos h1.2.2, zm_kv, hs]
set_option maxRecDepth 20000 in
/-- below the last column -/
theorem zh_m156 {Q : Option Value → zm_H → Prop} {a b g x : Int32} {n SA SB : Nat} (ha : 0 ≤ a.toInt ∧ a.toInt ≤ 3) (hb : 0 ≤ b.toInt ∧ b.toInt ≤ 3) (hg : 0 ≤ g.toInt ∧ g.toInt ≤ 1000) (hsa : fZ a.toNatClampNeg = Int32.ofNat SA) (hsb : fZ b.toNatClampNeg = Int32.ofNat SB) (hSA : SA ≤ 60) (hSB : SB ≤ 60) (hx : x.toInt = (n : Int)) (hn : n ≤ SA)
    (kk : ∀ (τ1 : List Nat) (h1 : zm_H) (f1 : Nat → Int32), xmI τ0 h0 τ1 h1 fZ f1 → xcol f1 SA SB g.toInt n → zm_Y og 12 276 143 [(0, .ref 55), (1, .int a), (2, .int b), (3, .int g), (4, .int (x + -1))] [] h1 Q) : ∀ (m : Nat) (y : Int32) (τ : List Nat) (h : zm_H) (f : Nat → Int32), y.toInt = (m : Int) - 1 → m ≤ SB → xmI τ0 h0 τ h fZ f → xcol f SA SB g.toInt n → zm_Y og 12 276 156 [(0, .ref 55), (1, .int a), (2, .int b), (3, .int g), (4, .int x), (5, .int y)] [] h Q
  | 0, y, τ, h, f, hy, hm, hI, hc => by
    refine zy_n 1 (mr := zm_m276) rfl (show _ = some (158, [(0, .ref 55), (1, .int a), (2, .int b), (3, .int g), (4, .int x), (5, .int y)], [.int y]) from rfl) ?_
    refine zy_b (mr := zm_m276) rfl rfl (show _ = some (zm_if .lt y 349 161, []) from rfl) ?_
    refine zi_lt (fun _ => ?_) (fun e => absurd (Int32.lt_iff_toInt_lt.mpr (by rw [hy]; decide)) e)
    refine zy_n 2 (mr := zm_m276) rfl (show _ = some (143, [(4, .int (x + -1)), (0, .ref 55), (1, .int a), (2, .int b), (3, .int g), (5, .int y)], []) from rfl) ?_
    exact zy_sub _ (by simp) (fun q hq => by simp only [List.mem_cons, List.not_mem_nil, or_false] at hq; rcases hq with rfl | rfl | rfl | rfl | rfl <;> rfl) (kk τ h f hI hc)
  | m + 1, y, τ, h, f, hy, hm, hI, hc => by
    have hy1 : y.toInt = (m : Int) := by omega
    have eA := (xofn (k := SA) (by omega)).1
    have eB := (xofn (k := SB) (by omega)).1
    refine zy_n 1 (mr := zm_m276) rfl (show _ = some (158, [(0, .ref 55), (1, .int a), (2, .int b), (3, .int g), (4, .int x), (5, .int y)], [.int y]) from rfl) ?_
    refine zy_b (mr := zm_m276) rfl rfl (show _ = some (zm_if .lt y 349 161, []) from rfl) ?_
    refine zi_lt (fun e => absurd e (xnng (by omega)).1) (fun _ => ?_)
    refine xq_xs_m1 (sa := Int32.ofNat SA) (sb := Int32.ofNat SB) hI.1 hI.2.1 ha hb hg (by omega) (by omega) (by omega) (by omega) (by omega) (by omega) (xmsz hI ha hsa hSA) (xmsz hI hb hsb hSB) (fun τ1 h1 x7 v6 p1 p2 p3 p4 _ _ _ => ?_)
    have hI1 := xmI_seg hI (fun k g hk => by cases hk) rfl rfl p1 p2 p3 p4
    refine zh_m328 hI1 hx hy1 (by omega) (by omega) ?_
    exact zh_m156 ha hb hg hsa hsb hSA hSB hx hn kk m (y + -1) _ _ _ (xsub1 hy1 (by omega)) (by omega) (xmI_set hI1) (xcol_upd hSB (by omega) hc)
end XMT
