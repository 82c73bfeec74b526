/-! By hand: enactSpare, its loop -/
section XEY
variable {τ : List Nat} {h : zm_H} {og : Nat → Option zm_C}
theorem zh_e12 {d S : Nat} {x : Int32} (τ0 : List Nat) (h0 : zm_H) (hH : xHI xKT xSG τ h) (hX : xX τ h) (hF : xF (xms [(7, 0), (7, 1), (7, 2), (8, 0), (200, 8)]) τ0 h0 τ h) (hW : xW h ≤ xW h0) (hS : τ[S]? = some 200) : ∀ (n : Nat) (k : Int32), 0 ≤ k.toInt → k.toInt + n = 12 → zm_Y og (d + 1) 72 12 [(3, .int k), (2, .ref S), (0, .ref 7), (1, .int x)] [] h (xeQ τ0 h0) := by
  have s0 := hX.1
  obtain ⟨fs, h7, hl, hsp⟩ := xcf_o hH (s0 7 rfl) (show xKT 7 = some (.inl (3, _)) from rfl)
  have h7 : h[7]? = some (.inr (3, fs)) := h7
  have f0 : fs[0]? = some (.ref 8) := xone hl hsp rfl
  obtain ⟨a, f1, a0, a12⟩ : ∃ c : Int32, fs[1]? = some (.int c) ∧ (0 : Int) ≤ c.toInt ∧ c.toInt ≤ (12 : Int) := by
    have hl2 : 1 < fs.length := by rw [hl]; decide
    have g := List.getElem?_eq_getElem hl2
    obtain ⟨a, ma, sa⟩ := hsp 1 _ _ rfl g
    have ma := List.mem_singleton.mp ma
    subst ma
    obtain ⟨c, e, c0, c1⟩ := sa
    exact ⟨c, by rw [g, e], c0, c1⟩
  obtain ⟨kB, h8, b2, b3⟩ := xcf_a hH (s0 8 rfl) (show xKT 8 = some (.inr (5, 12, _)) from rfl)
  obtain ⟨g, rfl⟩ := b2
  have h8 : h[8]? = some (.inl (5, 12, .inr (.inr g))) := h8
  intro n
  induction n with
  | zero =>
    intro k k0 kn
    refine zy_n 2 (mr := zm_m72) rfl rfl ?_
    refine zy_h (mr := zm_m72) rfl rfl (zh_get h7 f1) ?_
    refine zy_b (mr := zm_m72) rfl rfl rfl ?_
    refine zc_ge (fun _ => zh_e61 τ0 h0 hH hX hF hW hS) (fun hc => ?_)
    exact absurd (Int32.le_iff_toInt_le.mpr (by omega)) hc
  | succ n ih =>
    intro k k0 kn
    refine zy_n 2 (mr := zm_m72) rfl rfl ?_
    refine zy_h (mr := zm_m72) rfl rfl (zh_get h7 f1) ?_
    refine zy_b (mr := zm_m72) rfl rfl rfl ?_
    refine zc_ge (fun _ => zh_e61 τ0 h0 hH hX hF hW hS) (fun hc => ?_)
    have hka : k.toInt < a.toInt := by
      have : ¬ a.toInt ≤ k.toInt := fun q => hc (Int32.le_iff_toInt_le.mpr q)
      omega
    obtain ⟨hin, hjn, hjlt⟩ := xin_ok (j := k) (n := 12) k0 (by omega)
    have hne := hX.2.2.1 7 8 5 12 k.toNatClampNeg a g (s0 7 rfl) (s0 8 rfl) (by simp only [xfd, h7]; exact f0) (by simp only [xfd, h7]; exact f1) h8 (by omega) (by omega)
    obtain ⟨T, hT⟩ := Option.ne_none_iff_exists'.mp hne
    obtain ⟨y, y1, y2, -⟩ := b3 k.toNatClampNeg (by show _ < 12; omega)
    have ev : zm_kv (.inr (.inr g)) k.toNatClampNeg = .ref T := by
      show va_rf (g _) = _
      rw [hT]
      rfl
    rw [ev] at y2
    have tT : τ[T]? = some 200 := by
      simp only [List.mem_cons, List.not_mem_nil, or_false] at y1
      rcases y1 with rfl | rfl
      · cases y2
      · obtain ⟨T', e, q⟩ := y2
        cases e
        exact q
    obtain ⟨ts, hhT, tl, tsp⟩ := xcf_o hH tT (show xKT 200 = some (.inl (9, _)) from rfl)
    have hhT : h[T]? = some (.inr (9, ts)) := hhT
    obtain ⟨w, f8⟩ : ∃ c : Int32, ts[8]? = some (.int c) := by
      have hl2 : 8 < ts.length := by rw [tl]; decide
      have g := List.getElem?_eq_getElem hl2
      obtain ⟨a, ma, sa⟩ := tsp 8 _ _ rfl g
      have ma := List.mem_singleton.mp ma
      subst ma
      obtain ⟨c, e, -, -⟩ := sa
      exact ⟨c, by rw [g, e]⟩
    refine zy_n 1 (mr := zm_m72) rfl rfl ?_
    refine zy_h (mr := zm_m72) rfl rfl (zh_get h7 f0) ?_
    refine zy_n 1 (mr := zm_m72) rfl rfl ?_
    refine zy_h (mr := zm_m72) rfl rfl (zh_aald h8 rfl hin hT) ?_
    refine zy_h (mr := zm_m72) rfl rfl (zh_get hhT f8) ?_
    refine zy_n 1 (mr := zm_m72) rfl rfl ?_
    refine zy_b (mr := zm_m72) rfl rfl rfl ?_
    refine zc_ne (fun _ => ?_) (fun _ => zh_e33 τ0 h0 hH hX hF hW hS h8 k0 (by omega) hT tT)
    have k1 : (k + 1).toInt = k.toInt + 1 := by
      rw [Int32.toInt_add]
      have e1 : xI32a = -2147483648 := rfl
      have e2 : xI32b = 2147483647 := rfl
      exact xb_bm32 (by show xI32a ≤ k.toInt + 1; omega) (by show k.toInt + 1 ≤ xI32b; omega)
    refine zy_n 2 (mr := zm_m72) rfl rfl ?_
    exact ih (k + 1) (by omega) (by omega)
end XEY
