/-! By hand: String.length, String.charAt -/
section XSTR
variable {og : Nat → Option zm_C} {h : zm_H} {d : Nat}
theorem zh_sget {i j f : Nat} {c : Nat} {w v : Value} {ps : List Nat} {st : List Value} (hv : zm_sf j f = some v) : zm_hp zm_df og (.getfield i) (41, f, c, w, ps) (.retAddr j :: st) h = some (v :: st, h) := by
  have e : zm_of 41 j f = some v := hv
  simp only [zm_hp, e]
theorem zh_coder {j : Nat} {l : List Int32} (hl : zm_sb j = some l) : zm_Y og d 287 0 [(0, .retAddr j)] [] h (fun r h' => r = some (.int 0) ∧ h' = h) := by
  refine zy_h (mr := zm_m287) rfl rfl (show _ = some ([.int 1], h) from rfl) ?_
  refine zy_b (mr := zm_m287) rfl rfl (show _ = some (6, []) from rfl) ?_
  refine zy_n 1 (mr := zm_m287) rfl (show _ = some (7, [(0, .retAddr j)], [.retAddr j]) from rfl) ?_
  refine zy_h (mr := zm_m287) rfl rfl (zh_sget (v := .int 0) (by simp only [zm_sf, hl])) ?_
  refine zy_n 1 (mr := zm_m287) rfl (show _ = some (14, [(0, .retAddr j)], [.int 0]) from rfl) ?_
  exact zy_r (mr := zm_m287) rfl rfl (show _ = some (some (.int 0)) from rfl) ⟨rfl, rfl⟩
theorem zh_latin {j : Nat} {l : List Int32} (hl : zm_sb j = some l) : zm_Y og d 289 0 [(0, .retAddr j)] [] h (fun r h' => r = some (.int 1) ∧ h' = h) := by
  refine zy_h (mr := zm_m289) rfl rfl (show _ = some ([.int 1], h) from rfl) ?_
  refine zy_b (mr := zm_m289) rfl rfl (show _ = some (6, []) from rfl) ?_
  refine zy_n 1 (mr := zm_m289) rfl (show _ = some (7, [(0, .retAddr j)], [.retAddr j]) from rfl) ?_
  refine zy_h (mr := zm_m289) rfl rfl (zh_sget (v := .int 0) (by simp only [zm_sf, hl])) ?_
  refine zy_b (mr := zm_m289) rfl rfl (show _ = some (13, []) from rfl) ?_
  refine zy_n 2 (mr := zm_m289) rfl (show _ = some (18, [(0, .retAddr j)], [.int 1]) from rfl) ?_
  exact zy_r (mr := zm_m289) rfl rfl (show _ = some (some (.int 1)) from rfl) ⟨rfl, rfl⟩
theorem zh_scall {k m c b j : Nat} {l : List Int32} {w : Value} {ps : List Nat} {rest : List Value} (hl : zm_sb j = some l) (h8 : zm_cat rest ≤ 8) : zm_call (.invokevirtual k) (m, 0, 41, w, ps) (.retAddr j :: rest) h = some (m, [.retAddr j], rest) := by
  have e : (zm_sb j).isSome = true := by rw [hl]; rfl
  simp only [zm_call, List.drop_zero, List.take_zero, List.reverse_nil, e, Nat.beq_refl, Bool.and_self, Nat.ble_eq_true_of_le h8, cond_true]
theorem zh_slen {j : Nat} {l : List Int32} (hl : zm_sb j = some l) : zm_Y og (d + 1) 286 0 [(0, .retAddr j)] [] h (fun r h' => r = some (.int (Int32.ofNat l.length)) ∧ h' = h) := by
  refine zy_n 1 (mr := zm_m286) rfl (show _ = some (1, [(0, .retAddr j)], [.retAddr j]) from rfl) ?_
  refine zy_h (mr := zm_m286) rfl rfl (zh_sget (v := .retAddr (j + 100)) (by simp only [zm_sf, hl])) ?_
  refine zy_h (mr := zm_m286) rfl rfl (show _ = some ([.int (Int32.ofNat l.length)], h) from by simp only [zm_hp, zm_rd, xba hl]) ?_
  refine zy_n 1 (mr := zm_m286) rfl (show _ = some (6, [(0, .retAddr j)], [.retAddr j, .int (Int32.ofNat l.length)]) from rfl) ?_
  refine zy_c (mr := zm_m286) (mc := zm_m287) rfl rfl (zh_scall (b := 0) (c := 0) hl (show zm_cat [.int (Int32.ofNat l.length)] ≤ 8 by show 1 ≤ 8; omega)) rfl rfl ?_
  refine (zh_coder hl).mono (fun r h' hq => ?_)
  obtain ⟨rfl, rfl⟩ := hq
  refine zy_n 1 (mr := zm_m286) rfl (show _ = some (10, [(0, .retAddr j)], [.int (Int32.ofNat l.length >>> ((0 : Int32) &&& 31))]) from rfl) ?_
  have e : Int32.ofNat l.length >>> ((0 : Int32) &&& 31) = Int32.ofNat l.length := by
    apply Int32.toBitVec_inj.mp
    simp [Int32.toBitVec_shiftRight]
  rw [e]
  exact zy_r (mr := zm_m286) rfl rfl (show _ = some (some (.int (Int32.ofNat l.length))) from rfl) ⟨rfl, rfl⟩
theorem zh_pre {i n : Int32} {v : Value} (hv : v.category = 1) (h0 : ¬ i < 0) (h1 : i < n) : zm_Y og d 292 0 [(0, .int i), (1, .int n), (2, v)] [] h (fun r h' => r = some (.int i) ∧ h' = h) := by
  refine zy_n 1 (mr := zm_m292) rfl (show _ = some (1, [(0, .int i), (1, .int n), (2, v)], [.int i]) from rfl) ?_
  refine zy_b (mr := zm_m292) rfl rfl (show _ = some (zm_if .lt i 9 4, []) from rfl) ?_
  refine zi_lt (fun e => absurd e h0) (fun _ => ?_)
  refine zy_n 2 (mr := zm_m292) rfl (show _ = some (6, [(0, .int i), (1, .int n), (2, v)], [.int n, .int i]) from rfl) ?_
  refine zy_b (mr := zm_m292) rfl rfl (show _ = some (zm_ic .lt i n 16 9, []) from rfl) ?_
  refine zc_lt (fun _ => ?_) (fun e => absurd h1 e)
  refine zy_n 1 (mr := zm_m292) rfl (show _ = some (17, [(0, .int i), (1, .int n), (2, v)], [.int i]) from rfl) ?_
  exact zy_r (mr := zm_m292) rfl rfl (show _ = some (some (.int i)) from rfl) ⟨rfl, rfl⟩
theorem zm_gs_cat (og : Nat → Option zm_C) : (zm_gs og (.retAddr 95)).category = 1 := by
  unfold zm_gs
  cases og 95 <;> rfl
theorem zh_chk {i n : Int32} (h0 : ¬ i < 0) (h1 : i < n) : zm_Y og (d + 1) 291 0 [(0, .int i), (1, .int n)] [] h (fun r h' => r = none ∧ h' = h) := by
  refine zy_n 2 (mr := zm_m291) rfl (show _ = some (2, [(0, .int i), (1, .int n)], [.int n, .int i]) from rfl) ?_
  refine zy_h (mr := zm_m291) rfl rfl zh_gets ?_
  have hc := zm_gs_cat og
  generalize zm_gs og (.retAddr 95) = v at hc
  have hcat : Nat.ble (zm_cat [.int i, .int n, v]) 3 = true := by
    show Nat.ble (1 + (1 + (v.category + 0))) 3 = true
    rw [hc]
    rfl
  refine zy_c (mr := zm_m291) (mc := zm_m292) rfl rfl (show _ = some (292, [.int i, .int n, v], []) from rfl) rfl hcat ?_
  have el : lv_args 0 [.int i, .int n, v] = [(0, .int i), (1, .int n), (2, v)] := rfl
  show zm_Y og d 292 0 (lv_args 0 [.int i, .int n, v]) [] h _
  rw [el]
  refine (zh_pre hc h0 h1).mono (fun r h' hq => ?_)
  obtain ⟨rfl, rfl⟩ := hq
  refine zy_n 1 (mr := zm_m291) rfl (show _ = some (9, [(0, .int i), (1, .int n)], []) from rfl) ?_
  exact zy_r (mr := zm_m291) rfl rfl (show _ = some none from rfl) ⟨rfl, rfl⟩
theorem zh_lat {j : Nat} {l : List Int32} {i : Int32} (hl : zm_sb j = some l) (h0 : ¬ i < 0) (h1 : i < Int32.ofNat l.length) (hin : zm_in i l.length = true) : zm_Y og (d + 2) 290 0 [(0, .retAddr (j + 100)), (1, .int i)] [] h (fun r h' => (∃ z : Int32, r = some (.int z) ∧ 0 ≤ z.toInt ∧ z.toInt ≤ 65535) ∧ h' = h) := by
  refine zy_n 2 (mr := zm_m290) rfl (show _ = some (2, [(0, .retAddr (j + 100)), (1, .int i)], [.retAddr (j + 100), .int i]) from rfl) ?_
  refine zy_h (mr := zm_m290) rfl rfl (show _ = some ([.int (Int32.ofNat l.length), .int i], h) from by simp only [zm_hp, zm_rd, xba hl]) ?_
  refine zy_c (mr := zm_m290) (mc := zm_m291) rfl rfl (show _ = some (291, [.int i, .int (Int32.ofNat l.length)], []) from rfl) rfl rfl ?_
  refine (zh_chk h0 h1).mono (fun r h' hq => ?_)
  obtain ⟨rfl, rfl⟩ := hq
  refine zy_n 2 (mr := zm_m290) rfl (show _ = some (8, [(0, .retAddr (j + 100)), (1, .int i)], [.int i, .retAddr (j + 100)]) from rfl) ?_
  refine zy_h (mr := zm_m290) rfl rfl (show _ = some ([.int (l.getD i.toNatClampNeg 0)], h') from by simp only [zm_hp, zm_ald, zm_rd, xba hl, zm_lds, hin, Nat.beq_refl, Bool.true_or, Bool.and_self, cond_true, zm_kv]) ?_
  have hr := (xs_ok hl).2 i.toNatClampNeg
  generalize l.getD i.toNatClampNeg 0 = b at hr
  refine zy_n 3 (mr := zm_m290) rfl (show _ = some (14, [(0, .retAddr (j + 100)), (1, .int i)], [.int ((b &&& 255).toUInt32 % 65536).toInt32]) from rfl) ?_
  have hz : 0 ≤ ((b &&& 255).toUInt32 % 65536).toInt32.toInt ∧ ((b &&& 255).toUInt32 % 65536).toInt32.toInt ≤ 65535 := ⟨(xb_i2c (b &&& 255)).1, (xb_i2c (b &&& 255)).2.1⟩
  generalize ((b &&& 255).toUInt32 % 65536).toInt32 = z at hz
  have e : zm_ret zm_m290.1.2.2.2 .ireturn [.int z] = some (some (.int z)) := by
    have e2 : ((z.toUInt32.toUInt16.toUInt32.toInt32 == z) && (decide (0 ≤ z) && decide (z ≤ 65535))) = true := by
      simp only [Bool.and_eq_true, beq_iff_eq, decide_eq_true_eq]
      exact ⟨xch hz.1 hz.2, Int32.le_iff_toInt_le.mpr hz.1, Int32.le_iff_toInt_le.mpr hz.2⟩
    show (bif ((z.toUInt32.toUInt16.toUInt32.toInt32 == z) && (decide (0 ≤ z) && decide (z ≤ 65535))) then _ else _) = _
    rw [e2]
    rfl
  exact zy_r (mr := zm_m290) rfl rfl e ⟨⟨z, rfl, hz⟩, rfl⟩
theorem zh_char {j : Nat} {l : List Int32} {i : Int32} (hl : zm_sb j = some l) (h0 : ¬ i < 0) (h1 : i < Int32.ofNat l.length) (hin : zm_in i l.length = true) : zm_Y og (d + 3) 288 0 [(0, .retAddr j), (1, .int i)] [] h (fun r h' => (∃ z : Int32, r = some (.int z) ∧ 0 ≤ z.toInt ∧ z.toInt ≤ 65535) ∧ h' = h) := by
  refine zy_n 1 (mr := zm_m288) rfl (show _ = some (1, [(0, .retAddr j), (1, .int i)], [.retAddr j]) from rfl) ?_
  refine zy_c (mr := zm_m288) (mc := zm_m289) rfl rfl (zh_scall (b := 0) (c := 0) hl (show zm_cat [] ≤ 8 by show 0 ≤ 8; omega)) rfl rfl ?_
  refine (zh_latin hl).mono (fun r h' hq => ?_)
  obtain ⟨rfl, rfl⟩ := hq
  refine zy_b (mr := zm_m288) rfl rfl (show _ = some (7, []) from rfl) ?_
  refine zy_n 1 (mr := zm_m288) rfl (show _ = some (8, [(0, .retAddr j), (1, .int i)], [.retAddr j]) from rfl) ?_
  refine zy_h (mr := zm_m288) rfl rfl (zh_sget (v := .retAddr (j + 100)) (by simp only [zm_sf, hl])) ?_
  refine zy_n 1 (mr := zm_m288) rfl (show _ = some (12, [(0, .retAddr j), (1, .int i)], [.int i, .retAddr (j + 100)]) from rfl) ?_
  refine zy_c (mr := zm_m288) (mc := zm_m290) rfl rfl (show _ = some (290, [.retAddr (j + 100), .int i], []) from rfl) rfl rfl ?_
  refine (zh_lat hl h0 h1 hin).mono (fun r h' hq => ?_)
  obtain ⟨⟨z, rfl, hz⟩, rfl⟩ := hq
  have e : zm_ret zm_m288.1.2.2.2 .ireturn [.int z] = some (some (.int z)) := by
    have e2 : ((z.toUInt32.toUInt16.toUInt32.toInt32 == z) && (decide (0 ≤ z) && decide (z ≤ 65535))) = true := by
      simp only [Bool.and_eq_true, beq_iff_eq, decide_eq_true_eq]
      exact ⟨xch hz.1 hz.2, Int32.le_iff_toInt_le.mpr hz.1, Int32.le_iff_toInt_le.mpr hz.2⟩
    show (bif ((z.toUInt32.toUInt16.toUInt32.toInt32 == z) && (decide (0 ≤ z) && decide (z ≤ 65535))) then _ else _) = _
    rw [e2]
    rfl
  exact zy_r (mr := zm_m288) rfl rfl e ⟨⟨z, rfl, hz⟩, rfl⟩
theorem xv_900 : xV xVV xX xW og xc_900 := by
  intro ρ σ τ h lc hH hX hD hl
  have hlen : ρ.length = 1 := hD.1.2.symm
  obtain ⟨v, hv, n, j, he, hs, rfl⟩ := hl _ List.mem_cons_self
  obtain ⟨l, hb, rfl⟩ := xsl_ok hs
  have h6 := (xs_ok hb).1
  refine zy_sub [(0, .retAddr j)] (by simp) (fun q hq => by rw [List.mem_singleton.mp hq]; exact hv) ?_
  refine (zh_slen (d := 11) hb).mono (fun r h' hq => ?_)
  obtain ⟨rfl, rfl⟩ := hq
  have hi : (Int32.ofNat l.length).toInt = (l.length : Int) := Int32.toInt_ofNat_of_lt (by omega)
  have hno : ∀ {α : Type} {P : α → Prop}, ∀ q ∈ ([] : List α), P q := fun q hq => by cases hq
  refine ⟨τ, hH, hX, xF_refl _ _ _, by omega, _, List.mem_cons_self, [], [], ?_, _, rfl, ?_⟩
  · refine ⟨⟨⟨hno, hno⟩, ?_⟩, ?_, hno, hno⟩
    · show 1 = _
      rw [List.append_nil, hlen]
    · rw [List.append_nil]
      exact hD.2.1
  · rw [List.append_nil, hi]
    exact he
theorem xv_901 : xV xVV xX xW og xc_901 := by
  intro ρ σ τ h lc hH hX hD hl
  have hlen : ρ.length = 2 := hD.1.2.symm
  obtain ⟨v, hv, n, j, he, hs, rfl⟩ := hl _ List.mem_cons_self
  obtain ⟨v1, hv1, i, rfl, hi⟩ := hl _ (List.mem_cons_of_mem _ List.mem_cons_self)
  obtain ⟨l, hb, rfl⟩ := xsl_ok hs
  have h6 := (xs_ok hb).1
  have he : xe ρ (.ofNat 0, [(0, .ofNat 1)]) = some (l.length : Int) := he
  have hi : xe ρ (.ofNat 0, [(1, .ofNat 1)]) = some i.toInt := hi
  have hn := hD.1.1
  have c1 : 0 ≤ (l.length : Int) - 1 - i.toInt := by
    have hc := hn.2 _ List.mem_cons_self
    obtain ⟨z, hz, hz0⟩ := hc
    have e2 : xe ρ (.negSucc 0, [(1, .negSucc 0), (0, .ofNat 1)]) = some ((l.length : Int) - 1 - i.toInt) := by
      have a0 : ρ[0]? = some (l.length : Int) := by
        match ρ, hlen with
        | [p, q], _ =>
          simp only [xe, xt] at he
          simp at he
          simp [he]
      have a1 : ρ[1]? = some i.toInt := by
        match ρ, hlen with
        | [p, q], _ =>
          simp only [xe, xt] at hi
          simp at hi
          simp [hi]
      simp only [xe, xt, a0, a1]
      congr 1
      show (-1 : Int) + (-1 * i.toInt + (1 * (l.length : Int) + 0)) = _
      omega
    have hz : xe ρ (.negSucc 0, [(1, .negSucc 0), (0, .ofNat 1)]) = some z := hz
    rw [e2] at hz
    cases hz
    exact hz0
  have c0 : 0 ≤ i.toInt := by
    obtain ⟨z, hz, hz0, -⟩ := hn.1 _ (List.mem_cons_of_mem _ List.mem_cons_self)
    have hz : ρ[1]? = some z := hz
    have e2 : i.toInt = z := by
      match ρ, hlen with
      | [p, q], _ =>
        simp only [xe, xt] at hi
        simp at hi
        simp at hz
        omega
    have hz0 : 0 ≤ z := hz0
    omega
  have hL : (Int32.ofNat l.length).toInt = (l.length : Int) := Int32.toInt_ofNat_of_lt (by omega)
  obtain ⟨hin, -, -⟩ := xin_ok (j := i) (n := l.length) c0 (by omega)
  refine zy_sub [(0, .retAddr j), (1, .int i)] (by simp) (fun q hq => by
    rcases List.mem_cons.mp hq with rfl | hq
    · exact hv
    · rw [List.mem_singleton.mp hq]; exact hv1) ?_
  refine (zh_char (d := 9) hb (xnng c0).1 (Int32.lt_iff_toInt_lt.mpr (by rw [hL]; omega)) hin).mono (fun r h' hq => ?_)
  obtain ⟨⟨z, rfl, hz⟩, rfl⟩ := hq
  have hg : (ρ ++ [z.toInt])[2]? = some z.toInt := by
    rw [List.getElem?_append_right (by omega), hlen]
    rfl
  have hno : ∀ {α : Type} {P : α → Prop}, ∀ q ∈ ([] : List α), P q := fun q hq => by cases hq
  refine ⟨τ, hH, hX, xF_refl _ _ _, by omega, _, List.mem_cons_self, [z.toInt], [], ?_, z, rfl, xe_sym (s := 2) hg⟩
  refine ⟨⟨⟨?_, hno⟩, ?_⟩, ?_, hno, hno⟩
  · intro q hq
    have hq := List.mem_singleton.mp hq
    subst hq
    exact ⟨z.toInt, hg, hz.1, hz.2⟩
  · show 3 = _
    rw [List.length_append, hlen]
    rfl
  · rw [List.append_nil]
    exact hD.2.1
end XSTR
