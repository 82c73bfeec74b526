/-! ROOMS and OPENINGS (made by a program) -/
section XR5
set_option maxRecDepth 100000
variable {og : Nat → Option zm_C} {τ τ' : List Nat} {h h' : zm_H} {ms : List (Nat × Nat)} {ad rp : Nat → Nat} {n : Nat} {dn rc oc : Nat → Int32} {st rf : Nat → Int32} {nr y L : Int32} {wk : Nat → Int32} {wd sz : Nat → Int32} {nm : Nat → Nat → Int64}
theorem xif6 {a : Nat} (hH : xHI xKT xSG τ h) (ha : τ[a]? = some 207) : ∃ B : Nat, xfd h a 6 = some (.ref B) ∧ τ[B]? = some 208 := by
  obtain ⟨fs, q1, q2, q3⟩ := xcf_o hH ha (show xKT 207 = some (.inl (2, _)) from rfl)
  have hl : fs.length = 11 := q2
  have g : fs[6]? = some fs[6] := List.getElem?_eq_getElem (by omega)
  obtain ⟨x, hx, s1⟩ := q3 6 _ _ rfl g
  have hx := List.mem_singleton.mp hx
  subst hx
  obtain ⟨B, e, hB⟩ := s1
  rw [e] at g
  refine ⟨B, ?_, hB⟩
  have q1 : h[a]? = some (.inr (2, fs)) := q1
  unfold xfd
  rw [q1]
  exact g
theorem xad5 {x y : Int32} (h1 : -1000000000 ≤ x.toInt + y.toInt) (h2 : x.toInt + y.toInt ≤ 1000000000) : (x + y).toInt = x.toInt + y.toInt := by
  have ea : xI32a = -2147483648 := rfl
  have eb : xI32b = 2147483647 := rfl
  rw [Int32.toInt_add, xb_bm32 (by omega) (by omega)]
theorem zh_arm {d A : Nat} {k r : Int32} (hH : xHI xKT xSG τ h) (hX : xX τ h) (hA : τ[A]? = some 207) (k0 : 0 ≤ k.toInt ∧ k.toInt ≤ 3) (f5 : xfd h A 5 = some (.int r)) (r0 : 0 ≤ r.toInt) (r6 : r.toInt < 6) : zm_Y og d 25 0 [(0, .ref A), (1, .int k)] [] h (xCO τ h 0 [(207, 5), (208, 0)] (fun q => q = some (.int r)) (fun τ1 h1 => τ1 = τ ∧ xfd h1 A 5 = some (.int (r + 1)) ∧ ∀ (b g : Nat) (v : Value), (b ≠ A ∨ g ≠ 5) → xfd h b g = some v → xfd h1 b g = some v)) := by
  obtain ⟨B, f6, hB⟩ := xif6 hH hA
  have hjr := xnat r r0
  have e1 : (1 : Int32).toInt = 1 := rfl
  have er : (r + 1).toInt = r.toInt + 1 := by rw [xad5 (by omega) (by omega), e1]
  refine zy_n 1 (mr := zm_m25) rfl (show _ = some (1, [(0, .ref A), (1, .int k)], [.ref A]) from rfl) ?_
  refine zk_get (mr := zm_m25) rfl rfl hH hA rfl f5 ?_
  refine zy_n 1 (mr := zm_m25) rfl (show _ = some (6, [(0, .ref A), (1, .int k)], [.int 6, .int r]) from rfl) ?_
  refine zy_b (mr := zm_m25) rfl rfl (show _ = some (zm_ic .lt r 6 12 9, []) from rfl) ?_
  refine zc_lt (fun _ => ?_) (fun e => absurd (Int32.lt_iff_toInt_lt.mpr (by show _ < (6 : Int); omega)) e)
  refine zy_n 1 (mr := zm_m25) rfl (show _ = some (13, [(0, .ref A), (1, .int k)], [.ref A]) from rfl) ?_
  refine zk_get (mr := zm_m25) rfl rfl hH hA rfl f6 ?_
  refine zy_n 1 (mr := zm_m25) rfl (show _ = some (17, [(0, .ref A), (1, .int k)], [.ref A, .ref B]) from rfl) ?_
  refine zk_get (mr := zm_m25) rfl rfl hH hA rfl f5 ?_
  refine zy_n 1 (mr := zm_m25) rfl (show _ = some (21, [(0, .ref A), (1, .int k)], [.int k, .int r, .ref B]) from rfl) ?_
  refine zk_ist (mr := zm_m25) rfl rfl hH hX hB rfl rfl hjr (by omega) List.mem_cons_self ⟨_, rfl, by show (0 : Int) ≤ _; omega, by show _ ≤ (3 : Int); omega⟩ ⟨by show (0 : Int) ≤ _; omega, by show _ ≤ (5 : Int); omega, Or.inl rfl⟩ ?_
  intro h1 hH1 hX1 hW1 hs1 hg1 hF1
  have u1_16 := hg1.1 _ _ _ (by simp) f5
  have u1_17 := hg1.1 _ _ _ (by simp) f6
  refine zy_n 2 (mr := zm_m25) rfl (show _ = some (24, [(0, .ref A), (1, .int k)], [.ref A, .ref A]) from rfl) ?_
  refine zk_get (mr := zm_m25) rfl rfl hH1 hA rfl u1_16 ?_
  refine zy_n 3 (mr := zm_m25) rfl (show _ = some (30, [(0, .ref A), (1, .int k)], [.int (r + 1), .ref A, .int r]) from rfl) ?_
  refine zk_put (mr := zm_m25) rfl rfl hH1 hX1 hA rfl rfl rfl rfl ⟨_, List.mem_cons_self, ⟨_, rfl, by show (0 : Int) ≤ _; omega, by show _ ≤ (6 : Int); omega⟩⟩ ?_
  intro h2 hH2 hX2 hW2 hs2 hg2 hF2
  have u2_23 := hg2.1 _ _ _ (by simp) u1_17
  have u2_24 := hg2.2 _ _ _ (by simp) hs1
  refine zy_r (mr := zm_m25) rfl rfl (show _ = some (some (.int r)) from rfl) ⟨rfl, τ, hH2, hX2, by omega, (xF_trans (hF1 _ rfl) (hF2 _ rfl)), rfl, hs2, fun b g v hne e => ?_⟩
  refine hg2.1 _ _ _ ?_ (hg1.1 _ _ _ (by simp) e)
  simp only [List.mem_singleton, Prod.mk.injEq, true_and]
  rintro ⟨rfl, rfl⟩
  rcases hne with q | q <;> exact q rfl
theorem xHX_rm {i : Nat} {v : Int32} (hH : xHI xKT xSG τ h) (hi : i < n) (hc : xHX ad τ h n dn rc oc) (hf : xF (xms [(207, 5), (208, 0)]) τ h τ' h') (s5 : xfd h' (ad i) 5 = some (.int v)) (sf : ∀ (b g : Nat) (w : Value), (b ≠ ad i ∨ g ≠ 5) → xfd h b g = some w → xfd h' b g = some w) : xHX ad τ' h' n dn (upd rc i v) oc := by
  obtain ⟨hn, f1, hh, hj⟩ := hc
  obtain ⟨s, hs⟩ := hf.1
  refine ⟨hn, hf.2.1 0 0 1 _ (hH.2.2 0 rfl) rfl f1, fun j hj2 => ?_, hj⟩
  obtain ⟨g1, g2, g3, g4, g5⟩ := hh j hj2
  refine ⟨xar_F hf (hH.2.2 1 rfl) rfl g1, by rw [hs]; exact xgl g2, hf.2.1 _ _ _ _ g2 rfl g3, ?_, hf.2.1 _ _ _ _ g2 rfl g5⟩
  by_cases e : j = i
  · subst e
    rw [show upd rc j v j = v from if_pos rfl]
    exact s5
  · rw [show upd rc i v j = rc j from if_neg e]
    exact sf _ _ _ (Or.inl (fun z => e (hj _ _ hj2 hi z))) g4
theorem xHX_r {i : Nat} (hH : xHI xKT xSG τ h) (hc : xHX ad τ h n dn rc oc) (hi : i < n) : (0 ≤ (rc i).toInt ∧ (rc i).toInt ≤ 6) ∧ 0 ≤ (oc i).toInt ∧ (oc i).toInt ≤ 10 := by
  obtain ⟨g1, g2, g3, g4, g5⟩ := hc.2.2.1 i hi
  obtain ⟨fs, q1, q2, q3⟩ := xcf_o hH g2 (show xKT 207 = some (.inl (2, _)) from rfl)
  have p4 := xfd_obj q1 g4
  have p5 := xfd_obj q1 g5
  obtain ⟨x, hx, s1⟩ := q3 5 _ _ rfl p4
  have hx := List.mem_singleton.mp hx
  subst hx
  obtain ⟨v, e, l1, l2⟩ := s1
  cases e
  obtain ⟨x, hx, s1⟩ := q3 7 _ _ rfl p5
  have hx := List.mem_singleton.mp hx
  subst hx
  obtain ⟨w, e, l3, l4⟩ := s1
  cases e
  exact ⟨⟨l1, l2⟩, l3, l4⟩
theorem zk_ch {a k m n : Nat} {w : Value} {ps : List Nat} {A rest : List Value} (hH : xHI xKT xSG τ h) (ha : τ[a]? = some 207) (hn : A.length = n) (hr : Nat.ble (zm_cat rest) 16 = true) : zm_call (.invokevirtual k) (m, n, 2, w, ps) (A.reverse ++ .ref a :: rest) h = some (m, .ref a :: A, rest) := by
  obtain ⟨fs, h1, -, -⟩ := xcf_o hH ha (show xKT 207 = some (.inl (2, _)) from rfl)
  have h1 : h[a]? = some (.inr (2, fs)) := h1
  have e1 : (A.reverse ++ .ref a :: rest).drop n = .ref a :: rest := by rw [← hn, ← List.length_reverse (as := A), List.drop_left]
  have e2 : (A.reverse ++ .ref a :: rest).take n = A.reverse := by rw [← hn, ← List.length_reverse (as := A), List.take_left]
  simp only [zm_call, e1, e2, h1, hr, Nat.beq_refl, Bool.and_self, cond_true, List.reverse_reverse]
theorem zy_ra {d m : Nat} {a b f p : Int32} {Q : Option Value → zm_H → Prop} (hu : 0 ≤ a.toInt ∧ a.toInt < (n : Int)) (ko : (0 ≤ b.toInt ∧ b.toInt ≤ 3) ∧ (0 ≤ f.toInt ∧ f.toInt ≤ 5) ∧ 0 ≤ p.toInt ∧ p.toInt ≤ 3) (hs : (sz p.toInt.toNat).toInt = (m : Int)) (h10 : (oc a.toInt.toNat).toInt + (m : Int) ≤ 10) (ho0 : 0 ≤ (oc a.toInt.toNat).toInt) (kk : (∀ (τ2 : List Nat) (h2 : zm_H), xHI xKT xSG τ2 h2 → xX τ2 h2 → xHX ad τ2 h2 n dn rc (upd oc a.toInt.toNat (oc a.toInt.toNat + Int32.ofNat m)) → xRXa rp τ2 h2 wd sz nm → xW h2 ≤ xW h + 30 * m → xF (xms [(207, 7), (209, 0)]) τ h τ2 h2 → zm_Y og (d + 2) 16 150 [(0, .ref 0), (1, .int a), (2, .int b), (3, .int f), (4, .int p), (5, .ref ((ad a.toInt.toNat))), (6, .int (sz p.toInt.toNat))] [] h2 Q)) : ∀ (q k : Nat) (τ1 : List Nat) (h1 : zm_H), k + q = m → xHI xKT xSG τ1 h1 → xX τ1 h1 → xHX ad τ1 h1 n dn rc (upd oc a.toInt.toNat (oc a.toInt.toNat + Int32.ofNat k)) → xRXa rp τ1 h1 wd sz nm → xW h1 ≤ xW h + 30 * k → xF (xms [(207, 7), (209, 0)]) τ h τ1 h1 → zm_Y og (d + 2) 16 116 [(0, .ref 0), (1, .int a), (2, .int b), (3, .int f), (4, .int p), (5, .ref ((ad a.toInt.toNat))), (6, .int (sz p.toInt.toNat)), (7, .int (Int32.ofNat k))] [] h1 Q
  | 0, k, τ1, h1, hk, hH1, hX1, hx, hc, hw, hf => by
    have hkn : k = m := by omega
    subst hkn
    have hjk := (xofn (k := k) (by omega)).1
    have hlp : p.toInt.toNat < 4 := by omega
    have hjp := xnat p ko.2.2.1
    have hla : a.toInt.toNat < n := by omega
    obtain ⟨g1p, g2p, g3p, g4p, g5p⟩ := hc.1 _ hlp
    refine zy_n 2 (mr := zm_m16) rfl (show _ = some (120, [(0, .ref 0), (1, .int a), (2, .int b), (3, .int f), (4, .int p), (5, .ref ((ad a.toInt.toNat))), (6, .int (sz p.toInt.toNat)), (7, .int (Int32.ofNat k))], [.int (sz p.toInt.toNat), .int (Int32.ofNat k)]) from rfl) ?_
    refine zy_b (mr := zm_m16) rfl rfl (show _ = some (zm_ic .ge (Int32.ofNat k) (sz p.toInt.toNat) 150 123, []) from rfl) ?_
    refine zc_ge (fun _ => ?_) (fun e => absurd (Int32.le_iff_toInt_le.mpr (by omega)) e)
    exact zy_sub [(0, .ref 0), (1, .int a), (2, .int b), (3, .int f), (4, .int p), (5, .ref ((ad a.toInt.toNat))), (6, .int (sz p.toInt.toNat))] (by simp) (fun q hq => by simp only [List.mem_cons, List.not_mem_nil, or_false] at hq; rcases hq with rfl | rfl | rfl | rfl | rfl | rfl | rfl <;> rfl) (kk τ1 h1 hH1 hX1 hx hc hw hf)
  | q + 1, k, τ1, h1, hk, hH1, hX1, hx, hc, hw, hf => by
    have hjk := (xofn (k := k) (by omega)).1
    have hlp : p.toInt.toNat < 4 := by omega
    have hjp := xnat p ko.2.2.1
    have hla : a.toInt.toNat < n := by omega
    obtain ⟨g1p, g2p, g3p, g4p, g5p⟩ := hc.1 _ hlp
    obtain ⟨q1, q2, q3, q4, q5⟩ := hx.2.2.1 _ hla
    rw [show (upd oc a.toInt.toNat (oc a.toInt.toNat + Int32.ofNat k)) a.toInt.toNat = oc a.toInt.toNat + Int32.ofNat k from if_pos rfl] at q5
    have eo : (oc a.toInt.toNat + Int32.ofNat k).toInt = (oc a.toInt.toNat).toInt + (k : Int) := by rw [xad5 (by omega) (by omega), hjk]
    refine zy_n 2 (mr := zm_m16) rfl (show _ = some (120, [(0, .ref 0), (1, .int a), (2, .int b), (3, .int f), (4, .int p), (5, .ref ((ad a.toInt.toNat))), (6, .int (sz p.toInt.toNat)), (7, .int (Int32.ofNat k))], [.int (sz p.toInt.toNat), .int (Int32.ofNat k)]) from rfl) ?_
    refine zy_b (mr := zm_m16) rfl rfl (show _ = some (zm_ic .ge (Int32.ofNat k) (sz p.toInt.toNat) 150 123, []) from rfl) ?_
    refine zc_ge (fun e => absurd e (fun z => by have z2 := Int32.le_iff_toInt_le.mp z; omega)) (fun _ => ?_)
    refine zy_n 4 (mr := zm_m16) rfl (show _ = some (128, [(0, .ref 0), (1, .int a), (2, .int b), (3, .int f), (4, .int p), (5, .ref ((ad a.toInt.toNat))), (6, .int (sz p.toInt.toNat)), (7, .int (Int32.ofNat k))], [.ref 0, .int f, .int b, .ref ((ad a.toInt.toNat))]) from rfl) ?_
    refine zk_get (mr := zm_m16) rfl rfl hH1 (hH1.2.2 0 rfl) rfl (xfo_ref (k := 0) (f := 12) (a := 45) hH1 rfl rfl rfl) ?_
    refine zk_get (mr := zm_m16) rfl rfl hH1 (hH1.2.2 45 rfl) rfl (xfo_ref (k := 45) (f := 0) (a := 46) hH1 rfl rfl rfl) ?_
    refine zy_n 1 (mr := zm_m16) rfl (show _ = some (136, [(0, .ref 0), (1, .int a), (2, .int b), (3, .int f), (4, .int p), (5, .ref ((ad a.toInt.toNat))), (6, .int (sz p.toInt.toNat)), (7, .int (Int32.ofNat k))], [.int p, .ref 46, .int f, .int b, .ref ((ad a.toInt.toNat))]) from rfl) ?_
    refine zk_ald (mr := zm_m16) rfl rfl hH1 (hH1.2.2 46 rfl) rfl rfl g3p hjp ?_
    refine zy_n 1 (mr := zm_m16) rfl (show _ = some (139, [(0, .ref 0), (1, .int a), (2, .int b), (3, .int f), (4, .int p), (5, .ref ((ad a.toInt.toNat))), (6, .int (sz p.toInt.toNat)), (7, .int (Int32.ofNat k))], [.int (Int32.ofNat k), .ref ((rp p.toInt.toNat)), .int f, .int b, .ref ((ad a.toInt.toNat))]) from rfl) ?_
    refine zk_lld (mr := zm_m16) rfl rfl hH1 g4p rfl (g5p _ (by omega)) hjk ?_
    refine zy_n 1 (mr := zm_m16) rfl (show _ = some (141, [(0, .ref 0), (1, .int a), (2, .int b), (3, .int f), (4, .int p), (5, .ref ((ad a.toInt.toNat))), (6, .int (sz p.toInt.toNat)), (7, .int (Int32.ofNat k))], [.int ((nm p.toInt.toNat k).toInt32), .int f, .int b, .ref ((ad a.toInt.toNat))]) from rfl) ?_
    refine zy_c (mr := zm_m16) (mc := zm_m23) rfl rfl (zk_ch (A := [.int b, .int f, .int ((nm p.toInt.toNat k).toInt32)]) hH1 q2 rfl rfl) rfl rfl ?_
    refine (zh_aoD q5 (by omega) hH1 hX1 q2 ko.1 ko.2.1).mono (fun r h2 hq => ?_)
    obtain ⟨⟨rfl, τ2, hH2, hX2, hF2, hW2⟩, hS⟩ := hq
    have hx := xHX_ao hH1 hla hx hF2 hS
    have hc := xRXa_F hH1 hF2 rfl hc
    have eh : oc a.toInt.toNat + Int32.ofNat k + 1 = oc a.toInt.toNat + Int32.ofNat (k + 1) := by rw [← xofs (by omega), Int32.add_assoc]
    rw [eh] at hx
    have ih := zy_ra (d := d) hu ko hs h10 ho0 kk q (k + 1) τ2 h2 (by omega) hH2 hX2 hx hc (by omega) (xF_trans hf hF2)
    refine zy_n 2 (mr := zm_m16) rfl (show _ = some (116, [(7, .int ((Int32.ofNat k) + 1)), (0, .ref 0), (1, .int a), (2, .int b), (3, .int f), (4, .int p), (5, .ref ((ad a.toInt.toNat))), (6, .int (sz p.toInt.toNat))], []) from rfl) ?_
    rw [xofs (by omega)]
    exact zy_sub [(0, .ref 0), (1, .int a), (2, .int b), (3, .int f), (4, .int p), (5, .ref ((ad a.toInt.toNat))), (6, .int (sz p.toInt.toNat)), (7, .int (Int32.ofNat (k + 1)))] (by simp) (fun q hq => by simp only [List.mem_cons, List.not_mem_nil, or_false] at hq; rcases hq with rfl | rfl | rfl | rfl | rfl | rfl | rfl | rfl <;> rfl) ih
end XR5
