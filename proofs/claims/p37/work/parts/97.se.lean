/-! PLACES and PAIRS: piece 4 (made by a program) -/
section XR2
set_option maxRecDepth 100000
variable {og : Nat → Option zm_C} {τ τ' : List Nat} {h h' : zm_H} {ms : List (Nat × Nat)} {rp : Nat → Nat} {wd sz : Nat → Int32} {nm : Nat → Nat → Int64}
def xpst (nm : Nat → Nat → Int64) (p i q k n : Nat) : Nat → Nat → Int64 := fun a b => if a = q ∧ k ≤ b ∧ b < k + n then nm p (i + (b - k)) else nm a b
theorem xpst_0 {p i q k : Nat} : xpst nm p i q k 0 = nm := funext fun a => funext fun b => if_neg (fun z => by omega)
theorem xpst_s {p i q k n : Nat} : updN (xpst nm p i q k n) q (k + n) (nm p (i + n)) = xpst nm p i q k (n + 1) := by
  funext a b
  show (if a = q ∧ b = k + n then nm p (i + n) else if a = q ∧ k ≤ b ∧ b < k + n then nm p (i + (b - k)) else nm a b) = if a = q ∧ k ≤ b ∧ b < k + (n + 1) then nm p (i + (b - k)) else nm a b
  by_cases c : a = q ∧ b = k + n
  · rw [if_pos c, if_pos ⟨c.1, by omega, by omega⟩, c.2, show k + n - k = n by omega]
  · rw [if_neg c]
    by_cases c2 : a = q ∧ k ≤ b ∧ b < k + n
    · rw [if_pos c2, if_pos ⟨c2.1, c2.2.1, by omega⟩]
    · rw [if_neg c2, if_neg (fun z => (by
        by_cases e : b = k + n
        · exact c ⟨z.1, e⟩
        · exact c2 ⟨z.1, z.2.1, by omega⟩))]
theorem xRXa_cpy {p i q k n : Nat} (hH : xHI xKT xSG τ h) (hc : xRXa rp τ h wd sz nm) (hq : q < 4) (hs : ∀ b, b < 60 → xar h' (rp q) b = some (.long (if k ≤ b ∧ b < k + n then nm p (i + (b - k)) else nm q b))) (ho : ∀ (b g : Nat) (v : Value), b ≠ rp q → xar h b g = some v → xar h' b g = some v) : xRXa rp τ h' wd sz (xpst nm p i q k n) := by
  have q4 := (hc.1 q hq).2.2.2.1
  have n51 := Ne.symm (xne211 hH q4 (k := 51) rfl)
  have n52 := Ne.symm (xne211 hH q4 (k := 52) rfl)
  have n46 := Ne.symm (xne211 hH q4 (k := 46) rfl)
  refine ⟨fun j hj => ?_, hc.2⟩
  obtain ⟨g1, g2, g3, g4, g5⟩ := hc.1 j hj
  refine ⟨ho _ _ _ n51 g1, ho _ _ _ n52 g2, ho _ _ _ n46 g3, g4, fun b hb => ?_⟩
  by_cases e : j = q
  · subst e
    rw [hs b hb]
    show some (Value.long (if k ≤ b ∧ b < k + n then nm p (i + (b - k)) else nm j b)) = some (Value.long (if j = j ∧ k ≤ b ∧ b < k + n then nm p (i + (b - k)) else nm j b))
    by_cases c : k ≤ b ∧ b < k + n
    · rw [if_pos c, if_pos ⟨rfl, c⟩]
    · rw [if_neg c, if_neg (fun z => c z.2)]
  · rw [show xpst nm p i q k n j b = nm j b from if_neg (fun z => e z.1)]
    exact ho _ _ _ (fun z => e (hc.2 _ _ hj hq z)) (g5 b hb)
theorem zy_p1 {d : Nat} {a u b v c : Int32} {Q : Option Value → zm_H → Prop} (hp : 0 ≤ a.toInt ∧ a.toInt ≤ 3) (hu : 0 ≤ u.toInt) (hc0 : 0 ≤ c.toInt) (hr : u.toInt + c.toInt ≤ 60) : ∀ (m k : Nat) (h : zm_H), k + m = c.toInt.toNat → xHI xKT xSG τ h → xX τ h → xRM h wd sz nm → (∀ q, q < k → xar h 59 q = some (.long (nm a.toInt.toNat (u.toInt.toNat + q)))) → (∀ h1, xHI xKT xSG τ h1 → xX τ h1 → xW h1 ≤ xW h → xF (xms [(59, 0)]) τ h τ h1 → xRM h1 wd sz nm → (∀ q, q < c.toInt.toNat → xar h1 59 q = some (.long (nm a.toInt.toNat (u.toInt.toNat + q)))) → zm_Y og d 187 150 [(0, .ref 55), (1, .int a), (2, .int u), (3, .int b), (4, .int v), (5, .int c)] [] h1 Q) → zm_Y og d 187 116 [(0, .ref 55), (1, .int a), (2, .int u), (3, .int b), (4, .int v), (5, .int c), (6, .int (Int32.ofNat k))] [] h Q
  | 0, k, h, hk, hH, hX, hc, h9, kk => by
    have hkn : k = c.toInt.toNat := by omega
    have hjk := (xofn (k := k) (by omega)).1
    refine zy_n 2 (mr := zm_m187) rfl (show _ = some (120, [(0, .ref 55), (1, .int a), (2, .int u), (3, .int b), (4, .int v), (5, .int c), (6, .int (Int32.ofNat k))], [.int c, .int (Int32.ofNat k)]) from rfl) ?_
    refine zy_b (mr := zm_m187) rfl rfl (show _ = some (zm_ic .ge (Int32.ofNat k) c 150 123, []) from rfl) ?_
    refine zc_ge (fun _ => ?_) (fun e => absurd (Int32.le_iff_toInt_le.mpr (by omega)) e)
    exact zy_sub [(0, .ref 55), (1, .int a), (2, .int u), (3, .int b), (4, .int v), (5, .int c)] (by simp) (fun q hq => by simp only [List.mem_cons, List.not_mem_nil, or_false] at hq; rcases hq with rfl | rfl | rfl | rfl | rfl | rfl <;> rfl) (kk h hH hX (Nat.le_refl _) (xF_refl _ _ _) hc (by rw [← hkn]; exact h9))
  | m + 1, k, h, hk, hH, hX, hc, h9, kk => by
    have hjk := (xofn (k := k) (by omega)).1
    have hla : a.toInt.toNat < 4 := by omega
    have hju := xnat u hu
    have hix := xix2 hp hju (show (Int32.ofNat k).toInt = ((k : Nat) : Int) from hjk) (by omega)
    refine zy_n 2 (mr := zm_m187) rfl (show _ = some (120, [(0, .ref 55), (1, .int a), (2, .int u), (3, .int b), (4, .int v), (5, .int c), (6, .int (Int32.ofNat k))], [.int c, .int (Int32.ofNat k)]) from rfl) ?_
    refine zy_b (mr := zm_m187) rfl rfl (show _ = some (zm_ic .ge (Int32.ofNat k) c 150 123, []) from rfl) ?_
    refine zc_ge (fun e => absurd e (fun z => by have z2 := Int32.le_iff_toInt_le.mp z; omega)) (fun _ => ?_)
    refine zy_n 1 (mr := zm_m187) rfl (show _ = some (124, [(0, .ref 55), (1, .int a), (2, .int u), (3, .int b), (4, .int v), (5, .int c), (6, .int (Int32.ofNat k))], [.ref 55]) from rfl) ?_
    refine zk_get (mr := zm_m187) rfl rfl hH (hH.2.2 55 rfl) rfl (xfo_ref (k := 55) (f := 4) (a := 59) hH rfl rfl rfl) ?_
    refine zy_n 2 (mr := zm_m187) rfl (show _ = some (130, [(0, .ref 55), (1, .int a), (2, .int u), (3, .int b), (4, .int v), (5, .int c), (6, .int (Int32.ofNat k))], [.ref 55, .int (Int32.ofNat k), .ref 59]) from rfl) ?_
    refine zk_get (mr := zm_m187) rfl rfl hH (hH.2.2 55 rfl) rfl (xfo_ref (k := 55) (f := 3) (a := 58) hH rfl rfl rfl) ?_
    refine zy_n 7 (mr := zm_m187) rfl (show _ = some (142, [(0, .ref 55), (1, .int a), (2, .int u), (3, .int b), (4, .int v), (5, .int c), (6, .int (Int32.ofNat k))], [.int (((60 * a) + u) + (Int32.ofNat k)), .ref 58, .int (Int32.ofNat k), .ref 59]) from rfl) ?_
    refine zk_lld (mr := zm_m187) rfl rfl hH (hH.2.2 58 rfl) rfl ((hc _ hla).2.2 _ (by omega)) hix ?_
    refine zk_lst (mr := zm_m187) rfl rfl hH hX (hH.2.2 59 rfl) rfl rfl hjk (by omega) List.mem_cons_self ⟨_, rfl⟩ ⟨by show (0 : Int) ≤ _; omega, by show _ ≤ (59 : Int); omega, Or.inl rfl⟩ ?_
    intro h1 hH1 hX1 hW1 hs1 hg1 hF1
    have hc := xRM_F hH (hF1 [(59, 0)] rfl) rfl hc
    have h9 : ∀ q, q < k + 1 → xar h1 59 q = some (.long (nm a.toInt.toNat (u.toInt.toNat + q))) := fun q hq => by
      by_cases e : q = k
      · subst e
        exact hs1
      · exact hg1.2 _ _ _ (by simp [e]) (h9 q (by omega))
    have ih := zy_p1 (d := d) (b := b) (v := v) hp hu hc0 hr m (k + 1) h1 (by omega) hH1 hX1 hc h9 (fun h2 a1 a2 a3 a4 a5 a6 => kk h2 a1 a2 (by omega) (xF_trans (hF1 _ rfl) a4) a5 a6)
    refine zy_n 2 (mr := zm_m187) rfl (show _ = some (116, [(6, .int ((Int32.ofNat k) + 1)), (0, .ref 55), (1, .int a), (2, .int u), (3, .int b), (4, .int v), (5, .int c)], []) from rfl) ?_
    rw [xofs (by omega)]
    exact zy_sub [(0, .ref 55), (1, .int a), (2, .int u), (3, .int b), (4, .int v), (5, .int c), (6, .int (Int32.ofNat (k + 1)))] (by simp) (fun q hq => by simp only [List.mem_cons, List.not_mem_nil, or_false] at hq; rcases hq with rfl | rfl | rfl | rfl | rfl | rfl | rfl <;> rfl) ih
theorem zy_p2 {d : Nat} {a u b v c : Int32} (hpb : 0 ≤ b.toInt ∧ b.toInt ≤ 3) (hv : 0 ≤ v.toInt) (hc0 : 0 ≤ c.toInt) (hr : v.toInt + c.toInt ≤ 60) : ∀ (m k : Nat) (h : zm_H), k + m = c.toInt.toNat → xHI xKT xSG τ h → xX τ h → xRM h wd sz (xpst nm a.toInt.toNat u.toInt.toNat b.toInt.toNat v.toInt.toNat k) → (∀ q, q < c.toInt.toNat → xar h 59 q = some (.long (nm a.toInt.toNat (u.toInt.toNat + q)))) → zm_Y og d 187 153 [(0, .ref 55), (1, .int a), (2, .int u), (3, .int b), (4, .int v), (5, .int c), (6, .int (Int32.ofNat k))] [] h (xCO τ h 0 [(58, 0)] (fun r => r = some (.int 0)) (fun τ1 h1 => xRM h1 wd sz (xpst nm a.toInt.toNat u.toInt.toNat b.toInt.toNat v.toInt.toNat c.toInt.toNat)))
  | 0, k, h, hk, hH, hX, hc, h9 => by
    have hkn : k = c.toInt.toNat := by omega
    have hjk := (xofn (k := k) (by omega)).1
    rw [hkn] at hc
    refine zy_n 2 (mr := zm_m187) rfl (show _ = some (157, [(0, .ref 55), (1, .int a), (2, .int u), (3, .int b), (4, .int v), (5, .int c), (6, .int (Int32.ofNat k))], [.int c, .int (Int32.ofNat k)]) from rfl) ?_
    refine zy_b (mr := zm_m187) rfl rfl (show _ = some (zm_ic .ge (Int32.ofNat k) c 188 160, []) from rfl) ?_
    refine zc_ge (fun _ => ?_) (fun e => absurd (Int32.le_iff_toInt_le.mpr (by omega)) e)
    refine zy_n 1 (mr := zm_m187) rfl (show _ = some (189, [(0, .ref 55), (1, .int a), (2, .int u), (3, .int b), (4, .int v), (5, .int c), (6, .int (Int32.ofNat k))], [.int 0]) from rfl) ?_
    refine zy_r (mr := zm_m187) rfl rfl (show _ = some (some (.int 0)) from rfl) ⟨rfl, τ, hH, hX, Nat.le_add_right _ _, xF_refl _ _ _, hc⟩
  | m + 1, k, h, hk, hH, hX, hc, h9 => by
    have hjk := (xofn (k := k) (by omega)).1
    have hjv := xnat v hv
    have hix := xix2 hpb hjv (show (Int32.ofNat k).toInt = ((k : Nat) : Int) from hjk) (by omega)
    have hlt : v.toInt.toNat + k < 60 := by omega
    refine zy_n 2 (mr := zm_m187) rfl (show _ = some (157, [(0, .ref 55), (1, .int a), (2, .int u), (3, .int b), (4, .int v), (5, .int c), (6, .int (Int32.ofNat k))], [.int c, .int (Int32.ofNat k)]) from rfl) ?_
    refine zy_b (mr := zm_m187) rfl rfl (show _ = some (zm_ic .ge (Int32.ofNat k) c 188 160, []) from rfl) ?_
    refine zc_ge (fun e => absurd e (fun z => by have z2 := Int32.le_iff_toInt_le.mp z; omega)) (fun _ => ?_)
    refine zy_n 1 (mr := zm_m187) rfl (show _ = some (161, [(0, .ref 55), (1, .int a), (2, .int u), (3, .int b), (4, .int v), (5, .int c), (6, .int (Int32.ofNat k))], [.ref 55]) from rfl) ?_
    refine zk_get (mr := zm_m187) rfl rfl hH (hH.2.2 55 rfl) rfl (xfo_ref (k := 55) (f := 3) (a := 58) hH rfl rfl rfl) ?_
    refine zy_n 8 (mr := zm_m187) rfl (show _ = some (175, [(0, .ref 55), (1, .int a), (2, .int u), (3, .int b), (4, .int v), (5, .int c), (6, .int (Int32.ofNat k))], [.ref 55, .int (((60 * b) + v) + (Int32.ofNat k)), .ref 58]) from rfl) ?_
    refine zk_get (mr := zm_m187) rfl rfl hH (hH.2.2 55 rfl) rfl (xfo_ref (k := 55) (f := 4) (a := 59) hH rfl rfl rfl) ?_
    refine zy_n 1 (mr := zm_m187) rfl (show _ = some (180, [(0, .ref 55), (1, .int a), (2, .int u), (3, .int b), (4, .int v), (5, .int c), (6, .int (Int32.ofNat k))], [.int (Int32.ofNat k), .ref 59, .int (((60 * b) + v) + (Int32.ofNat k)), .ref 58]) from rfl) ?_
    refine zk_lld (mr := zm_m187) rfl rfl hH (hH.2.2 59 rfl) rfl (h9 k (by omega)) hjk ?_
    refine zk_lst (mr := zm_m187) rfl rfl hH hX (hH.2.2 58 rfl) rfl rfl hix (by omega) List.mem_cons_self ⟨_, rfl⟩ ⟨by show (0 : Int) ≤ _; omega, by show _ ≤ (239 : Int); omega, Or.inl rfl⟩ ?_
    intro h1 hH1 hX1 hW1 hs1 hg1 hF1
    have hc := xRM_nm hc hlt hg1 hs1
    rw [xpst_s] at hc
    have ih := zy_p2 (d := d) (u := u) hpb hv hc0 hr m (k + 1) h1 (by omega) hH1 hX1 hc (fun q hq => hg1.2 _ _ _ (by simp) (h9 q hq))
    refine zy_n 2 (mr := zm_m187) rfl (show _ = some (153, [(6, .int ((Int32.ofNat k) + 1)), (0, .ref 55), (1, .int a), (2, .int u), (3, .int b), (4, .int v), (5, .int c)], []) from rfl) ?_
    rw [xofs (by omega)]
    refine (zy_sub [(0, .ref 55), (1, .int a), (2, .int u), (3, .int b), (4, .int v), (5, .int c), (6, .int (Int32.ofNat (k + 1)))] (by simp) (fun q hq => by simp only [List.mem_cons, List.not_mem_nil, or_false] at hq; rcases hq with rfl | rfl | rfl | rfl | rfl | rfl | rfl <;> rfl) ih).mono (fun r h2 hq => xCO_tr (g1 := 0) (g2 := 0) ((hF1 _ rfl)) (by omega) (Nat.le_refl _) hq)
end XR2
