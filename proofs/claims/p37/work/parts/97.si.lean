/-! PLACES and PAIRS: piece 8 (made by a program) -/
section XR2
set_option maxRecDepth 100000
variable {og : Nat → Option zm_C} {τ τ' : List Nat} {h h' : zm_H} {ms : List (Nat × Nat)} {rp : Nat → Nat} {wd sz : Nat → Int32} {nm : Nat → Nat → Int64}
theorem zy_fi {d : Nat} {v : Int32} : ∀ (m k : Nat) (h : zm_H), k + m = 60 → xHI xKT xSG τ h → xX τ h → xRXa rp τ h wd sz nm → (∀ q, q < k → xar h 53 q = some (.int v)) → zm_Y og d 129 5 [(0, .ref 53), (1, .int v), (2, .int (Int32.ofNat k)), (3, .int (Int32.ofNat 60))] [] h (xCO τ h 0 [(53, 0)] (fun r => r = none) (fun _ h1 => ∀ q, q < 60 → xar h1 53 q = some (.int v)))
  | 0, k, h, hk, hH, hX, hc, hP => by
    have hkn : k = 60 := by omega
    subst hkn
    refine zy_n 2 (mr := zm_m129) rfl (show _ = some (7, [(0, .ref 53), (1, .int v), (2, .int (Int32.ofNat 60)), (3, .int (Int32.ofNat 60))], [.int (Int32.ofNat 60), .int (Int32.ofNat 60)]) from rfl) ?_
    refine zy_b (mr := zm_m129) rfl rfl (show _ = some (20, []) from rfl) ?_
    refine zy_r (mr := zm_m129) rfl rfl (show _ = some none from rfl) ⟨rfl, τ, hH, hX, Nat.le_add_right _ _, xF_refl _ _ _, hP⟩
  | m + 1, k, h, hk, hH, hX, hc, hP => by
    have hjk := (xofn (k := k) (by omega)).1
    have h60 := (xofn (k := 60) (by omega)).1
    refine zy_n 2 (mr := zm_m129) rfl (show _ = some (7, [(0, .ref 53), (1, .int v), (2, .int (Int32.ofNat k)), (3, .int (Int32.ofNat 60))], [.int (Int32.ofNat 60), .int (Int32.ofNat k)]) from rfl) ?_
    refine zy_b (mr := zm_m129) rfl rfl (show _ = some (zm_ic .ge (Int32.ofNat k) (Int32.ofNat 60) 20 10, []) from rfl) ?_
    refine zc_ge (fun e => absurd e (fun z => by have := Int32.le_iff_toInt_le.mp z; omega)) (fun _ => ?_)
    refine zy_n 3 (mr := zm_m129) rfl (show _ = some (13, [(0, .ref 53), (1, .int v), (2, .int (Int32.ofNat k)), (3, .int (Int32.ofNat 60))], [.int v, .int (Int32.ofNat k), .ref 53]) from rfl) ?_
    refine zk_ist (mr := zm_m129) rfl rfl hH hX (hH.2.2 53 rfl) rfl rfl hjk (by omega) List.mem_cons_self ⟨_, rfl, (xb_rng _).1, (xb_rng _).2⟩ ⟨by show (0 : Int) ≤ _; omega, by show _ ≤ (59 : Int); omega, Or.inl rfl⟩ ?_
    intro h1 hH1 hX1 hW1 hs1 hg1 hF1
    have hc := xRXa_F hH (hF1 [(53, 0)] rfl) rfl hc
    have hP : ∀ q, q < k + 1 → xar h1 53 q = some (.int v) := fun q hq2 => by
      by_cases e : q = k
      · subst e
        exact hs1
      · exact hg1.2 _ _ _ (by simp [e]) (hP q (by omega))
    have ih := zy_fi (d := d) m (k + 1) h1 (by omega) hH1 hX1 hc hP
    refine zy_n 2 (mr := zm_m129) rfl (show _ = some (5, [(2, .int ((Int32.ofNat k) + 1)), (0, .ref 53), (1, .int v), (3, .int (Int32.ofNat 60))], []) from rfl) ?_
    rw [xofs (by omega)]
    refine (zy_sub [(0, .ref 53), (1, .int v), (2, .int (Int32.ofNat (k + 1))), (3, .int (Int32.ofNat 60))] (by simp) (fun q hq => by simp only [List.mem_cons, List.not_mem_nil, or_false] at hq; rcases hq with rfl | rfl | rfl | rfl <;> rfl) ih).mono (fun r h2 hq => xCO_tr (g1 := 0) (g2 := 0) ((hF1 _ rfl)) (by omega) (Nat.le_refl _) hq)
theorem zh_fi {d : Nat} {v : Int32} (hH : xHI xKT xSG τ h) (hX : xX τ h) (hc : xRXa rp τ h wd sz nm) : zm_Y og d 129 0 [(0, .ref 53), (1, .int v)] [] h (xCO τ h 0 [(53, 0)] (fun r => r = none) (fun _ h1 => ∀ q, q < 60 → xar h1 53 q = some (.int v))) := by
  refine zy_n 3 (mr := zm_m129) rfl (show _ = some (3, [(2, .int 0), (0, .ref 53), (1, .int v)], [.ref 53]) from rfl) ?_
  refine zk_alen (mr := zm_m129) rfl rfl hH (hH.2.2 53 rfl) rfl ?_
  refine zy_n 1 (mr := zm_m129) rfl (show _ = some (5, [(3, .int (Int32.ofNat 60)), (2, .int 0), (0, .ref 53), (1, .int v)], []) from rfl) ?_
  exact zy_sub [(0, .ref 53), (1, .int v), (2, .int (Int32.ofNat 0)), (3, .int (Int32.ofNat 60))] (by simp) (fun q hq => by simp only [List.mem_cons, List.not_mem_nil, or_false] at hq; rcases hq with rfl | rfl | rfl | rfl <;> rfl) (zy_fi 60 0 h (by omega) hH hX hc (fun q hq => absurd hq (Nat.not_lt_zero q)))
end XR2
