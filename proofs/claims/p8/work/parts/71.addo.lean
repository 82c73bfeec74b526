/-! By hand: addOpening -/
section XAO
variable {τ : List Nat} {h : zm_H} {og : Nat → Option zm_C}
theorem xHI_appo {kd ci : Nat} {sps : List (List xA)} {ws : List Value} (hH : xHI xKT xSG τ h) (hk : xKT kd = some (.inl (ci, sps))) (hl : ws.length = sps.length) (hw : ∀ (f : Nat) (sp : List xA) (v : Value), sps[f]? = some sp → ws[f]? = some v → ∃ a ∈ sp, xsat (τ ++ [kd]) a v) : xHI xKT xSG (τ ++ [kd]) (h ++ [.inr (ci, ws)]) := by
  have hlen := hH.1
  refine ⟨by simp [hlen], fun b kb hb => ?_, fun b hb => xgl (hH.2.2 b hb)⟩
  by_cases hlt : b < τ.length
  · rw [List.getElem?_append_left hlt] at hb
    obtain ⟨D', c', k1, k2, k3⟩ := hH.2.1 b kb hb
    refine ⟨D', c', k1, ?_, xcf_mono k3⟩
    rw [List.getElem?_append_left (List.getElem?_eq_some_iff.mp k2).1]
    exact k2
  · have hl2 := (List.getElem?_eq_some_iff.mp hb).1
    rw [List.length_append, List.length_singleton] at hl2
    have e : b = τ.length := by omega
    subst e
    have hb : kd = kb := by simpa using hb
    subst hb
    exact ⟨_, _, hk, by rw [← hlen]; simp, ws, rfl, hl, hw⟩
theorem xob_01 (b : Int32) : 0 ≤ (xob b).toInt ∧ (xob b).toInt ≤ 1 := by
  unfold xob
  by_cases h : b = 0
  · rw [if_pos h]; decide
  · rw [if_neg h]; decide
/-- the heap behind it -/
def xaoh (h : zm_H) (A B : Nat) (fs ws : List Value) (o : Int32) (f : Nat → Option Nat) : zm_H := ((h ++ [Sum.inr (5, ws)]).set A (Sum.inr (2, fs.set 7 (.int (o + 1))))).set B (Sum.inl (6, 10, .inr (.inr (va_up f o.toNatClampNeg (some h.length)))))
theorem xao_end {A B : Nat} {fs ws : List Value} {o : Int32} {f : Nat → Option Nat} {k fl p b l r : Int32} (hH : xHI xKT xSG τ h) (hX : xX τ h) (hA : τ[A]? = some 207) (hB : τ[B]? = some 209) (hhA : h[A]? = some (.inr (2, fs))) (f8 : fs[8]? = some (.ref B)) (f7 : fs[7]? = some (.int o)) (hhB : h[B]? = some (.inl (6, 10, .inr (.inr f)))) (o0 : 0 ≤ o.toInt) (o9 : o.toInt ≤ 9) (hws : ws = [.int r, .int k, .int fl, .int p, .int b, .int l, .int 0, .int (-1)]) (k0 : 0 ≤ k.toInt ∧ k.toInt ≤ 3) (l0 : 0 ≤ fl.toInt ∧ fl.toInt ≤ 5) (b0 : 0 ≤ b.toInt ∧ b.toInt ≤ 1) (c0 : 0 ≤ l.toInt ∧ l.toInt ≤ 1) : xHI xKT xSG (τ ++ [210]) (xaoh h A B fs ws o f) ∧ xX (τ ++ [210]) (xaoh h A B fs ws o f) ∧ xF (xms [(207, 7), (209, 0)]) τ h (τ ++ [210]) (xaoh h A B fs ws o f) ∧ xW (xaoh h A B fs ws o f) ≤ xW h + 30 := by
  obtain ⟨s0, sx1, sx2, sx3, sp, sl⟩ := hX
  have hlen := hH.1
  have hAl : A < h.length := (List.getElem?_eq_some_iff.mp hhA).1
  have hBl : B < h.length := (List.getElem?_eq_some_iff.mp hhB).1
  have hAB : A ≠ B := fun e => by rw [e, hB] at hA; cases hA
  obtain ⟨fs', q1, q2, q3⟩ := xcf_o hH hA (show xKT 207 = some (.inl (2, _)) from rfl)
  rw [hhA] at q1
  cases q1
  have hfl : fs.length = 11 := q2
  obtain ⟨hin, hjn, hjlt⟩ := xin_ok (j := o) (n := 10) o0 (by omega)
  have o1 : (o + 1).toInt = o.toInt + 1 := by
    rw [Int32.toInt_add]
    have e1 : xI32a = -2147483648 := rfl
    have e2 : xI32b = 2147483647 := rfl
    exact xb_bm32 (by show xI32a ≤ o.toInt + 1; omega) (by show o.toInt + 1 ≤ xI32b; omega)
  have hH1 : xHI xKT xSG (τ ++ [210]) (h ++ [.inr (5, ws)]) := by
    refine xHI_appo hH (show xKT 210 = some (.inl (5, _)) from rfl) (by rw [hws]; rfl) (fun g sp' v' c1 c2 => ?_)
    rw [hws] at c2
    have hlt : g < 8 := by
      have := (List.getElem?_eq_some_iff.mp c2).1
      simpa using this
    rcases (show g = 0 ∨ g = 1 ∨ g = 2 ∨ g = 3 ∨ g = 4 ∨ g = 5 ∨ g = 6 ∨ g = 7 by omega) with rfl | rfl | rfl | rfl | rfl | rfl | rfl | rfl
    · cases c1; cases c2; exact ⟨_, List.mem_cons_self, r, rfl, (xb_rng r).1, (xb_rng r).2⟩
    · cases c1; cases c2; exact ⟨_, List.mem_cons_self, k, rfl, k0.1, k0.2⟩
    · cases c1; cases c2; exact ⟨_, List.mem_cons_self, fl, rfl, l0.1, l0.2⟩
    · cases c1; cases c2; exact ⟨_, List.mem_cons_self, p, rfl, (xb_rng p).1, (xb_rng p).2⟩
    · cases c1; cases c2; exact ⟨_, List.mem_cons_self, b, rfl, b0.1, b0.2⟩
    · cases c1; cases c2; exact ⟨_, List.mem_cons_self, l, rfl, c0.1, c0.2⟩
    · cases c1; cases c2; exact ⟨_, List.mem_cons_self, 0, rfl, by decide, by decide⟩
    · cases c1; cases c2; exact ⟨_, List.mem_cons_self, -1, rfl, by decide, by decide⟩
  have hA1 : (h ++ [.inr (5, ws)])[A]? = some (.inr (2, fs)) := zs_app hhA
  have hB1 : (h ++ [.inr (5, ws)])[B]? = some (.inl (6, 10, .inr (.inr f))) := zs_app hhB
  have hH2 := xHI_set (c := .inr (2, fs.set 7 (.int (o + 1)))) hH1 hA1 (xgl hA) (show xKT 207 = some (.inl (2, _)) from rfl) ⟨fs.set 7 (.int (o + 1)), rfl, by rw [List.length_set]; exact hfl, fun g sp' v' c1 c2 => by
    by_cases e : 7 = g
    · subst e
      rw [List.getElem?_set_self (by omega)] at c2
      cases c2
      cases c1
      exact ⟨_, List.mem_cons_self, o + 1, rfl, by show (0 : Int) ≤ _; omega, by show _ ≤ (10 : Int); omega⟩
    · rw [List.getElem?_set_ne e] at c2
      obtain ⟨x, x1, x2⟩ := q3 g sp' v' c1 c2
      exact ⟨x, x1, xsat_mono x2⟩⟩
  have hB2 := zs_ne (x := .inr (2, fs.set 7 (.int (o + 1)))) hB1 hAB
  obtain ⟨kB, u1, u2, u3⟩ := xcf_a hH1 (xgl hB) (show xKT 209 = some (.inr (6, 10, _)) from rfl)
  rw [hB1] at u1
  cases u1
  have hH3 := xHI_set (c := .inl (6, 10, .inr (.inr (va_up f o.toNatClampNeg (some h.length))))) hH2 hB2 (xgl hB) (show xKT 209 = some (.inr (6, 10, _)) from rfl) ⟨_, rfl, ⟨_, rfl⟩, fun j hj => by
    by_cases e : j = o.toNatClampNeg
    · have ev : zm_kv (.inr (.inr (va_up f o.toNatClampNeg (some h.length)))) j = .ref h.length := by
        show va_rf (if j = _ then _ else _) = _
        rw [if_pos e]
        rfl
      refine ⟨((4, 210, 0, 0), .ofNat 0, .ofNat 9, 0, 0), List.mem_cons_of_mem _ List.mem_cons_self, ?_, by show (0 : Int) ≤ _; omega, by show _ ≤ (9 : Int); have hj : j < 10 := hj; omega, Or.inl rfl⟩
      rw [ev]
      exact ⟨h.length, rfl, by rw [hlen]; simp⟩
    · obtain ⟨x, x1, x2, x3⟩ := u3 j hj
      have ev : zm_kv (.inr (.inr (va_up f o.toNatClampNeg (some h.length)))) j = zm_kv (.inr (.inr f)) j := by
        show va_rf (if j = _ then _ else _) = _
        rw [if_neg e]
        rfl
      exact ⟨x, x1, by rw [ev]; exact x2, x3⟩⟩
  have hget : ∀ q, (xaoh h A B fs ws o f)[q]? = if B = q then some (.inl (6, 10, .inr (.inr (va_up f o.toNatClampNeg (some h.length))))) else if A = q then some (.inr (2, fs.set 7 (.int (o + 1)))) else (h ++ [.inr (5, ws)])[q]? := by
    intro q
    unfold xaoh
    rw [xgs hB2, xgs hA1]
  have hold : ∀ q c, h[q]? = some c → q ≠ A → q ≠ B → (xaoh h A B fs ws o f)[q]? = some c := by
    intro q c hq n1 n2
    rw [hget, if_neg (fun e => n2 e.symm), if_neg (fun e => n1 e.symm)]
    exact zs_app hq
  have hfd : ∀ q g v, xfd (xaoh h A B fs ws o f) q g = some v → q < h.length → (q ≠ A ∨ g ≠ 7) → xfd h q g = some v := by
    intro q g v hv hq hne
    unfold xfd at hv ⊢
    rw [hget] at hv
    by_cases e1 : B = q
    · rw [if_pos e1] at hv; cases hv
    · rw [if_neg e1] at hv
      by_cases e2 : A = q
      · rw [if_pos e2] at hv
        subst e2
        rw [hhA]
        have hg : g ≠ 7 := hne.resolve_left (fun e => e rfl)
        have hv : (fs.set 7 (.int (o + 1)))[g]? = some v := hv
        rw [List.getElem?_set_ne (fun e => hg e.symm)] at hv
        exact hv
      · rw [if_neg e2, List.getElem?_append_left hq] at hv
        exact hv
  have hfd2 : ∀ q g v, xfd h q g = some v → (q ≠ A ∨ g ≠ 7) → xfd (xaoh h A B fs ws o f) q g = some v := by
    intro q g v hv hne
    unfold xfd at hv ⊢
    split at hv
    · rename_i oo ho
      have hqB : q ≠ B := fun e => by rw [e, hhB] at ho; cases ho
      by_cases e2 : q = A
      · subst e2
        rw [hhA] at ho
        cases ho
        rw [hget, if_neg (fun e => hqB e.symm), if_pos rfl]
        have hg : g ≠ 7 := hne.resolve_left (fun e => e rfl)
        show (fs.set 7 _)[g]? = _
        rw [List.getElem?_set_ne (fun e => hg e.symm)]
        exact hv
      · rw [hold q _ ho e2 hqB]
        exact hv
    · cases hv
  have hlt : ∀ q kq, (τ ++ [210])[q]? = some kq → kq ≠ 210 → q < h.length ∧ τ[q]? = some kq := by
    intro q kq hq hk
    by_cases hl2 : q < τ.length
    · rw [List.getElem?_append_left hl2] at hq
      exact ⟨by omega, hq⟩
    · have hl3 := (List.getElem?_eq_some_iff.mp hq).1
      rw [List.length_append, List.length_singleton] at hl3
      have e : q = τ.length := by omega
      subst e
      have hq : 210 = kq := by simpa using hq
      exact absurd hq.symm hk
  have px : ∀ {ak ok fa fc : Nat}, xPX ak ok fa fc τ h → ok ≠ 207 → ok ≠ 210 → ak ≠ 209 → ak ≠ 210 → xPX ak ok fa fc (τ ++ [210]) (xaoh h A B fs ws o f) := by
    intro ak ok fa fc hx n1 n2 n3 n4 a' b' t n i c g k1 k2 k3 k4 k5 k6 k7
    obtain ⟨la, ta⟩ := hlt a' ok k1 n2
    obtain ⟨lb, tb⟩ := hlt b' ak k2 n4
    have haA : a' ≠ A := fun e => by rw [e, hA] at ta; cases ta; exact n1 rfl
    have hbB : b' ≠ B := fun e => by rw [e, hB] at tb; cases tb; exact n3 rfl
    have k3 := hfd a' fa _ k3 la (Or.inl haA)
    have k4 := hfd a' fc _ k4 la (Or.inl haA)
    rw [hget, if_neg (fun e => hbB e.symm)] at k5
    by_cases e : A = b'
    · rw [if_pos e] at k5; cases k5
    · rw [if_neg e, List.getElem?_append_left lb] at k5
      exact hx a' b' t n i c g ta tb k3 k4 k5 k6 k7
  refine ⟨hH3, ⟨fun a ha => xgl (s0 a ha), px sx1 (by decide) (by decide) (by decide) (by decide), px sx2 (by decide) (by decide) (by decide) (by decide), ?_, ?_, ?_⟩, ⟨⟨[210], rfl⟩, ?_, ?_⟩, ?_⟩
  · intro a' b' t n i c g k1 k2 k3 k4 k5 k6 k7
    obtain ⟨la, ta⟩ := hlt a' 207 k1 (by decide)
    obtain ⟨lb, tb⟩ := hlt b' 209 k2 (by decide)
    have m3 := hfd a' 8 _ k3 la (Or.inr (by decide))
    clear k3
    have hcnt : ∃ c' : Int32, xfd h a' 7 = some (.int c') ∧ ((i : Int) < c'.toInt ∨ (b' = B ∧ i = o.toNatClampNeg)) := by
      by_cases e : a' = A
      · subst e
        have e7 : xfd (xaoh h a' B fs ws o f) a' 7 = some (.int (o + 1)) := by
          unfold xfd
          rw [hget, if_neg (fun e => hAB e.symm), if_pos rfl]
          exact List.getElem?_set_self (by omega)
        rw [e7] at k4
        cases k4
        have e8 : xfd h a' 8 = some (.ref B) := by simp only [xfd, hhA]; exact f8
        rw [e8] at m3
        cases m3
        refine ⟨o, by simp only [xfd, hhA]; exact f7, ?_⟩
        by_cases ei : (i : Int) < o.toInt
        · exact Or.inl ei
        · right
          exact ⟨rfl, by omega⟩
      · exact ⟨c, hfd a' 7 _ k4 la (Or.inl e), Or.inl k6⟩
    obtain ⟨c', h7, hor⟩ := hcnt
    rw [hget] at k5
    by_cases eB : B = b'
    · rw [if_pos eB] at k5
      cases k5
      show (if i = o.toNatClampNeg then some h.length else f i) ≠ none
      by_cases ei : i = o.toNatClampNeg
      · rw [if_pos ei]; simp
      · rw [if_neg ei]
        subst eB
        exact sx3 a' B 6 10 i c' f ta tb m3 h7 hhB (hor.resolve_right (fun e => ei e.2)) k7
    · rw [if_neg eB] at k5
      by_cases e : A = b'
      · rw [if_pos e] at k5; cases k5
      · rw [if_neg e, List.getElem?_append_left lb] at k5
        exact sx3 a' b' t n i c' g ta tb m3 h7 k5 (hor.resolve_right (fun e => eB e.1.symm)) k7
  · intro n m j g1 g2 k1 k2 k3
    have l4 : 4 ≠ A := fun e => by rw [← e, s0 4 rfl] at hA; cases hA
    have l4b : 4 ≠ B := fun e => by rw [← e, s0 4 rfl] at hB; cases hB
    have l6 : 6 ≠ A := fun e => by rw [← e, s0 6 rfl] at hA; cases hA
    have l6b : 6 ≠ B := fun e => by rw [← e, s0 6 rfl] at hB; cases hB
    have m4 : 4 < h.length := by have := (List.getElem?_eq_some_iff.mp (s0 4 rfl)).1; omega
    have m6 : 6 < h.length := by have := (List.getElem?_eq_some_iff.mp (s0 6 rfl)).1; omega
    rw [hget, if_neg (fun e => l4b e.symm), if_neg (fun e => l4 e.symm), List.getElem?_append_left m4] at k1
    rw [hget, if_neg (fun e => l6b e.symm), if_neg (fun e => l6 e.symm), List.getElem?_append_left m6] at k2
    exact sp n m j g1 g2 k1 k2 k3
  · intro v g c1 c2 c3 c4 c5
    have l36 : 36 ≠ A := fun e => by rw [← e, s0 36 rfl] at hA; cases hA
    have m36 : 36 < h.length := by have := (List.getElem?_eq_some_iff.mp (s0 36 rfl)).1; omega
    exact sl v g (hfd 36 10 _ c1 m36 (Or.inl l36)) c2 c3 c4 (hfd 36 g _ c5 m36 (Or.inl l36))
  · intro a kd g v ha hm hv
    refine hfd2 a g v hv ?_
    by_cases e : a = A
    · right
      rintro rfl
      subst e
      rw [hA] at ha
      cases ha
      cases hm
    · exact Or.inl e
  · intro a kd cc ha hm hv
    have hnB : a ≠ B := fun e => by
      subst e
      rw [hB] at ha
      cases ha
      cases hm
    have hnA : a ≠ A := fun e => by rw [e, hhA] at hv; cases hv
    exact hold a _ hv hnA hnB
  · have w1 := zm_set_sz (c2 := .inl (6, 10, .inr (.inr (va_up f o.toNatClampNeg (some h.length))))) hB2 rfl
    have w2 := zm_set_sz (c2 := .inr (2, fs.set 7 (.int (o + 1)))) hA1 (by show (fs.set 7 _).length = fs.length; rw [List.length_set])
    have l36 : 36 ≠ A := fun e => by rw [← e, s0 36 rfl] at hA; cases hA
    have hsz : zm_szs (xaoh h A B fs ws o f) = zm_szs h + 8 := by
      unfold xaoh
      rw [w1.2, w2.2, zm_szs_app, hws]
      rfl
    have hln : (xaoh h A B fs ws o f).length = h.length + 1 := by
      unfold xaoh
      rw [w1.1, w2.1, List.length_append, List.length_singleton]
    have m36 : 36 < h.length := by have := (List.getElem?_eq_some_iff.mp (s0 36 rfl)).1; omega
    unfold xW
    rw [hsz, hln]
    by_cases e : xfd (xaoh h A B fs ws o f) 36 10 = some .null
    · rw [if_pos e, if_pos (hfd 36 10 _ e m36 (Or.inl l36))]
      omega
    · rw [if_neg e]
      omega
end XAO
