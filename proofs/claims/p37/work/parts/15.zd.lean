/-! An instruction says what it is by its own few bytes (made by a program) -/
section ZDC
variable {α β : Type} {a b : ByteArray} {o : Nat}
def zd_sim (a b : ByteArray) (o : Nat) {α : Type} (r1 r2 : Jvm.ClassFile.Decoder α) : Prop := ∀ (p : Nat) (x : α) (q : Nat), r2 b p = Except.ok (x, q) → r1 a (o + p) = Except.ok (x, o + q)
def zd_sub (a b : ByteArray) (o : Nat) : Prop := ∀ (p : Nat) (hb : p < b.size), ∃ ha : o + p < a.size, a[o + p]'ha = b[p]'hb
theorem zd_pure {v : α} : zd_sim a b o (pure v : Jvm.ClassFile.Decoder α) (pure v : Jvm.ClassFile.Decoder α) := by
  intro p x q h
  have h : (Except.ok (v, p) : Except Jvm.ClassFile.DecodeError (α × Nat)) = Except.ok (x, q) := h
  cases h
  rfl
theorem zd_bind {r1 r2 : Jvm.ClassFile.Decoder α} {f1 f2 : α → Jvm.ClassFile.Decoder β} (h1 : zd_sim a b o r1 r2) (h2 : ∀ y, zd_sim a b o (f1 y) (f2 y)) : zd_sim a b o (r1 >>= f1) (r2 >>= f2) := by
  intro p x q h
  have h : Except.bind (r2 b p) _ = Except.ok (x, q) := h
  show Except.bind (r1 a (o + p)) _ = Except.ok (x, o + q)
  cases e : r2 b p with
  | error w => rw [e] at h; cases h
  | ok z =>
    obtain ⟨y, s⟩ := z
    rw [e] at h
    rw [h1 p y s e]
    exact h2 y s x q h
theorem zd_bindP {r1 r2 : Jvm.ClassFile.Decoder α} {f1 f2 : α → Jvm.ClassFile.Decoder β} {P : α → Prop} (h1 : zd_sim a b o r1 r2) (h2 : ∀ y, P y → zd_sim a b o (f1 y) (f2 y)) (p : Nat) (hP : ∀ y s, r2 b p = Except.ok (y, s) → P y) (x : β) (q : Nat) (h : (r2 >>= f2) b p = Except.ok (x, q)) : (r1 >>= f1) a (o + p) = Except.ok (x, o + q) := by
  have h : Except.bind (r2 b p) _ = Except.ok (x, q) := h
  show Except.bind (r1 a (o + p)) _ = Except.ok (x, o + q)
  cases e : r2 b p with
  | error w => rw [e] at h; cases h
  | ok z =>
    obtain ⟨y, s⟩ := z
    rw [e] at h
    rw [h1 p y s e]
    exact h2 y (hP y s e) s x q h
theorem zd_map {f : α → β} {r1 r2 : Jvm.ClassFile.Decoder α} (h1 : zd_sim a b o r1 r2) : zd_sim a b o (f <$> r1) (f <$> r2) := by
  intro p x q h
  have h : Except.bind (r2 b p) _ = Except.ok (x, q) := h
  show Except.bind (r1 a (o + p)) _ = Except.ok (x, o + q)
  cases e : r2 b p with
  | error w => rw [e] at h; cases h
  | ok z =>
    obtain ⟨y, s⟩ := z
    rw [e] at h
    rw [h1 p y s e]
    have h : (Except.ok (f y, s) : Except Jvm.ClassFile.DecodeError (β × Nat)) = Except.ok (x, q) := h
    cases h
    rfl
theorem zd_u1e (c : ByteArray) (n : Nat) (hh : n < c.size) : (Jvm.ClassFile.Reader.u1 : Jvm.ClassFile.Decoder Nat) c n = Except.ok ((c[n]'hh).toNat, n + 1) := by
  have e : (Jvm.ClassFile.Reader.u1 : Jvm.ClassFile.Decoder Nat) c n = (dite (n < c.size) (fun h => ((do set (n + 1); pure (c[n]'h).toNat) : Jvm.ClassFile.Decoder Nat)) (fun _ => throw (Jvm.ClassFile.HasTruncated.truncated n)) : Jvm.ClassFile.Decoder Nat) c n := rfl
  rw [e, dif_pos hh]
  rfl
theorem zd_u1n (c : ByteArray) (n : Nat) (hh : ¬ n < c.size) : (Jvm.ClassFile.Reader.u1 : Jvm.ClassFile.Decoder Nat) c n = Except.error (Jvm.ClassFile.HasTruncated.truncated n) := by
  have e : (Jvm.ClassFile.Reader.u1 : Jvm.ClassFile.Decoder Nat) c n = (dite (n < c.size) (fun h => ((do set (n + 1); pure (c[n]'h).toNat) : Jvm.ClassFile.Decoder Nat)) (fun _ => throw (Jvm.ClassFile.HasTruncated.truncated n)) : Jvm.ClassFile.Decoder Nat) c n := rfl
  rw [e, dif_neg hh]
  rfl
theorem zd_u1 (hs : zd_sub a b o) : zd_sim a b o (Jvm.ClassFile.Reader.u1 : Jvm.ClassFile.Decoder Nat) (Jvm.ClassFile.Reader.u1 : Jvm.ClassFile.Decoder Nat) := by
  intro p x q h
  by_cases hh : p < b.size
  · rw [zd_u1e b p hh] at h
    obtain ⟨ha, e⟩ := hs p hh
    rw [zd_u1e a (o + p) ha, e]
    cases h
    rfl
  · rw [zd_u1n b p hh] at h
    cases h
theorem zd_u2 (hs : zd_sub a b o) : zd_sim a b o (Jvm.ClassFile.Reader.u2 : Jvm.ClassFile.Decoder Nat) (Jvm.ClassFile.Reader.u2 : Jvm.ClassFile.Decoder Nat) := zd_bind (zd_u1 hs) (fun _ => zd_bind (zd_u1 hs) (fun _ => zd_pure))
theorem zd_s1 (hs : zd_sub a b o) : zd_sim a b o (Jvm.ClassFile.Reader.s1 : Jvm.ClassFile.Decoder Int) (Jvm.ClassFile.Reader.s1 : Jvm.ClassFile.Decoder Int) := zd_map (zd_u1 hs)
theorem zd_s2 (hs : zd_sub a b o) : zd_sim a b o (Jvm.ClassFile.Reader.s2 : Jvm.ClassFile.Decoder Int) (Jvm.ClassFile.Reader.s2 : Jvm.ClassFile.Decoder Int) := zd_map (zd_u2 hs)
def zd_ops : List Nat := [42, 43, 44, 45, 26, 27, 28, 29, 180, 2, 3, 4, 5, 6, 7, 8, 21, 182, 153, 154, 155, 156, 157, 158, 46, 167, 96, 159, 160, 161, 162, 163, 164, 172, 181, 16, 54, 184, 59, 60, 61, 62, 132, 133, 9, 10, 17, 79, 173, 104, 177, 22, 89, 100, 20, 30, 31, 32, 33, 87, 50, 47, 80, 55, 178, 148, 51, 126, 19, 97, 25, 183, 101, 63, 64, 65, 66, 187, 1, 136, 122, 75, 76, 77, 78, 88, 130, 190, 84, 90, 105, 58, 120, 128, 198, 199, 92, 124, 83, 109, 145, 189, 176, 127, 129, 116, 117, 112, 108, 121, 147, 146, 191, 165, 166]
def zd_op (n : Nat) : Bool := zd_ops.any (fun k => Nat.beq n k)
theorem zd_op_in {n : Nat} (h : zd_op n = true) : n ∈ zd_ops := by
  unfold zd_op at h
  obtain ⟨k, hk, e⟩ := List.any_eq_true.mp h
  rw [Nat.eq_of_beq_eq_true e]
  exact hk
theorem zd_fn {P : Nat → Prop} : ∀ y, y ∈ ([] : List Nat) → P y := fun _ z => absurd z List.not_mem_nil
theorem zd_fa {P : Nat → Prop} {k : Nat} {l : List Nat} (h : P k) (t : ∀ y, y ∈ l → P y) : ∀ y, y ∈ k :: l → P y := fun y hy => (List.mem_cons.mp hy).elim (fun e => e ▸ h) (t y)
set_option maxRecDepth 100000 in
theorem zd_ins {pc : Nat} (hs : zd_sub a b o) (hP : ∀ y s, (Jvm.ClassFile.Reader.u1 : Jvm.ClassFile.Decoder Nat) b 0 = Except.ok (y, s) → y ∈ zd_ops) (x : Jvm.ClassFile.Instr) (q : Nat) (h : Jvm.ClassFile.Decoder.instr 0 b 0 = Except.ok (x, q)) : Jvm.ClassFile.Decoder.instr pc a (o + 0) = Except.ok (x, o + q) := by
  unfold Jvm.ClassFile.Decoder.instr at h ⊢
  refine zd_bindP (P := fun y => y ∈ zd_ops) (zd_u1 hs) ?_ 0 hP x q h
  exact zd_fa (zd_pure) (zd_fa (zd_pure) (zd_fa (zd_pure) (zd_fa (zd_pure) (zd_fa (zd_pure) (zd_fa (zd_pure) (zd_fa (zd_pure) (zd_fa (zd_pure) (zd_fa (zd_bind (zd_u2 hs) (fun _ => zd_pure)) (zd_fa (zd_pure) (zd_fa (zd_pure) (zd_fa (zd_pure) (zd_fa (zd_pure) (zd_fa (zd_pure) (zd_fa (zd_pure) (zd_fa (zd_pure) (zd_fa (zd_bind (zd_u1 hs) (fun _ => zd_pure)) (zd_fa (zd_bind (zd_u2 hs) (fun _ => zd_pure)) (zd_fa (zd_bind (zd_s2 hs) (fun _ => zd_pure)) (zd_fa (zd_bind (zd_s2 hs) (fun _ => zd_pure)) (zd_fa (zd_bind (zd_s2 hs) (fun _ => zd_pure)) (zd_fa (zd_bind (zd_s2 hs) (fun _ => zd_pure)) (zd_fa (zd_bind (zd_s2 hs) (fun _ => zd_pure)) (zd_fa (zd_bind (zd_s2 hs) (fun _ => zd_pure)) (zd_fa (zd_pure) (zd_fa (zd_bind (zd_s2 hs) (fun _ => zd_pure)) (zd_fa (zd_pure) (zd_fa (zd_bind (zd_s2 hs) (fun _ => zd_pure)) (zd_fa (zd_bind (zd_s2 hs) (fun _ => zd_pure)) (zd_fa (zd_bind (zd_s2 hs) (fun _ => zd_pure)) (zd_fa (zd_bind (zd_s2 hs) (fun _ => zd_pure)) (zd_fa (zd_bind (zd_s2 hs) (fun _ => zd_pure)) (zd_fa (zd_bind (zd_s2 hs) (fun _ => zd_pure)) (zd_fa (zd_pure) (zd_fa (zd_bind (zd_u2 hs) (fun _ => zd_pure)) (zd_fa (zd_bind (zd_s1 hs) (fun _ => zd_pure)) (zd_fa (zd_bind (zd_u1 hs) (fun _ => zd_pure)) (zd_fa (zd_bind (zd_u2 hs) (fun _ => zd_pure)) (zd_fa (zd_pure) (zd_fa (zd_pure) (zd_fa (zd_pure) (zd_fa (zd_pure) (zd_fa (zd_bind (zd_u1 hs) (fun _ => zd_bind (zd_s1 hs) (fun _ => zd_pure))) (zd_fa (zd_pure) (zd_fa (zd_pure) (zd_fa (zd_pure) (zd_fa (zd_bind (zd_s2 hs) (fun _ => zd_pure)) (zd_fa (zd_pure) (zd_fa (zd_pure) (zd_fa (zd_pure) (zd_fa (zd_pure) (zd_fa (zd_bind (zd_u1 hs) (fun _ => zd_pure)) (zd_fa (zd_pure) (zd_fa (zd_pure) (zd_fa (zd_bind (zd_u2 hs) (fun _ => zd_pure)) (zd_fa (zd_pure) (zd_fa (zd_pure) (zd_fa (zd_pure) (zd_fa (zd_pure) (zd_fa (zd_pure) (zd_fa (zd_pure) (zd_fa (zd_pure) (zd_fa (zd_pure) (zd_fa (zd_bind (zd_u1 hs) (fun _ => zd_pure)) (zd_fa (zd_bind (zd_u2 hs) (fun _ => zd_pure)) (zd_fa (zd_pure) (zd_fa (zd_pure) (zd_fa (zd_pure) (zd_fa (zd_bind (zd_u2 hs) (fun _ => zd_pure)) (zd_fa (zd_pure) (zd_fa (zd_bind (zd_u1 hs) (fun _ => zd_pure)) (zd_fa (zd_bind (zd_u2 hs) (fun _ => zd_pure)) (zd_fa (zd_pure) (zd_fa (zd_pure) (zd_fa (zd_pure) (zd_fa (zd_pure) (zd_fa (zd_pure) (zd_fa (zd_bind (zd_u2 hs) (fun _ => zd_pure)) (zd_fa (zd_pure) (zd_fa (zd_pure) (zd_fa (zd_pure) (zd_fa (zd_pure) (zd_fa (zd_pure) (zd_fa (zd_pure) (zd_fa (zd_pure) (zd_fa (zd_pure) (zd_fa (zd_pure) (zd_fa (zd_pure) (zd_fa (zd_pure) (zd_fa (zd_pure) (zd_fa (zd_pure) (zd_fa (zd_bind (zd_u1 hs) (fun _ => zd_pure)) (zd_fa (zd_pure) (zd_fa (zd_pure) (zd_fa (zd_bind (zd_s2 hs) (fun _ => zd_pure)) (zd_fa (zd_bind (zd_s2 hs) (fun _ => zd_pure)) (zd_fa (zd_pure) (zd_fa (zd_pure) (zd_fa (zd_pure) (zd_fa (zd_pure) (zd_fa (zd_pure) (zd_fa (zd_bind (zd_u2 hs) (fun _ => zd_pure)) (zd_fa (zd_pure) (zd_fa (zd_pure) (zd_fa (zd_pure) (zd_fa (zd_pure) (zd_fa (zd_pure) (zd_fa (zd_pure) (zd_fa (zd_pure) (zd_fa (zd_pure) (zd_fa (zd_pure) (zd_fa (zd_pure) (zd_fa (zd_pure) (zd_fa (zd_bind (zd_s2 hs) (fun _ => zd_pure)) (zd_fa (zd_bind (zd_s2 hs) (fun _ => zd_pure)) (zd_fn)))))))))))))))))))))))))))))))))))))))))))))))))))))))))))))))))))))))))))))))))))))))))))))))))))))))))))))))))))
theorem zd_dec {pc : Nat} (hs : zd_sub a b pc) (hP : ∀ y s, (Jvm.ClassFile.Reader.u1 : Jvm.ClassFile.Decoder Nat) b 0 = Except.ok (y, s) → y ∈ zd_ops) {i : Jvm.ClassFile.Instr} {n : Nat} (h : Jvm.ClassFile.decode b 0 = Except.ok (i, n)) : Jvm.ClassFile.decode a pc = Except.ok (i, n) := by
  have h : Except.bind (Jvm.ClassFile.Decoder.instr 0 b 0) _ = Except.ok (i, n) := h
  show Except.bind (Jvm.ClassFile.Decoder.instr pc a pc) _ = Except.ok (i, n)
  cases e : Jvm.ClassFile.Decoder.instr 0 b 0 with
  | error w => rw [e] at h; cases h
  | ok z =>
    obtain ⟨y, s⟩ := z
    rw [e] at h
    have h : (Except.ok (y, s - 0) : Except Jvm.ClassFile.DecodeError (Jvm.ClassFile.Instr × Nat)) = Except.ok (i, n) := h
    have h2 : Jvm.ClassFile.Decoder.instr pc a pc = Except.ok (y, pc + s) := zd_ins (pc := pc) hs hP y s e
    rw [h2]
    show (Except.ok (y, pc + s - pc) : Except Jvm.ClassFile.DecodeError (Jvm.ClassFile.Instr × Nat)) = Except.ok (i, n)
    rw [Nat.add_sub_cancel_left]
    exact h
theorem zd_eta (a : ByteArray) : a = ⟨⟨a.data.toList⟩⟩ := by
  cases a with
  | mk d => cases d with
    | mk l => rfl
theorem zd_subl {ls l2 : List UInt8} {x : UInt8} {pc : Nat} (hd : ls.drop pc = x :: l2) : zd_sub ⟨⟨ls⟩⟩ ⟨⟨x :: l2.take 4⟩⟩ pc := by
  have e : x :: l2.take 4 = (ls.drop pc).take 5 := by rw [hd]; rfl
  rw [e]
  intro p hb
  have hb : p < ((ls.drop pc).take 5).length := hb
  have hb2 := hb
  rw [List.length_take, List.length_drop] at hb2
  have ha : pc + p < ls.length := by omega
  refine ⟨ha, ?_⟩
  show ls[pc + p]'ha = ((ls.drop pc).take 5)[p]'hb
  rw [List.getElem_take, List.getElem_drop]
def zd_one (cc : ByteArray) (x : UInt8) (l2 : List UInt8) (r : zm_Row) : Bool := bif zd_op x.toNat then decide (Jvm.ClassFile.decode ⟨⟨x :: l2.take 4⟩⟩ 0 = .ok (r.2.1, r.2.2.1)) else decide (Jvm.ClassFile.decode cc r.1 = .ok (r.2.1, r.2.2.1))
theorem zd_one_ok {cc : ByteArray} {ls l2 : List UInt8} {x : UInt8} {r : zm_Row} (hc : cc = ⟨⟨ls⟩⟩) (hd : ls.drop r.1 = x :: l2) (h : zd_one cc x l2 r = true) : Jvm.ClassFile.decode cc r.1 = .ok (r.2.1, r.2.2.1) := by
  unfold zd_one at h
  cases ho : zd_op x.toNat with
  | false => rw [ho] at h; exact of_decide_eq_true h
  | true =>
    rw [ho] at h
    have h : Jvm.ClassFile.decode ⟨⟨x :: l2.take 4⟩⟩ 0 = .ok (r.2.1, r.2.2.1) := of_decide_eq_true h
    rw [hc]
    refine zd_dec (zd_subl hd) (fun y s e => ?_) h
    have e0 := zd_u1e ⟨⟨x :: l2.take 4⟩⟩ 0 (show 0 < (x :: l2.take 4).length from Nat.succ_pos _)
    rw [e0] at e
    have e : (Except.ok (x.toNat, 0 + 1) : Except Jvm.ClassFile.DecodeError (Nat × Nat)) = Except.ok (y, s) := e
    cases e
    exact zd_op_in ho
def zd_ck (F : zm_Row → Bool) (cc : ByteArray) : List UInt8 → Nat → List zm_Row → Bool
  | _, _, [] => true
  | l, pos, r :: t => Nat.ble pos r.1 && (match l.drop (r.1 - pos) with
    | [] => false
    | x :: l2 => (zd_one cc x l2 r && F r) && zd_ck F cc (x :: l2) r.1 t)
theorem zd_ck_ok {F : zm_Row → Bool} {cc : ByteArray} {ls : List UInt8} (hc : cc = ⟨⟨ls⟩⟩) : ∀ (rows : List zm_Row) (l : List UInt8) (pos : Nat), l = ls.drop pos → zd_ck F cc l pos rows = true → ∀ r ∈ rows, Jvm.ClassFile.decode cc r.1 = .ok (r.2.1, r.2.2.1) ∧ F r = true
  | [], _, _, _, _ => fun r hr => absurd hr List.not_mem_nil
  | r :: t, l, pos, hl, h => by
    rw [zd_ck, Bool.and_eq_true] at h
    obtain ⟨h1, h2⟩ := h
    have h1 := Nat.le_of_ble_eq_true h1
    have e : l.drop (r.1 - pos) = ls.drop r.1 := by
      rw [hl, List.drop_drop, Nat.add_sub_cancel' h1]
    cases hq : l.drop (r.1 - pos) with
    | nil => rw [hq] at h2; exact absurd h2 Bool.false_ne_true
    | cons x l2 =>
      rw [hq] at h2
      dsimp only at h2
      rw [Bool.and_eq_true, Bool.and_eq_true] at h2
      obtain ⟨⟨h3, h4⟩, h5⟩ := h2
      have hd : ls.drop r.1 = x :: l2 := by rw [← e, hq]
      intro r' hr'
      rcases List.mem_cons.mp hr' with rfl | hr'
      · exact ⟨zd_one_ok hc hd h3, h4⟩
      · exact zd_ck_ok hc t (x :: l2) r.1 hd.symm h5 r' hr'
def zd_F (P : Nat → Option zm_M) (TW : List Cond) (SS : zm_SS) (ST : zm_ST) (NW : zm_NW) (mr : MethodName × ByteArray × Nat × Option FieldType) (r : zm_Row) : Bool :=  (bif zm_isP r.2.1 then zm_pok TW SS mr.1.cls mr.2.2.1 r.2.1 r.2.2.1 r.2.2.2 else bif zm_isB r.2.1 then zm_bok r.1 r.2.1 r.2.2.1 r.2.2.2 else bif zm_isH r.2.1 r.2.2.2 then zm_hok TW ST mr.1.cls mr.1.name r.2.1 r.2.2.1 r.2.2.2 else bif zm_isC r.2.1 r.2.2.2 then zm_cok P TW NW mr.1.cls r.2.1 r.2.2.1 r.2.2.2 else decide (r.2.2.1 = 1))
theorem zd_all {P : Nat → Option zm_M} {TW : List Cond} {SS : zm_SS} {ST : zm_ST} {NW : zm_NW} {mr : MethodName × ByteArray × Nat × Option FieldType} {rows : List zm_Row} (pos : Nat) (h : zd_ck (zd_F P TW SS ST NW mr) mr.2.1 (mr.2.1.data.toList.drop pos) pos rows = true) : ∀ r ∈ rows, zm_rok P TW SS ST NW mr r = true := by
  intro r hr
  obtain ⟨h1, h2⟩ := zd_ck_ok (zd_eta mr.2.1) rows _ pos rfl h r hr
  show (decide (Jvm.ClassFile.decode mr.2.1 r.1 = .ok (r.2.1, r.2.2.1)) && zd_F P TW SS ST NW mr r) = true
  rw [Bool.and_eq_true]
  exact ⟨decide_eq_true h1, h2⟩
end ZDC
