/-! The heap of the small machine, and the machine's -/
abbrev zm_E : Type := va_G × (Nat → ClassId) × (Nat → Nat) × Heap
abbrev zm_NW : Type := List (String × Nat × MethodName × String)
abbrev zm_ST : Type := List (String × String × String × Nat)
def zm_at1 (E : zm_E) (c : zm_C) (a : Nat) (H : Heap) : Prop := match c with
  | .inl (t, n, k) => t < 8 ∧ H[a]? = some (arrV (E.2.1 t) n (fun j => zm_tr E.2.2.2.size E.2.2.1 (zm_kv k j)))
  | .inr (ci, fs) => ∃ r : vw_C, zm_cl[ci]? = some r ∧ fs.length = r.2.2 ∧ t_OB a (E.1.1 ci) r.2.2 (E.1.2 ci) H (vp_V (fs.map (zm_tr E.2.2.2.size E.2.2.1)))
def zm_Rel (E : zm_E) (h : zm_H) (H : Heap) : Prop := H.size = E.2.2.2.size + h.length ∧ (∀ q : Nat, q < E.2.2.2.size → H[q]? = E.2.2.2[q]?) ∧ ∀ (k : Nat) (c : zm_C), h[k]? = some c → zm_at1 E c (E.2.2.2.size + k) H
/-- what is known of the old things: the words' fields, the strings, WORDS, that no two words are one, that strings are compact -/
def zm_O (E : zm_E) (og : Nat → Option zm_C) (U : State) : Prop :=
  (∀ (c j f : Nat) (v : Value), zm_of c j f = some v → ∃ o n d, zm_on c f = some (o, n, d) ∧ va_OF o n d (zm_tr E.2.2.2.size E.2.2.1 v) (E.2.2.1 j) (fun a => E.2.2.2.size ≤ a) U E.2.2.2) ∧
  (∀ j : Nat, (zm_sb j).isSome = true → va_O "java/lang/String" (E.2.2.1 j) (fun a => E.2.2.2.size ≤ a) U E.2.2.2) ∧
  (∀ (j : Nat) (l : List Int32), zm_sb j = some l → va_T .byte (E.2.2.1 (j + 100)) l.length (fun i => .int (l.getD i 0)) (fun a => E.2.2.2.size ≤ a) U E.2.2.2) ∧
  va_T (.object "WindowRoll$Word") (E.2.2.1 1) 36 (fun i => .ref (E.2.2.1 (zm_wh i))) (fun a => E.2.2.2.size ≤ a) U E.2.2.2 ∧
  (∀ j k : Nat, zm_isw j = true → zm_isw k = true → E.2.2.1 j = E.2.2.1 k → j = k) ∧
  va_Z "java/lang/String" "COMPACT_STRINGS" "Z" (.int 1) (fun a => E.2.2.2.size ≤ a) U E.2.2.2 ∧
  va_Z "jdk/internal/util/Preconditions" "SIOOBE_FORMATTER" "Ljava/util/function/BiFunction;" (zm_tr E.2.2.2.size E.2.2.1 (zm_gs og (.retAddr 95))) (fun a => E.2.2.2.size ≤ a) U E.2.2.2
theorem zm_O.moved {E : zm_E} {og : Nat → Option zm_C} {s U : State} (hvm : s.vm.Alike U.vm) (h : zm_O E og s) : zm_O E og U := by
  obtain ⟨h1, h2, h3, h4, h5, h6, h7⟩ := h
  refine ⟨fun c j f v hv => ?_, fun j hj => va_O.moved hvm (h2 j hj), fun j l hl => va_T.moved hvm (h3 j l hl), va_T.moved hvm h4, h5, va_Z.moved hvm h6, va_Z.moved hvm h7⟩
  obtain ⟨o, n, d, a, b⟩ := h1 c j f v hv
  exact ⟨o, n, d, a, va_OF.moved hvm b⟩
def zm_G (E : zm_E) (SS : zm_SS) (ST : zm_ST) (NW : zm_NW) (og : Nat → Option zm_C) (U : State) : Prop :=
  va_K E.1 zm_cl [] U ∧ (∀ t : Nat, t < 8 → ArrOfT U (E.2.1 t) (zm_ty t) ∧ va_RA U (E.2.1 t) (zm_ty t)) ∧
  ((∀ t : Nat, 4 ≤ t → t < 7 → ∀ C : String, zm_ty t = .object C → va_AO C U) ∧ (Cond.arrayOver (.array .long)).before #[] U = true) ∧
  (∀ w ∈ NW, va_Nw (.methodLinkNest w.1 w.2.1 w.2.2.1 w.2.2.2) U) ∧
  (∀ q ∈ SS, vk_R q.1 q.2.1 q.2.2.1 (E.2.2.1 q.2.2.2) U) ∧
  (∀ q ∈ ST, va_Z q.1 q.2.1 q.2.2.1 (.ref (E.2.2.1 q.2.2.2)) (fun a => E.2.2.2.size ≤ a) U E.2.2.2) ∧
  (∀ (j t n : Nat) (k : zm_K), og j = some (.inl (t, n, k)) → t < 8 ∧ ∃ cell : Cell, E.2.2.2[E.2.2.1 j]? = some cell ∧ U.isArrayOf cell (zm_ty t) ∧ cell.vm ≠ .unknown ∧ cell.slots.size = n ∧ ∀ i : Nat, i < n → cell.slots[i]? = some (zm_tr E.2.2.2.size E.2.2.1 (zm_kv k i))) ∧ zm_O E og U
theorem zm_G.moved {E : zm_E} {SS : zm_SS} {ST : zm_ST} {NW : zm_NW} {og : Nat → Option zm_C} {s U : State} (hW : s.WarmedH U.vm) (h : zm_G E SS ST NW og s) : zm_G E SS ST NW og U := by
  obtain ⟨h1, h2, ⟨h3, h3b⟩, h4, h5, h6, h7, h8⟩ := h
  refine ⟨va_K.moved hW.alike h1, fun t ht => ⟨arrOfT_moved hW.alike (h2 t ht).1, va_RA.moved hW.alike (h2 t ht).2⟩, ⟨fun t a b C hC => va_AO.moved hW.alike (h3 t a b C hC), arrayOver_alikeB hW.alike h3b⟩, fun w hw => va_Nw.warmM hW (h4 w hw), fun q hq => vk_R.warm hW (h5 q hq), fun q hq => va_Z.moved hW.alike (h6 q hq), fun j t n k hj => ?_, zm_O.moved hW.alike h8⟩
  · obtain ⟨a, cell, b, c, d⟩ := h7 j t n k hj
    exact ⟨a, cell, b, State.isArrayOf_alike hW.alike c, d⟩
theorem zm_G.same {E : zm_E} {SS : zm_SS} {ST : zm_ST} {NW : zm_NW} {og : Nat → Option zm_C} {s U : State} (hv : U.vm = s.vm) (h : zm_G E SS ST NW og s) : zm_G E SS ST NW og U := h.moved (by rw [hv]; exact State.WarmedH.refl s)
theorem zm_in_vp {i : Int32} {n : Nat} (h : zm_in i n = true) : ¬ i < 0 ∧ i.toNatClampNeg < n := by
  unfold zm_in at h
  simp only [Bool.and_eq_true, Bool.not_eq_true', decide_eq_false_iff_not, decide_eq_true_eq] at h
  exact h
theorem zm_Rel.lt {E : zm_E} {h : zm_H} {H : Heap} {k : Nat} {c : zm_C} (hR : zm_Rel E h H) (hk : h[k]? = some c) : E.2.2.2.size + k < H.size := by
  have := (List.getElem?_eq_some_iff.mp hk).1
  rw [hR.1]
  omega
/-- one cell is written -/
theorem zm_Rel.set {E : zm_E} {h : zm_H} {H H1 : Heap} {k : Nat} {c c1 : zm_C} (hR : zm_Rel E h H) (hk : h[k]? = some c) (h1 : zm_at1 E c1 (E.2.2.2.size + k) H1) (z : H1.size = H.size) (o : ∀ q : Nat, q ≠ E.2.2.2.size + k → H1[q]? = H[q]?) : zm_Rel E (h.set k c1) H1 := by
  obtain ⟨a, b, d⟩ := hR
  have hl := (List.getElem?_eq_some_iff.mp hk).1
  refine ⟨by rw [z, a, List.length_set], fun q hq => by rw [o q (by omega)]; exact b q hq, fun j c2 hj => ?_⟩
  by_cases hjk : j = k
  · subst hjk
    rw [List.getElem?_set_self hl] at hj
    cases hj
    exact h1
  · rw [List.getElem?_set_ne (Ne.symm hjk)] at hj
    have h2 := d j c2 hj
    have e := o (E.2.2.2.size + j) (by omega)
    unfold zm_at1 at h2 ⊢
    split at h2
    · exact ⟨h2.1, by rw [e]; exact h2.2⟩
    · obtain ⟨r, r1, r2, r3⟩ := h2
      exact ⟨r, r1, r2, r3.kept e⟩
/-- one cell is made -/
theorem zm_Rel.push {E : zm_E} {h : zm_H} {H H1 : Heap} {c1 : zm_C} (hR : zm_Rel E h H) (h1 : zm_at1 E c1 H.size H1) (z : H1.size = H.size + 1) (o : ∀ q : Nat, q < H.size → H1[q]? = H[q]?) : zm_Rel E (h ++ [c1]) H1 := by
  obtain ⟨a, b, d⟩ := hR
  refine ⟨by rw [z, a, List.length_append, List.length_singleton, Nat.add_assoc], fun q hq => by rw [o q (by omega)]; exact b q hq, fun j c2 hj => ?_⟩
  by_cases hl : j < h.length
  · rw [List.getElem?_append_left hl] at hj
    have h2 := d j c2 hj
    have e := o (E.2.2.2.size + j) (by omega)
    unfold zm_at1 at h2 ⊢
    split at h2
    · exact ⟨h2.1, by rw [e]; exact h2.2⟩
    · obtain ⟨r, r1, r2, r3⟩ := h2
      exact ⟨r, r1, r2, r3.kept e⟩
  · rw [List.getElem?_append_right (by omega)] at hj
    have hz : j - h.length < 1 := (List.getElem?_eq_some_iff.mp hj).1
    have hj0 : j = h.length := by omega
    rw [show j - h.length = 0 by omega] at hj
    cases hj
    rw [hj0, ← a]
    exact h1
def zm_T0 (TW : List Cond) (df : Nat → List Value) : Prop := ∀ (ci : Nat) (r : vw_C), zm_cl[ci]? = some r → (∀ w ∈ u_ws r.1 r.2.1 r.2.2, w ∈ TW) ∧ (∀ k : Nat, k < r.2.2 → parseFieldDescriptor (r.2.1 k).2.2.1 = some (zm_ft ci k)) ∧ (∀ a : Nat, a < r.2.2 → ∀ b : Nat, b < r.2.2 → a ≠ b → (r.2.1 a).2.1 ≠ (r.2.1 b).2.1) ∧ (∀ j : Nat, j < r.2.2 → defaultValue (zm_ft ci j) = vp_V (df ci) j) ∧ (df ci).length = r.2.2 ∧ ∀ j : Nat, zm_tr 0 (fun _ => 0) (vp_V (df ci) j) = vp_V (df ci) j
def zm_mn (c : Nat) : MethodName × ByteArray × Nat × Option FieldType := match c with
  | 1 => (Lib.Math.max.name, Lib.Math.max.code, 2, some .int)
  | 2 => (Lib.Math.min.name, Lib.Math.min.code, 2, some .int)
  | 3 => (Lib.Math.abs.name, Lib.Math.abs.code, 1, some .int)
  | 4 => (Lib.MathLoose.max_long.x, Lib.MathLoose.max_long.code, 4, some .long)
  | 5 => (Lib.MathLoose.min_long.x, Lib.MathLoose.min_long.code, 4, some .long)
  | _ => (Lib.MathLoose.abs_long.x, Lib.MathLoose.abs_long.code, 2, some .long)
/-- what a heap instruction's row must hold besides its decoding -/
def zm_hok (TW : List Cond) (ST : zm_ST) (cls mname : String) (i : Jvm.ClassFile.Instr) (len : Nat) (x : zm_X) : Bool := match i with
  | .getfield k => decide (len = 3) && (match zm_cl[x.1]? with
    | some r => decide (x.2.1 < r.2.2) && (decide (x.1 < 40) && zm_m TW x.2.2.2.2 0 (.fieldLink cls k (r.2.1 x.2.1).1 (r.2.1 x.2.1).2.1 (r.2.1 x.2.1).2.2.1))
    | none => (match zm_on x.1 x.2.1 with
      | some r => zm_m TW x.2.2.2.2 0 (.fieldLink cls k r.1 r.2.1 r.2.2)
      | none => false))
  | .putfield k => decide (len = 3) && (match zm_cl[x.1]? with
    | some r => decide (x.2.1 < r.2.2) && (zm_m TW x.2.2.2.2 0 (.fieldLink cls k (r.2.1 x.2.1).1 (r.2.1 x.2.1).2.1 (r.2.1 x.2.1).2.2.1) && (!(r.2.1 x.2.1).2.2.2 || (decide (mname = "<init>") && decide ((r.2.1 x.2.1).1 = cls))))
    | none => false)
  | .getstatic k => decide (len = 3) && (ST.any (fun q => decide (x.2.2.2.1 = .retAddr q.2.2.2) && decide (q.2.2.2 ≠ 95) && zm_m TW x.2.2.2.2 0 (.fieldLink cls k q.1 q.2.1 q.2.2.1)) || (decide (x.2.2.2.1 = .int 1) && zm_m TW x.2.2.2.2 0 (.fieldLink cls k "java/lang/String" "COMPACT_STRINGS" "Z") || decide (x.2.2.2.1 = .retAddr 95) && zm_m TW x.2.2.2.2 0 (.fieldLink cls k "jdk/internal/util/Preconditions" "SIOOBE_FORMATTER" "Ljava/util/function/BiFunction;")))
  | .newarray at_ => decide (len = 2) && (decide (x.1 < 4) && (decide (newarray.typeOf at_ = zm_ty x.1) && zm_m TW x.2.2.2.2 0 (.arrayClass (zm_ty x.1))))
  | .anewarray k => decide (len = 3) && (decide (4 ≤ x.1) && (decide (x.1 < 7) && (match zm_ty x.1 with
    | .object C => zm_m TW x.2.2.2.2 0 (.classLink cls k C)
    | _ => false)))
  | .multianewarray k d => decide (len = 4) && (decide (d = 2) && (zm_m TW x.2.2.2.2 0 (.classLink cls k ("[" ++ (FieldType.array FieldType.long).toString)) && zm_m TW x.2.2.2.2 1 (.arrayClass .long)))
  | .new k => decide (len = 3) && (match zm_cl[x.1]? with
    | some r => zm_m TW x.2.2.2.2 0 (.classLink cls k r.1) && (zm_m TW x.2.2.2.2 1 (.instantiable r.1 r.2.2) && zm_m TW x.2.2.2.2 2 (.initialized r.1))
    | none => false)
  | .invokespecial k => decide (len = 3) && (zm_m TW x.2.2.2.2 0 (.methodLink cls k objectInit) && (zm_m TW x.2.2.2.2 1 (.instanceMethod objectInit) && zm_m TW x.2.2.2.2 2 (.code objectInit ⟨#[0xb1]⟩ 1 none)))
  | .invokestatic k => decide (len = 3) && (bif Nat.beq x.2.2.1 7 then zm_m TW x.2.2.2.2 0 (.methodLink cls k arraycopyName) && (zm_m TW x.2.2.2.2 1 (.native arraycopyName) && (zm_m TW x.2.2.2.2 2 (.static arraycopyName) && zm_m TW x.2.2.2.2 3 (.initialized "java/lang/System"))) else zm_m TW x.2.2.2.2 0 (.methodLink cls k (zm_mn x.2.2.1).1) && (zm_m TW x.2.2.2.2 1 (.static (zm_mn x.2.2.1).1) && (zm_m TW x.2.2.2.2 2 (.initialized "java/lang/Math") && zm_m TW x.2.2.2.2 3 (.code (zm_mn x.2.2.1).1 (zm_mn x.2.2.1).2.1 (zm_mn x.2.2.1).2.2.1 (zm_mn x.2.2.1).2.2.2))))
  | _ => decide (len = 1)
