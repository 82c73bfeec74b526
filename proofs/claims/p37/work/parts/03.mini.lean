/-! A small machine of our own: values with handles, a heap as a list; later: the machine itself goes as it goes. -/
abbrev zm_K : Type := (Nat → Int32) ⊕ ((Nat → Int64) ⊕ (Nat → Option Nat))
abbrev zm_C : Type := (Nat × Nat × zm_K) ⊕ (Nat × List Value)
abbrev zm_H : Type := List zm_C
abbrev zm_L : Type := List (Nat × Value)
abbrev zm_X : Type := Nat × Nat × Nat × Value × List Nat
abbrev zm_Row : Type := Nat × Jvm.ClassFile.Instr × Nat × zm_X
abbrev zm_M : Type := (MethodName × ByteArray × Nat × Option FieldType) × List zm_Row
/-- the array types, by their tags -/
def zm_ty : Nat → FieldType := fun t => match t with
  | 0 => .int
  | 1 => .long
  | 2 => .byte
  | 3 => .boolean
  | 4 => .object "WindowRoll$House"
  | 5 => .object "WindowRoll$Text"
  | 6 => .object "WindowRoll$Opening"
  | 7 => .array .long
  | _ => .object "WindowRoll$Word"
/-- the class (its number in zm_cl) of the objects that an array of a tag holds -/
def zm_tc : Nat → Nat := fun t => match t with
  | 4 => 2
  | 5 => 9
  | _ => 5
def zm_get : zm_L → Nat → Option Value
  | [], _ => none
  | q :: t, i => bif Nat.beq q.1 i then some q.2 else zm_get t i
def zm_st1 (ls : zm_L) (i : Nat) (v : Value) : zm_L := (i, v) :: ls.filter (fun q => !(q.1 == i) && !(q.1 + 1 == i && q.2.category == 2))
def zm_st2 (ls : zm_L) (i : Nat) (v : Value) : zm_L := (i, v) :: ls.filter (fun q => !(q.1 == i) && (!(q.1 == i + 1) && !(q.1 + 1 == i && q.2.category == 2)))
def zm_at : List zm_Row → Nat → Option (Jvm.ClassFile.Instr × Nat × zm_X)
  | [], _ => none
  | r :: t, pc => bif Nat.beq r.1 pc then some r.2 else zm_at t pc
def zm_okv : FieldType → Value → Bool
  | .int, .int _ => true
  | .long, .long _ => true
  | .boolean, .int v => v == 0 || v == 1
  | .byte, .int v => (v.toInt8.toInt32 == v) && (decide (-128 ≤ v) && decide (v ≤ 127))
  | .char, .int v => (v.toUInt32.toUInt16.toUInt32.toInt32 == v) && (decide (0 ≤ v) && decide (v ≤ 65535))
  | .object _, .ref _ => true
  | .object _, .null => true
  | .object _, .retAddr _ => true
  | .array _, .ref _ => true
  | .array _, .null => true
  | _, _ => false
def zm_ldi (ls : zm_L) (k : Nat) (st : List Value) : Option (zm_L × List Value) := match zm_get ls k with
  | some (.int a) => some (ls, .int a :: st)
  | _ => none
def zm_ldl (ls : zm_L) (k : Nat) (st : List Value) : Option (zm_L × List Value) := match zm_get ls k with
  | some (.long a) => some (ls, .long a :: st)
  | _ => none
def zm_lda (ls : zm_L) (k : Nat) (st : List Value) : Option (zm_L × List Value) := match zm_get ls k with
  | some (.ref a) => some (ls, .ref a :: st)
  | some .null => some (ls, .null :: st)
  | some (.retAddr a) => some (ls, .retAddr a :: st)
  | _ => none
def zm_sti (ls : zm_L) (k : Nat) (st : List Value) : Option (zm_L × List Value) := match st with
  | .int a :: st => some (zm_st1 ls k (.int a), st)
  | _ => none
def zm_stl (ls : zm_L) (k : Nat) (st : List Value) : Option (zm_L × List Value) := match st with
  | .long a :: st => some (zm_st2 ls k (.long a), st)
  | _ => none
def zm_sta (ls : zm_L) (k : Nat) (st : List Value) : Option (zm_L × List Value) := match st with
  | .ref a :: st => some (zm_st1 ls k (.ref a), st)
  | .null :: st => some (zm_st1 ls k .null, st)
  | .retAddr a :: st => some (zm_st1 ls k (.retAddr a), st)
  | _ => none
def zm_ii (f : Int32 → Int32 → Int32) (ls : zm_L) (st : List Value) : Option (zm_L × List Value) := match st with
  | .int b :: .int a :: st => some (ls, .int (f a b) :: st)
  | _ => none
def zm_iz (f : Int32 → Int32 → Int32) (ls : zm_L) (st : List Value) : Option (zm_L × List Value) := match st with
  | .int b :: .int a :: st => if b = 0 then none else some (ls, .int (f a b) :: st)
  | _ => none
def zm_i (f : Int32 → Int32) (ls : zm_L) (st : List Value) : Option (zm_L × List Value) := match st with
  | .int a :: st => some (ls, .int (f a) :: st)
  | _ => none
def zm_ll (f : Int64 → Int64 → Int64) (ls : zm_L) (st : List Value) : Option (zm_L × List Value) := match st with
  | .long b :: .long a :: st => some (ls, .long (f a b) :: st)
  | _ => none
def zm_lz (f : Int64 → Int64 → Int64) (ls : zm_L) (st : List Value) : Option (zm_L × List Value) := match st with
  | .long b :: .long a :: st => if b = 0 then none else some (ls, .long (f a b) :: st)
  | _ => none
def zm_l (f : Int64 → Int64) (ls : zm_L) (st : List Value) : Option (zm_L × List Value) := match st with
  | .long a :: st => some (ls, .long (f a) :: st)
  | _ => none
def zm_i2l (ls : zm_L) (st : List Value) : Option (zm_L × List Value) := match st with
  | .int a :: st => some (ls, .long a.toInt64 :: st)
  | _ => none
def zm_l2i (ls : zm_L) (st : List Value) : Option (zm_L × List Value) := match st with
  | .long a :: st => some (ls, .int a.toInt32 :: st)
  | _ => none
def zm_lcmp (ls : zm_L) (st : List Value) : Option (zm_L × List Value) := match st with
  | .long b :: .long a :: st => some (ls, .int (lg_cmp a b) :: st)
  | _ => none
def zm_lshl (ls : zm_L) (st : List Value) : Option (zm_L × List Value) := match st with
  | .int b :: .long a :: st => some (ls, .long (a <<< (b.toInt64 &&& 63)) :: st)
  | _ => none
def zm_dup (ls : zm_L) (st : List Value) : Option (zm_L × List Value) := match st with
  | v :: st => bif Nat.beq v.category 1 then some (ls, v :: v :: st) else none
  | _ => none
def zm_dx1 (ls : zm_L) (st : List Value) : Option (zm_L × List Value) := match st with
  | v :: w :: st => bif Nat.beq v.category 1 && Nat.beq w.category 1 then some (ls, v :: w :: v :: st) else none
  | _ => none
def zm_dup2 (ls : zm_L) (st : List Value) : Option (zm_L × List Value) := match st with
  | v :: w :: st => bif Nat.beq v.category 1 && Nat.beq w.category 1 then some (ls, v :: w :: v :: w :: st) else none
  | _ => none
def zm_pop (ls : zm_L) (st : List Value) : Option (zm_L × List Value) := match st with
  | v :: st => bif Nat.beq v.category 1 then some (ls, st) else none
  | _ => none
def zm_pop2 (ls : zm_L) (st : List Value) : Option (zm_L × List Value) := match st with
  | v :: st => bif Nat.beq v.category 2 then some (ls, st) else none
  | _ => none
def zm_iinc (x : zm_X) (ls : zm_L) (k : Nat) (st : List Value) : Option (zm_L × List Value) := match zm_get ls k, x.2.2.2.1 with
  | some (.int a), .int c => some (zm_st1 ls k (.int (a + c)), st)
  | _, _ => none
/-- what needs neither the heap nor a jump -/
def zm_pure (i : Jvm.ClassFile.Instr) (x : zm_X) (ls : zm_L) (st : List Value) : Option (zm_L × List Value) := match i with
  | .iconst _ => some (ls, x.2.2.2.1 :: st)
  | .bipush _ => some (ls, x.2.2.2.1 :: st)
  | .sipush _ => some (ls, x.2.2.2.1 :: st)
  | .lconst _ => some (ls, x.2.2.2.1 :: st)
  | .ldc _ => some (ls, x.2.2.2.1 :: st)
  | .ldc_w _ => some (ls, x.2.2.2.1 :: st)
  | .ldc2_w _ => some (ls, x.2.2.2.1 :: st)
  | .aconst_null => some (ls, .null :: st)
  | .iload k => zm_ldi ls k st
  | .iload_n k => zm_ldi ls k.val st
  | .lload k => zm_ldl ls k st
  | .lload_n k => zm_ldl ls k.val st
  | .aload k => zm_lda ls k st
  | .aload_n k => zm_lda ls k.val st
  | .istore k => zm_sti ls k st
  | .istore_n k => zm_sti ls k.val st
  | .lstore k => zm_stl ls k st
  | .lstore_n k => zm_stl ls k.val st
  | .astore k => zm_sta ls k st
  | .astore_n k => zm_sta ls k.val st
  | .iinc k _ => zm_iinc x ls k st
  | .iadd => zm_ii (fun a b => a + b) ls st
  | .isub => zm_ii (fun a b => a - b) ls st
  | .imul => zm_ii (fun a b => a * b) ls st
  | .iand => zm_ii (fun a b => a &&& b) ls st
  | .ior => zm_ii (fun a b => a ||| b) ls st
  | .ixor => zm_ii (fun a b => a ^^^ b) ls st
  | .ishl => zm_ii (fun a b => a <<< (b &&& 31)) ls st
  | .ishr => zm_ii (fun a b => a >>> (b &&& 31)) ls st
  | .iushr => zm_ii (fun a b => (a.toUInt32 >>> (b.toUInt32 &&& Int32.toUInt32 31)).toInt32) ls st
  | .idiv => zm_iz (fun a b => a / b) ls st
  | .irem => zm_iz (fun a b => a - a / b * b) ls st
  | .ineg => zm_i (fun a => -a) ls st
  | .i2b => zm_i (fun a => a.toInt8.toInt32) ls st
  | .i2s => zm_i (fun a => a.toInt16.toInt32) ls st
  | .i2c => zm_i (fun a => (a.toUInt32 % 65536).toInt32) ls st
  | .ladd => zm_ll (fun a b => a + b) ls st
  | .lsub => zm_ll (fun a b => a - b) ls st
  | .lmul => zm_ll (fun a b => a * b) ls st
  | .land => zm_ll (fun a b => a &&& b) ls st
  | .lor => zm_ll (fun a b => a ||| b) ls st
  | .ldiv => zm_lz (fun a b => a / b) ls st
  | .lneg => zm_l (fun a => -a) ls st
  | .i2l => zm_i2l ls st
  | .l2i => zm_l2i ls st
  | .lcmp => zm_lcmp ls st
  | .lshl => zm_lshl ls st
  | .dup => zm_dup ls st
  | .dup_x1 => zm_dx1 ls st
  | .dup2 => zm_dup2 ls st
  | .pop => zm_pop ls st
  | .pop2 => zm_pop2 ls st
  | _ => none
def zm_if (c : Jvm.ClassFile.Cond) (a : Int32) (t f : Nat) : Nat := match c with
  | .eq => if a = 0 then t else f
  | .ne => if a = 0 then f else t
  | .lt => if a < 0 then t else f
  | .ge => if 0 ≤ a then t else f
  | .gt => if 0 < a then t else f
  | .le => if a ≤ 0 then t else f
def zm_ic (c : Jvm.ClassFile.Cond) (a b : Int32) (t f : Nat) : Nat := match c with
  | .eq => if a = b then t else f
  | .ne => if a = b then f else t
  | .lt => if a < b then t else f
  | .ge => if b ≤ a then t else f
  | .gt => if b < a then t else f
  | .le => if a ≤ b then t else f
def zm_ac (c : Jvm.ClassFile.ACond) (a b : Option Nat) (t f : Nat) : Nat := match c with
  | .eq => if a = b then t else f
  | .ne => if a = b then f else t
def zm_tab (pc : Nat) (d lo hi : Int) (offs : Array Int) (a : Int32) : Nat := if a.toInt < lo ∨ hi < a.toInt then ((pc : Int) + d).toNat else match offs[(a.toInt - lo).toNat]? with
  | some o => ((pc : Int) + o).toNat
  | none => 0
def zm_rf : Value → Option (Option Nat)
  | .ref a => some (some a)
  | .null => some none
  | _ => none
/-- jumps -/
def zm_br (i : Jvm.ClassFile.Instr) (x : zm_X) (pc : Nat) (st : List Value) : Option (Nat × List Value) := match i with
  | .goto _ => some (x.1, st)
  | .ifCond c _ => (match st with
    | .int a :: st => some (zm_if c a x.1 (pc + 3), st)
    | _ => none)
  | .if_icmp c _ => (match st with
    | .int b :: .int a :: st => some (zm_ic c a b x.1 (pc + 3), st)
    | _ => none)
  | .if_acmp c _ => (match st with
    | .retAddr b :: .retAddr a :: st => bif zm_isw a && zm_isw b then some (zm_ac c (some a) (some b) x.1 (pc + 3), st) else none
    | w :: v :: st => (match zm_rf v, zm_rf w with
      | some a, some b => some (zm_ac c a b x.1 (pc + 3), st)
      | _, _ => none)
    | _ => none)
  | .ifnull _ => (match st with
    | .ref _ :: st => some (pc + 3, st)
    | .retAddr _ :: st => some (pc + 3, st)
    | .null :: st => some (x.1, st)
    | _ => none)
  | .ifnonnull _ => (match st with
    | .ref _ :: st => some (x.1, st)
    | .retAddr _ :: st => some (x.1, st)
    | .null :: st => some (pc + 3, st)
    | _ => none)
  | .tableswitch d lo hi offs => (match st with
    | .int a :: st => some (zm_tab pc d lo hi offs a, st)
    | _ => none)
  | _ => none
def zm_kv (k : zm_K) (i : Nat) : Value := match k with
  | .inl f => .int (f i)
  | .inr (.inl f) => .long (f i)
  | .inr (.inr f) => va_rf (f i)
def zm_in (i : Int32) (n : Nat) : Bool := !(decide (i < 0)) && decide (i.toNatClampNeg < n)
/-- old arrays that never change: the bytes of the strings; of WORDS its length alone -/
def zm_ba (j : Nat) : Option zm_C := bif Nat.beq j 1 then some (.inl (8, 36, .inl (fun _ => 0))) else bif Nat.ble 100 j then (match zm_sb (j - 100) with
  | some l => some (.inl (2, l.length, .inl (fun i => l.getD i 0)))
  | none => none) else none
def zm_rd (og : Nat → Option zm_C) (h : zm_H) (v : Value) : Option zm_C := match v with
  | .ref a => h[a]?
  | .retAddr j => (match zm_ba j with
    | some c => some c
    | none => og j)
  | _ => none
def zm_zero (t : Nat) : zm_K := match t with
  | 1 => .inr (.inl (fun _ => 0))
  | _ => .inl (fun _ => 0)
def zm_sz (c : zm_C) : Nat := match c with
  | .inl (_, n, _) => n
  | .inr (_, fs) => fs.length
def zm_szs (h : zm_H) : Nat := (h.map zm_sz).sum
def zm_geto (x : zm_X) (st : List Value) (h : zm_H) (c : zm_C) : Option (List Value × zm_H) := match c with
  | .inr (ci, fs) => bif Nat.beq ci x.1 then (match fs[x.2.1]? with
    | some v => some (v :: st, h)
    | none => none) else none
  | _ => none
def zm_puto (x : zm_X) (a : Nat) (v : Value) (st : List Value) (h : zm_H) (c : zm_C) : Option (List Value × zm_H) := match c with
  | .inr (ci, fs) => bif Nat.beq ci x.1 && (Nat.blt x.2.1 fs.length && zm_okv (zm_ft ci x.2.1) v) then some (st, h.set a (.inr (ci, fs.set x.2.1 v))) else none
  | _ => none
def zm_lds (i : Jvm.ClassFile.Instr) (t : Nat) : Bool := match i with
  | .iaload => Nat.beq t 0
  | .laload => Nat.beq t 1
  | .baload => Nat.beq t 2 || Nat.beq t 3
  | .aaload => Nat.ble 4 t && Nat.ble t 7
  | _ => false
def zm_ald (og : Nat → Option zm_C) (i : Jvm.ClassFile.Instr) (st : List Value) (h : zm_H) : Option (List Value × zm_H) := match st with
  | .int j :: v :: st => (match zm_rd og h v with
    | some (.inl (t, n, k)) => bif zm_lds i t && zm_in j n then some (zm_kv k j.toNatClampNeg :: st, h) else none
    | _ => none)
  | _ => none
/-- WORDS[i], or an array of ours -/
def zm_aal (og : Nat → Option zm_C) (st : List Value) (h : zm_H) : Option (List Value × zm_H) := match st with
  | .int j :: .retAddr 1 :: st => bif zm_in j 36 then some (.retAddr (zm_wh j.toNatClampNeg) :: st, h) else none
  | _ => zm_ald og .aaload st h
def zm_iast (st : List Value) (h : zm_H) : Option (List Value × zm_H) := match st with
  | .int v :: .int j :: .ref a :: st => (match h[a]? with
    | some (.inl (t, n, .inl f)) => bif Nat.beq t 0 && zm_in j n then some (st, h.set a (.inl (0, n, .inl (upd f j.toNatClampNeg v)))) else none
    | _ => none)
  | _ => none
def zm_bast (st : List Value) (h : zm_H) : Option (List Value × zm_H) := match st with
  | .int v :: .int j :: .ref a :: st => (match h[a]? with
    | some (.inl (t, n, .inl f)) => bif zm_in j n then (bif Nat.beq t 2 then some (st, h.set a (.inl (2, n, .inl (upd f j.toNatClampNeg v.toInt8.toInt32)))) else bif Nat.beq t 3 then some (st, h.set a (.inl (3, n, .inl (upd f j.toNatClampNeg (v &&& 1))))) else none) else none
    | _ => none)
  | _ => none
def zm_last (st : List Value) (h : zm_H) : Option (List Value × zm_H) := match st with
  | .long v :: .int j :: .ref a :: st => (match h[a]? with
    | some (.inl (t, n, .inr (.inl f))) => bif Nat.beq t 1 && zm_in j n then some (st, h.set a (.inl (1, n, .inr (.inl (vp_updL f j.toNatClampNeg v))))) else none
    | _ => none)
  | _ => none
def zm_aast (st : List Value) (h : zm_H) : Option (List Value × zm_H) := match st with
  | .ref r :: .int j :: .ref a :: st => (match h[a]?, h[r]? with
    | some (.inl (t, n, .inr (.inr f))), some (.inr (ci, _)) => bif Nat.ble 4 t && Nat.ble t 6 && Nat.beq ci (zm_tc t) && zm_in j n then some (st, h.set a (.inl (t, n, .inr (.inr (va_up f j.toNatClampNeg (some r)))))) else none
    | _, _ => none)
  | _ => none
def zm_newa (x : zm_X) (st : List Value) (h : zm_H) : Option (List Value × zm_H) := match st with
  | .int n :: st => bif !(decide (n < 0)) && Nat.ble n.toNatClampNeg 60000 then some (.ref h.length :: st, h ++ [.inl (x.1, n.toNatClampNeg, zm_zero x.1)]) else none
  | _ => none
def zm_anew (x : zm_X) (st : List Value) (h : zm_H) : Option (List Value × zm_H) := match st with
  | .int n :: st => bif !(decide (n < 0)) && Nat.ble n.toNatClampNeg 60000 then some (.ref h.length :: st, h ++ [.inl (x.1, n.toNatClampNeg, .inr (.inr (fun _ => none)))]) else none
  | _ => none
def zm_mnew (st : List Value) (h : zm_H) : Option (List Value × zm_H) := match st with
  | .int k :: .int n :: st => bif !(decide (n < 0)) && !(decide (k < 0)) && Nat.ble n.toNatClampNeg 60000 && Nat.ble k.toNatClampNeg 60000 then some (.ref h.length :: st, h ++ (.inl (7, n.toNatClampNeg, .inr (.inr (fun i => if i < n.toNatClampNeg then some (h.length + 1 + i) else none))) :: List.replicate n.toNatClampNeg (.inl (1, k.toNatClampNeg, .inr (.inl (fun _ => 0)))))) else none
  | _ => none
/-- Math.max, min, abs -/
def zm_math (c : Nat) (st : List Value) : Option (List Value) := match c with
  | 1 => (match st with
    | .int y :: .int x :: st => some (.int (if x < y then y else x) :: st)
    | _ => none)
  | 2 => (match st with
    | .int y :: .int x :: st => some (.int (if y < x then y else x) :: st)
    | _ => none)
  | 3 => (match st with
    | .int x :: st => some (.int (if 0 ≤ x then x else 0 - x) :: st)
    | _ => none)
  | 4 => (match st with
    | .long y :: .long x :: st => some (.long (if y < x then x else y) :: st)
    | _ => none)
  | 5 => (match st with
    | .long y :: .long x :: st => some (.long (if y < x then y else x) :: st)
    | _ => none)
  | 6 => (match st with
    | .long x :: st => some (.long (if 0 < x then x else -x) :: st)
    | _ => none)
  | _ => none
/-- System.arraycopy, of ints or longs -/
def zm_cpk (k0 k1 : zm_K) (t0 t1 sp dp n : Nat) : Option zm_K := match k0, k1 with
  | .inl f, .inl g => bif Nat.beq t0 0 && Nat.beq t1 0 then some (.inl (va_cpy f g sp dp n)) else none
  | .inr (.inl f), .inr (.inl g) => bif Nat.beq t0 1 && Nat.beq t1 1 then some (.inr (.inl (va_cpy f g sp dp n))) else none
  | _, _ => none
def zm_cpy (st : List Value) (h : zm_H) : Option (List Value × zm_H) := match st with
  | .int n :: .int dp :: .ref a1 :: .int sp :: .ref a0 :: st => (match h[a0]?, h[a1]? with
    | some (.inl (t0, n0, k0)), some (.inl (t1, n1, k1)) => bif (!(decide (n < 0)) && (!(decide (sp < 0)) && !(decide (dp < 0)))) && (Nat.ble (sp.toNatClampNeg + n.toNatClampNeg) n0 && Nat.ble (dp.toNatClampNeg + n.toNatClampNeg) n1) then (match zm_cpk k0 k1 t0 t1 sp.toNatClampNeg dp.toNatClampNeg n.toNatClampNeg with
      | some k => some (st, h.set a1 (.inl (t1, n1, k)))
      | none => none) else none
    | _, _ => none)
  | _ => none
def zm_cat (st : List Value) : Nat := (st.map fun v => v.category).sum
/-- a static's value; 95 stands for one that may be null -/
def zm_gs (og : Nat → Option zm_C) (v : Value) : Value := match v with
  | .retAddr 95 => (match og 95 with
    | some _ => .retAddr 95
    | none => .null)
  | v => v
/-- the heap -/
def zm_hp (df : Nat → List Value) (og : Nat → Option zm_C) (i : Jvm.ClassFile.Instr) (x : zm_X) (st : List Value) (h : zm_H) : Option (List Value × zm_H) := match i with
  | .getfield _ => (match st with
    | .ref a :: st => (match h[a]? with
      | some c => zm_geto x st h c
      | none => none)
    | .retAddr j :: st => (match zm_of x.1 j x.2.1 with
      | some v => some (v :: st, h)
      | none => none)
    | _ => none)
  | .putfield _ => (match st with
    | v :: .ref a :: st => (match h[a]? with
      | some c => zm_puto x a v st h c
      | none => none)
    | _ => none)
  | .getstatic _ => some (zm_gs og x.2.2.2.1 :: st, h)
  | .arraylength => (match st with
    | v :: st => (match zm_rd og h v with
      | some (.inl (_, n, _)) => some (.int (Int32.ofNat n) :: st, h)
      | _ => none)
    | _ => none)
  | .iaload => zm_ald og .iaload st h
  | .laload => zm_ald og .laload st h
  | .baload => zm_ald og .baload st h
  | .aaload => zm_aal og st h
  | .iastore => zm_iast st h
  | .bastore => zm_bast st h
  | .lastore => zm_last st h
  | .aastore => zm_aast st h
  | .newarray _ => zm_newa x st h
  | .anewarray _ => zm_anew x st h
  | .multianewarray _ _ => zm_mnew st h
  | .new _ => some (.ref h.length :: st, h ++ [.inr (x.1, df x.1)])
  | .invokespecial _ => bif Nat.beq x.2.2.1 1 then (match st with
    | [.ref _] => some ([], h)
    | _ => none) else none
  | .invokestatic _ => bif Nat.beq x.2.2.1 7 then (match zm_cpy st h with
    | some q => bif Nat.ble (zm_cat q.1) 8 then some q else none
    | none => none) else (match zm_math x.2.2.1 st with
    | some st2 => bif Nat.ble (zm_cat st2) 8 then some (st2, h) else none
    | none => none)
  | _ => none
/-- a call: the callee, its arguments, what stays on the stack -/
def zm_call (i : Jvm.ClassFile.Instr) (x : zm_X) (st : List Value) (h : zm_H) : Option (Nat × List Value × List Value) := match i with
  | .invokestatic _ => bif Nat.beq x.2.2.1 0 && (Nat.ble x.2.1 st.length && Nat.ble (zm_cat (st.drop x.2.1)) 8) then some (x.1, (st.take x.2.1).reverse, st.drop x.2.1) else none
  | .invokevirtual _ => (match st.drop x.2.1 with
    | .ref b :: rest => (match h[b]? with
      | some (.inr (ci, _)) => bif Nat.beq ci x.2.2.1 && Nat.ble (zm_cat rest) 16 then some (x.1, .ref b :: (st.take x.2.1).reverse, rest) else none
      | _ => none)
    | .retAddr j :: rest => bif (Nat.beq x.2.2.1 41 && (zm_sb j).isSome) && Nat.ble (zm_cat rest) 8 then some (x.1, .retAddr j :: (st.take x.2.1).reverse, rest) else none
    | _ => none)
  | .invokespecial _ => bif Nat.beq x.2.2.1 1 then none else (match st.drop x.2.1 with
    | .ref b :: rest => bif Nat.ble (zm_cat rest) 8 then some (x.1, .ref b :: (st.take x.2.1).reverse, rest) else none
    | _ => none)
  | _ => none
def zm_ret (ret : Option FieldType) (i : Jvm.ClassFile.Instr) (st : List Value) : Option (Option Value) := match i with
  | .return_ => (match ret, st with
    | none, [] => some none
    | _, _ => none)
  | .ireturn => (match ret, st with
    | some ty, [.int v] => bif zm_okv ty (.int v) then some (some (.int v)) else none
    | _, _ => none)
  | .lreturn => (match ret, st with
    | some .long, [.long v] => some (some (.long v))
    | _, _ => none)
  | .areturn => (match ret, st with
    | some (.object _), [.ref a] => some (some (.ref a))
    | some (.object _), [.null] => some (some .null)
    | some (.object _), [.retAddr a] => some (some (.retAddr a))
    | _, _ => none)
  | _ => none
/-- the small machine: fuel, depth, method, place, locals, stack, heap -/
def zm_ex (P : Nat → Option zm_M) (df : Nat → List Value) (og : Nat → Option zm_C) : Nat → Nat → Nat → Nat → zm_L → List Value → zm_H → Option (Option Value × zm_H)
  | 0, _, _, _, _, _, _ => none
  | n + 1, d, mi, pc, ls, st, h => match P mi with
    | none => none
    | some mr => match zm_at mr.2 pc with
      | none => none
      | some i => match zm_ret mr.1.2.2.2 i.1 st with
        | some r => some (r, h)
        | none => match zm_pure i.1 i.2.2 ls st with
          | some q => zm_ex P df og n d mi (pc + i.2.1) q.1 q.2 h
          | none => match zm_br i.1 i.2.2 pc st with
            | some q => zm_ex P df og n d mi q.1 ls q.2 h
            | none => match zm_hp df og i.1 i.2.2 st h with
              | some q => zm_ex P df og n d mi (pc + i.2.1) ls q.1 q.2
              | none => match zm_call i.1 i.2.2 st h with
                | none => none
                | some q => match d with
                  | 0 => none
                  | d + 1 => match P q.1 with
                    | none => none
                    | some mc => bif Nat.ble (zm_cat q.2.1) mc.1.2.2.1 then (match zm_ex P df og n d q.1 0 (lv_args 0 q.2.1) [] h with
                      | none => none
                      | some w => zm_ex P df og n (d + 1) mi (pc + 3) ls (w.1.toList ++ q.2.2) w.2) else none
