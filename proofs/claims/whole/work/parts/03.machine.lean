/-! ===== THE ABSTRACT MACHINE: one flat typed memory (cells by numbers from 0 on), frames with lists; total where the program is safe ===== -/
/-- shapes (kind, length) of the cells, ints, longs, references, each by cell and place. Kinds: 0 int rows, 1 long rows, 2 .. 9 rows of references, 10 + c objects of class c -/
abbrev am_M : Type := List (Nat × Nat) × (Nat → Nat → Int32) × (Nat → Nat → Int64) × (Nat → Nat → Option Nat)
/-- memory, place in the code, locals, stack -/
abbrev am_F : Type := am_M × Nat × List Value × List Value
abbrev am_S : Type := Nat × (Nat → Int32)
abbrev am_P : Type := Nat × List Value × List Value
abbrev am_R : Type := am_F ⊕ ((Option Value × am_M) ⊕ (Nat × List Value × am_F))
def am_u {α : Type} (f : Nat → Nat → α) (i k : Nat) (v : α) : Nat → Nat → α := va_up f i (va_up (f i) k v)
def am_U : Value := .float 0
def am_isR : Value → Bool
  | .ref _ => true
  | .null => true
  | .retAddr _ => true
  | _ => false
/-- a store of one word: a long whose second half is overwritten is gone -/
def am_s1 : List Value → Nat → Value → List Value
  | [], _, _ => []
  | _ :: l, 0, v => v :: l
  | w :: l, 1, v => (if w.category = 2 then am_U else w) :: am_s1 l 0 v
  | w :: l, i + 2, v => w :: am_s1 l (i + 1) v
def am_s2 (l : List Value) (i : Nat) (v : Value) : List Value := am_s1 (am_s1 l (i + 1) am_U) i v
def am_ldI (nx : Nat) (la st : List Value) (i : Nat) : Option am_P := match la[i]? with
  | some (.int x) => some (nx, la, .int x :: st)
  | _ => none
def am_ldL (nx : Nat) (la st : List Value) (i : Nat) : Option am_P := match la[i]? with
  | some (.long x) => some (nx, la, .long x :: st)
  | _ => none
def am_ldA (nx : Nat) (la st : List Value) (i : Nat) : Option am_P := match la[i]? with
  | some v => if am_isR v = true then some (nx, la, v :: st) else none
  | _ => none
def am_stI (nx : Nat) (la st : List Value) (i : Nat) : Option am_P := match st with
  | .int x :: r => if i < la.length then some (nx, am_s1 la i (.int x), r) else none
  | _ => none
def am_stL (nx : Nat) (la st : List Value) (i : Nat) : Option am_P := match st with
  | .long x :: r => if i + 1 < la.length then some (nx, am_s2 la i (.long x), r) else none
  | _ => none
def am_stA (nx : Nat) (la st : List Value) (i : Nat) : Option am_P := match st with
  | v :: r => if i < la.length ∧ am_isR v = true then some (nx, am_s1 la i v, r) else none
  | _ => none
def am_inc (nx : Nat) (la st : List Value) (i : Nat) (n : Int) : Option am_P := match la[i]? with
  | some (.int x) => some (nx, am_s1 la i (.int (x + Int32.ofInt n)), st)
  | _ => none
def am_bI (f : Int32 → Int32 → Int32) (nx : Nat) (la st : List Value) : Option am_P := match st with
  | .int y :: .int x :: r => some (nx, la, .int (f x y) :: r)
  | _ => none
def am_dI (f : Int32 → Int32 → Int32) (nx : Nat) (la st : List Value) : Option am_P := match st with
  | .int y :: .int x :: r => if y = 0 then none else some (nx, la, .int (f x y) :: r)
  | _ => none
def am_bL (f : Int64 → Int64 → Int64) (nx : Nat) (la st : List Value) : Option am_P := match st with
  | .long y :: .long x :: r => some (nx, la, .long (f x y) :: r)
  | _ => none
def am_dL (f : Int64 → Int64 → Int64) (nx : Nat) (la st : List Value) : Option am_P := match st with
  | .long y :: .long x :: r => if y = 0 then none else some (nx, la, .long (f x y) :: r)
  | _ => none
def am_uL (nx : Nat) (la st : List Value) : Option am_P := match st with
  | .long x :: r => some (nx, la, .long (-x) :: r)
  | _ => none
def am_i2l (nx : Nat) (la st : List Value) : Option am_P := match st with
  | .int x :: r => some (nx, la, .long x.toInt64 :: r)
  | _ => none
def am_cmp (nx : Nat) (la st : List Value) : Option am_P := match st with
  | .long y :: .long x :: r => some (nx, la, .int (lg_cmp x y) :: r)
  | _ => none
def am_dup (nx : Nat) (la st : List Value) : Option am_P := match st with
  | v :: r => if v.category = 1 then some (nx, la, v :: v :: r) else none
  | _ => none
def am_dup2 (nx : Nat) (la st : List Value) : Option am_P := match st with
  | v :: w :: r => if v.category = 1 ∧ w.category = 1 then some (nx, la, v :: w :: v :: w :: r) else none
  | _ => none
def am_c0 (c : ClassFile.Cond) (x : Int32) : Bool := match c with
  | .eq => decide (x = 0)
  | .ne => decide (¬ x = 0)
  | .lt => decide (x < 0)
  | .ge => decide (0 ≤ x)
  | .gt => decide (0 < x)
  | .le => decide (x ≤ 0)
def am_c2 (c : ClassFile.Cond) (x y : Int32) : Bool := match c with
  | .eq => decide (x = y)
  | .ne => decide (¬ x = y)
  | .lt => decide (x < y)
  | .ge => decide (y ≤ x)
  | .gt => decide (y < x)
  | .le => decide (x ≤ y)
def am_if0 (c : ClassFile.Cond) (nx a : Nat) (la st : List Value) : Option am_P := match st with
  | .int x :: r => some (if am_c0 c x = true then a else nx, la, r)
  | _ => none
def am_if2 (c : ClassFile.Cond) (nx a : Nat) (la st : List Value) : Option am_P := match st with
  | .int y :: .int x :: r => some (if am_c2 c x y = true then a else nx, la, r)
  | _ => none
def am_nul (nx a : Nat) (la st : List Value) : Option am_P := match st with
  | .null :: r => some (a, la, r)
  | .ref _ :: r => some (nx, la, r)
  | _ => none
def am_nnul (nx a : Nat) (la st : List Value) : Option am_P := match st with
  | .null :: r => some (nx, la, r)
  | .ref _ :: r => some (a, la, r)
  | _ => none
def am_tsw (pc : Nat) (d lo hi : Int) (offs : Array Int) (la st : List Value) : Option am_P := match st with
  | .int x :: r => if x.toInt < lo ∨ hi < x.toInt then (if 0 ≤ (pc : Int) + d then some (((pc : Int) + d).toNat, la, r) else none) else (match offs[(x.toInt - lo).toNat]? with
    | some o => if 0 ≤ (pc : Int) + o then some (((pc : Int) + o).toNat, la, r) else none
    | none => none)
  | _ => none
def am_lsw (pc : Nat) (d : Int) (ps : Array (Int × Int)) (la st : List Value) : Option am_P := match st with
  | .int x :: r => if (ps.toList.zip (ps.toList.drop 1)).all (fun (a, next) => a.1 < next.1) = true ∧ 0 ≤ (pc : Int) + Op.lookupswitch.offset ps.toList d x.toInt then some (((pc : Int) + Op.lookupswitch.offset ps.toList d x.toInt).toNat, la, r) else none
  | _ => none
/-- the instructions that touch no cell -/
def am_pure (ins : Instr) (pc nx a : Nat) (la st : List Value) : Option am_P := match ins with
  | .iconst n => some (nx, la, .int (Int32.ofInt n) :: st)
  | .bipush n => some (nx, la, .int (Int8.ofInt n).toInt32 :: st)
  | .sipush n => some (nx, la, .int (Int16.ofInt n).toInt32 :: st)
  | .lconst n => some (nx, la, .long (Int64.ofNat (n : Nat)) :: st)
  | .aconst_null => some (nx, la, .null :: st)
  | .ldc2_w _ => some (nx, la, .long (Int64.ofNat a) :: st)
  | .iload i => am_ldI nx la st i
  | .iload_n i => am_ldI nx la st i
  | .lload i => am_ldL nx la st i
  | .lload_n i => am_ldL nx la st i
  | .aload i => am_ldA nx la st i
  | .aload_n i => am_ldA nx la st i
  | .istore i => am_stI nx la st i
  | .istore_n i => am_stI nx la st i
  | .lstore i => am_stL nx la st i
  | .lstore_n i => am_stL nx la st i
  | .astore i => am_stA nx la st i
  | .astore_n i => am_stA nx la st i
  | .iinc i n => am_inc nx la st i n
  | .iadd => am_bI (fun x y => x + y) nx la st
  | .isub => am_bI (fun x y => x - y) nx la st
  | .imul => am_bI (fun x y => x * y) nx la st
  | .iand => am_bI (fun x y => x &&& y) nx la st
  | .ior => am_bI (fun x y => x ||| y) nx la st
  | .ixor => am_bI (fun x y => x ^^^ y) nx la st
  | .ishl => am_bI (fun x y => x <<< (y &&& 31)) nx la st
  | .ishr => am_bI (fun x y => x >>> (y &&& 31)) nx la st
  | .idiv => am_dI (fun x y => x / y) nx la st
  | .irem => am_dI (fun x y => x - x / y * y) nx la st
  | .ladd => am_bL (fun x y => x + y) nx la st
  | .lsub => am_bL (fun x y => x - y) nx la st
  | .lmul => am_bL (fun x y => x * y) nx la st
  | .lxor => am_bL (fun x y => x ^^^ y) nx la st
  | .ldiv => am_dL (fun x y => x / y) nx la st
  | .lrem => am_dL (fun x y => x - x / y * y) nx la st
  | .lneg => am_uL nx la st
  | .i2l => am_i2l nx la st
  | .lcmp => am_cmp nx la st
  | .dup => am_dup nx la st
  | .dup2 => am_dup2 nx la st
  | .goto _ => some (a, la, st)
  | .ifCond c _ => am_if0 c nx a la st
  | .if_icmp c _ => am_if2 c nx a la st
  | .ifnull _ => am_nul nx a la st
  | .ifnonnull _ => am_nnul nx a la st
  | .tableswitch d lo hi offs => am_tsw pc d lo hi offs la st
  | .lookupswitch d ps => am_lsw pc d ps la st
  | _ => none
/-- 0 an int, 1 a long, 2 a reference, 3 a boolean -/
def am_fk (c k : Nat) : Nat := match am_ty c k with
  | .int => 0
  | .long => 1
  | .object _ => 2
  | .array _ => 2
  | .boolean => 3
  | _ => 9
def am_gv (M : am_M) (i c k : Nat) : Value := if am_fk c k = 1 then .long (M.2.2.1 i k) else if am_fk c k = 2 then va_rf (M.2.2.2 i k) else .int (M.2.1 i k)
def am_pv (M : am_M) (i c k : Nat) (v : Value) : Option am_M := match v with
  | .int x => if am_fk c k = 0 ∨ (am_fk c k = 3 ∧ (x = 0 ∨ x = 1)) then some (M.1, am_u M.2.1 i k x, M.2.2.1, M.2.2.2) else none
  | .long x => if am_fk c k = 1 then some (M.1, M.2.1, am_u M.2.2.1 i k x, M.2.2.2) else none
  | .ref j => if am_fk c k = 2 then some (M.1, M.2.1, M.2.2.1, am_u M.2.2.2 i k (some j)) else none
  | .null => if am_fk c k = 2 then some (M.1, M.2.1, M.2.2.1, am_u M.2.2.2 i k none) else none
  | _ => none
def am_get (a b nx : Nat) (M : am_M) (la st : List Value) : Option am_F := match st with
  | .ref i :: r => if (M.1[i]?).map (fun q => q.1) = some (a + 10) then some (M, nx, la, am_gv M i a b :: r) else none
  | _ => none
def am_put (a b nx : Nat) (M : am_M) (la st : List Value) : Option am_F := match st with
  | v :: .ref i :: r => if (M.1[i]?).map (fun q => q.1) = some (a + 10) then (am_pv M i a b v).map (fun M' => (M', nx, la, r)) else none
  | _ => none
def am_alen (S : am_S) (nx : Nat) (M : am_M) (la st : List Value) : Option am_F := match st with
  | .ref i :: r => (match M.1[i]? with
    | some q => if q.1 < 5 then some (M, nx, la, .int (Int32.ofNat q.2) :: r) else none
    | none => none)
  | .retAddr _ :: r => some (M, nx, la, .int (Int32.ofNat S.1) :: r)
  | _ => none
/-- is place j in the row i of that kind? -/
def am_in (M : am_M) (kd i : Nat) (j : Int32) : Bool := match M.1[i]? with
  | some q => decide (q.1 = kd ∧ ¬ (j < 0 ∨ q.2 ≤ j.toNatClampNeg))
  | none => false
def am_iald (S : am_S) (nx : Nat) (M : am_M) (la st : List Value) : Option am_F := match st with
  | .int j :: .ref i :: r => if am_in M 0 i j = true then some (M, nx, la, .int (M.2.1 i j.toNatClampNeg) :: r) else none
  | .int j :: .retAddr _ :: r => if ¬ (j < 0 ∨ S.1 ≤ j.toNatClampNeg) then some (M, nx, la, .int (S.2 j.toNatClampNeg) :: r) else none
  | _ => none
def am_lald (nx : Nat) (M : am_M) (la st : List Value) : Option am_F := match st with
  | .int j :: .ref i :: r => if am_in M 1 i j = true then some (M, nx, la, .long (M.2.2.1 i j.toNatClampNeg) :: r) else none
  | _ => none
/-- the kind of a cell of references -/
def am_kr (M : am_M) (i : Nat) : Nat := match M.1[i]? with
  | some q => q.1
  | none => 0
def am_aald (nx : Nat) (M : am_M) (la st : List Value) : Option am_F := match st with
  | .int j :: .ref i :: r => if 2 ≤ am_kr M i ∧ am_kr M i < 5 ∧ am_in M (am_kr M i) i j = true then some (M, nx, la, va_rf (M.2.2.2 i j.toNatClampNeg) :: r) else none
  | _ => none
def am_iast (nx : Nat) (M : am_M) (la st : List Value) : Option am_F := match st with
  | .int x :: .int j :: .ref i :: r => if am_in M 0 i j = true then some ((M.1, am_u M.2.1 i j.toNatClampNeg x, M.2.2.1, M.2.2.2), nx, la, r) else none
  | _ => none
def am_last (nx : Nat) (M : am_M) (la st : List Value) : Option am_F := match st with
  | .long x :: .int j :: .ref i :: r => if am_in M 1 i j = true then some ((M.1, M.2.1, am_u M.2.2.1 i j.toNatClampNeg x, M.2.2.2), nx, la, r) else none
  | _ => none
def am_aast (nx : Nat) (M : am_M) (la st : List Value) : Option am_F := match st with
  | .ref v :: .int j :: .ref i :: r => if 2 ≤ am_kr M i ∧ am_kr M i < 5 ∧ am_in M (am_kr M i) i j = true ∧ 10 ≤ am_kr M v ∧ (vwCl[am_kr M v - 10]?).map (fun q => q.1) = some (am_ra (am_kr M i)) then some ((M.1, M.2.1, M.2.2.1, am_u M.2.2.2 i j.toNatClampNeg (some v)), nx, la, r) else none
  | _ => none
/-- a new cell: all its places are 0 and null -/
def am_new (M : am_M) (kd len : Nat) : am_M := (M.1 ++ [(kd, len)], va_up M.2.1 M.1.length (fun _ => 0), va_up M.2.2.1 M.1.length (fun _ => 0), va_up M.2.2.2 M.1.length (fun _ => none))
def am_mkO (a nx : Nat) (M : am_M) (la st : List Value) : Option am_F := match vwCl[a - 10]? with
  | some q => if 10 ≤ a then some (am_new M a q.2.2, nx, la, .ref M.1.length :: st) else none
  | none => none
def am_mkA (kd nx : Nat) (M : am_M) (la st : List Value) : Option am_F := match st with
  | .int n :: r => if ¬ n < 0 ∧ n.toNatClampNeg ≤ 1000 then some (am_new M kd n.toNatClampNeg, nx, la, .ref M.1.length :: r) else none
  | _ => none
def am_acp (nx : Nat) (M : am_M) (la st : List Value) : Option am_F := match st with
  | .int n :: .int dp :: .ref i2 :: .int sp :: .ref i1 :: r => (match M.1[i1]?, M.1[i2]? with
    | some q1, some q2 => if (r.map fun v => v.category).sum ≤ 8 ∧ q1.1 = 0 ∧ q2.1 = 0 ∧ ¬ sp < 0 ∧ ¬ dp < 0 ∧ ¬ n < 0 ∧ sp.toNatClampNeg + n.toNatClampNeg ≤ q1.2 ∧ dp.toNatClampNeg + n.toNatClampNeg ≤ q2.2 then some ((M.1, va_up M.2.1 i2 (va_cpy (M.2.1 i1) (M.2.1 i2) sp.toNatClampNeg dp.toNatClampNeg n.toNatClampNeg), M.2.2.1, M.2.2.2), nx, la, r) else none
    | _, _ => none)
  | _ => none
/-- arguments off the stack, in their order, and the rest -/
def am_take : Nat → List Value → List Value → Option (List Value × List Value)
  | 0, st, acc => some (acc, st)
  | n + 1, v :: st, acc => am_take n st (v :: acc)
  | _ + 1, [], _ => none
def am_lay : List Value → List Value
  | [] => []
  | v :: l => if v.category = 2 then v :: am_U :: am_lay l else v :: am_lay l
def am_calS (a b nx : Nat) (M : am_M) (la st : List Value) : Option am_R := match am_take b st [] with
  | some (as, r) => if (r.map fun v => v.category).sum ≤ 8 then some (.inr (.inr (a, as, (M, nx, la, r)))) else none
  | none => none
/-- is this the kind of the class of method a? -/
def am_cvk (a : Nat) (k : Option Nat) : Bool := match am_mt[a]? with
  | some t => decide (10 ≤ t.2.2.2.2.1 ∧ k = some t.2.2.2.2.1)
  | none => false
def am_calV (a b nx : Nat) (M : am_M) (la st : List Value) : Option am_R := match am_take b st [] with
  | some (as, .ref i :: r) => if (r.map fun v => v.category).sum ≤ 8 ∧ am_cvk a ((M.1[i]?).map (fun q => q.1)) = true then some (.inr (.inr (a, .ref i :: as, (M, nx, la, r)))) else none
  | _ => none
def am_retI (t : am_T) (M : am_M) (st : List Value) : Option am_R := match st with
  | [.int x] => if t.2.2.2.1 = some .int ∨ (t.2.2.2.1 = some .boolean ∧ (x = 0 ∨ x = 1)) then some (.inr (.inl (some (.int x), M))) else none
  | _ => none
def am_retL (t : am_T) (M : am_M) (st : List Value) : Option am_R := match st with
  | [.long x] => if t.2.2.2.1 = some .long then some (.inr (.inl (some (.long x), M))) else none
  | _ => none
def am_isO : Option FieldType → Bool
  | some (.object _) => true
  | _ => false
def am_retA (t : am_T) (M : am_M) (st : List Value) : Option am_R := match st with
  | [.ref i] => if am_isO t.2.2.2.1 = true then some (.inr (.inl (some (.ref i), M))) else none
  | [.null] => if am_isO t.2.2.2.1 = true then some (.inr (.inl (some .null, M))) else none
  | _ => none
def am_retV (t : am_T) (M : am_M) (st : List Value) : Option am_R := match st with
  | [] => if t.2.2.2.1 = none then some (.inr (.inl (none, M))) else none
  | _ => none
def am_pop (nx : Nat) (M : am_M) (la st : List Value) : Option am_F := match st with
  | .ref _ :: r => if (r.map fun v => v.category).sum ≤ 8 then some (M, nx, la, r) else none
  | _ => none
/-- the instructions that touch cells, or call, or end -/
def am_mem (S : am_S) (t : am_T) (ins : Instr) (nx a b : Nat) (M : am_M) (la st : List Value) : Option am_R := match ins with
  | .getfield _ => (am_get a b nx M la st).map .inl
  | .putfield _ => (am_put a b nx M la st).map .inl
  | .arraylength => (am_alen S nx M la st).map .inl
  | .iaload => (am_iald S nx M la st).map .inl
  | .laload => (am_lald nx M la st).map .inl
  | .aaload => (am_aald nx M la st).map .inl
  | .iastore => (am_iast nx M la st).map .inl
  | .lastore => (am_last nx M la st).map .inl
  | .aastore => (am_aast nx M la st).map .inl
  | .new _ => (am_mkO a nx M la st).map .inl
  | .newarray .int => (am_mkA 0 nx M la st).map .inl
  | .newarray .long => (am_mkA 1 nx M la st).map .inl
  | .anewarray _ => (am_mkA a nx M la st).map .inl
  | .invokestatic _ => if b = 300 then (am_acp nx M la st).map .inl else am_calS a b nx M la st
  | .invokevirtual _ => am_calV a b nx M la st
  | .invokespecial _ => if b = 200 then (am_pop nx M la st).map .inl else am_calV a (b % 100) nx M la st
  | .ireturn => am_retI t M st
  | .lreturn => am_retL t M st
  | .areturn => am_retA t M st
  | .return_ => am_retV t M st
  | _ => none
def am_step (S : am_S) (t : am_T) (f : am_F) : Option am_R := match t.2.2.2.2.2.lookup f.2.1 with
  | some e => (match am_pure e.1 f.2.1 e.2.1 e.2.2.1 f.2.2.1 f.2.2.2 with
    | some q => some (.inl (f.1, q))
    | none => am_mem S t e.1 e.2.1 e.2.2.1 e.2.2.2.1 f.1 f.2.2.1 f.2.2.2)
  | none => none
/-- the frame with which a method begins -/
def am_ent (t : am_T) (M : am_M) (as : List Value) : am_F := (M, 0, am_lay as ++ List.replicate (t.2.2.1 - (am_lay as).length) am_U, [])
def am_run (S : am_S) : Nat → Nat → am_T → am_F → Option (Option Value × am_M)
  | 0, _, _, _ => none
  | f + 1, d, t, fr => match am_step S t fr with
    | none => none
    | some (.inl fr') => am_run S f d t fr'
    | some (.inr (.inl r)) => some r
    | some (.inr (.inr (j, as, fr'))) => (match d, am_mt[j]? with
      | d' + 1, some t' => if (am_lay as).length ≤ t'.2.2.1 then (match am_run S f d' t' (am_ent t' fr'.1 as) with
        | some (v, M2) => am_run S f d t (M2, fr'.2.1, fr'.2.2.1, v.toList ++ fr'.2.2.2)
        | none => none) else none
      | _, _ => none)
