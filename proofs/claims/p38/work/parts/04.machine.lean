/-! a machine of our own over an abstract heap: what a step asks and where it goes, as a function; Ev: the least predicate closed under it -/
abbrev AC : Type := (Nat × vp_A) ⊕ (Nat × List Value)
abbrev AH : Type := Nat → Option AC
abbrev MD : Type := MethodName × ByteArray × Nat × Option FieldType × List (Nat × Nat × Nat × Nat) × Nat × List (Nat × Nat) × Bool × List Nat
abbrev mY (M : MD) : MethodName := M.1
abbrev mB (M : MD) : ByteArray := M.2.1
abbrev mL (M : MD) : Nat := M.2.2.1
abbrev mR (M : MD) : Option FieldType := M.2.2.2.1
abbrev mH (M : MD) : List (Nat × Nat × Nat × Nat) := M.2.2.2.2.1
abbrev mO (M : MD) : Nat := M.2.2.2.2.2.1
abbrev mT (M : MD) : List (Nat × Nat) := M.2.2.2.2.2.2.1
abbrev mI (M : MD) : Bool := M.2.2.2.2.2.2.2.1
/-- where the method keeps its longs (two places each) -/
abbrev mJ (M : MD) : List Nat := M.2.2.2.2.2.2.2.2
abbrev Out : Type := Option Value ⊕ Nat
/-- read-only cells; the address of ArrayList's empty array; of the mirror of Object[] -/
abbrev EN : Type := AH × Nat × Nat
def hset (h : AH) (a : Nat) (x : AC) : AH := fun q => if q = a then some x else h q
def rd (E : EN) (h : AH) (a : Nat) : Option AC := match h a with
  | some x => some x
  | none => E.1 a
def rdI (E : EN) (h : AH) (a k : Nat) : Option (Nat × (Nat → Int32)) := match rd E h a with
  | some (.inl (k', N, .inl f)) => if k' = k then some (N, f) else none
  | _ => none
def rdJ (E : EN) (h : AH) (a : Nat) : Option (Nat × (Nat → Int64)) := match rd E h a with
  | some (.inl (2, N, .inr (.inl f))) => some (N, f)
  | _ => none
def rdD (E : EN) (h : AH) (a : Nat) : Option (Nat × (Nat → UInt64)) := match rd E h a with
  | some (.inl (3, N, .inr (.inr (.inr (.inl f))))) => some (N, f)
  | _ => none
def rdA (h : AH) (a : Nat) : Option (Nat × (Nat → Option Nat)) := match h a with
  | some (.inl (4, N, .inr (.inr (.inr (.inr f))))) => some (N, f)
  | _ => none
def rwI (h : AH) (a k : Nat) : Option (Nat × (Nat → Int32)) := match h a with
  | some (.inl (k', N, .inl f)) => if k' = k then some (N, f) else none
  | _ => none
def rwJ (h : AH) (a : Nat) : Option (Nat × (Nat → Int64)) := match h a with
  | some (.inl (2, N, .inr (.inl f))) => some (N, f)
  | _ => none
def rwD (h : AH) (a : Nat) : Option (Nat × (Nat → UInt64)) := match h a with
  | some (.inl (3, N, .inr (.inr (.inr (.inl f))))) => some (N, f)
  | _ => none
def rdN (E : EN) (h : AH) (a : Nat) : Option Nat := match rd E h a with
  | some (.inl (_, A)) => some A.1
  | _ => none
def ob (h : AH) (a ci : Nat) : Option (List Value) := match h a with
  | some (.inr (cj, fs)) => if cj = ci then some fs else none
  | _ => none
def isO (h : AH) (a : Nat) : Bool := match h a with
  | some (.inr _) => true
  | _ => false
def isA (v : Value) : Bool := match v with
  | .ref _ => true
  | .null => true
  | _ => false
def isI (v : Value) : Bool := match v with
  | .int _ => true
  | _ => false
def isF (v : Value) : Bool := match v with
  | .float _ => true
  | _ => false
def isL (v : Value) : Bool := match v with
  | .long _ => true
  | _ => false
def is1 (v : Value) : Bool := match v with
  | .int _ => true
  | .float _ => true
  | .ref _ => true
  | .null => true
  | _ => false
def ok01 (v : Value) : Bool := match v with
  | .int x => x == 0 || x == 1
  | _ => false
def ok16 (v : Value) : Bool := match v with
  | .int x => decide (0 ≤ x.toInt) && decide (x.toInt < 65536)
  | _ => false
def okF (t : FieldType) (v : Value) : Bool := match t with
  | .int => isI v
  | .boolean => ok01 v
  | .char => ok16 v
  | .long => isL v
  | .object _ => isA v
  | .array _ => isA v
  | _ => false
def okR (t : Option FieldType) (v : Value) : Bool := match t with
  | some .int => isI v
  | some .boolean => ok01 v
  | some .char => ok16 v
  | _ => false
def okS (t : Option FieldType) : Nat := match t with
  | none => 0
  | some .long => 1
  | some .float => 2
  | some (.object _) => 3
  | some (.array _) => 3
  | _ => 4
def tyC : Nat → Nat → FieldType
  | 0 => tyJx4a65c
  | 1 => tyX0
  | 2 => tyX1
  | 3 => tyX2
  | 4 => tyX3
  | _ => tyX4
def TC : Nat → u_T
  | 0 => TJx4a65c
  | 1 => TX0
  | 2 => TX1
  | 3 => TX2
  | 4 => TX3
  | _ => TX4
def nC : Nat → Nat
  | 0 => 3
  | 1 => 2
  | 2 => 7
  | 3 => 3
  | 4 => 6
  | _ => 7
def dfl (ci : Nat) : List Value := (List.range (nC ci)).map (fun k => defaultValue (tyC ci k))
def jmp (pc : Nat) (off : Int) : Option Nat := match (pc : Int) + off with
  | .ofNat t => some t
  | .negSucc _ => none
def look {α : Type} (l : List (Nat × α)) (k : Nat) : Option α := match l with
  | [] => none
  | x :: r => match Nat.beq x.1 k with
    | true => some x.2
    | false => look r k
/-- pool entries of each class, by program -/
abbrev TAB : Type := (Nat → Nat → Option (Nat × Nat)) × (Nat → Nat → Option Nat) × (Nat → Nat → Option Nat) × (Nat → Nat → Option (Nat × Nat × MD))
abbrev CF : Type := Nat × List Value × List Value × AH
abbrev RES : Type := CF ⊕ ((Nat × (Nat → CF)) ⊕ ((MD × List Value × List Value) ⊕ Out))
abbrev nx (pc : Nat) (ls st : List Value) (h : AH) : Option RES := some (.inl (pc, ls, st, h))
def ift {α : Type} (c : Prop) [Decidable c] (x : Option α) : Option α := if c then x else none
def brI (c : Jvm.ClassFile.Cond) (x y : Int32) (A B : Option RES) : Option RES := match c with
  | .eq => if x = y then A else B
  | .ne => if x = y then B else A
  | .lt => if x < y then A else B
  | .ge => if x < y then B else A
  | .gt => if y < x then A else B
  | .le => if y < x then B else A
def brA (c : ACond) (x y : Value) (A B : Option RES) : Option RES := match c with
  | .eq => if x = y then A else B
  | .ne => if x = y then B else A
def cpOK (h : AH) (o : Option Nat) : Bool := match o with
  | none => true
  | some y => isO h y
def inB (i : Int32) (N : Nat) : Bool := decide (¬ (i < 0 ∨ N ≤ i.toNatClampNeg))
/-- k is a long's first place; its second; one of both -/
def jl (l : List Nat) (k : Nat) : Bool := match l with
  | [] => false
  | x :: r => match Nat.beq x k with
    | true => true
    | false => jl r k
def jp (l : List Nat) (k : Nat) : Bool := match l with
  | [] => false
  | x :: r => match Nat.beq (x + 1) k with
    | true => true
    | false => jp r k
def sto (l : List Nat) (ls : List Value) (k : Nat) (v : Value) (f : List Value → Option RES) : Option RES := match jl l k with
  | true => none
  | false => match jp l k with
    | true => none
    | false => (ls[k]?).bind fun _ => f (ls.set k v)
def sto2 (l : List Nat) (ls : List Value) (k : Nat) (v : Value) (f : List Value → Option RES) : Option RES := match jl l k with
  | false => none
  | true => match jp l k with
    | true => none
    | false => (ls[k + 1]?).bind fun _ => f ((ls.set k v).set (k + 1) (.retAddr 0))
def zer (t : ArrayType) : Option (Nat × (Nat → vp_A)) := match t with
  | .int => some (0, fun N => (N, .inl (fun _ => 0)))
  | .char => some (5, fun N => (N, .inl (fun _ => 0)))
  | _ => none
def inv (E : EN) (d pc : Nat) (ls st : List Value) (h : AH) (q : Nat × Nat × MD) : Option RES := match q.1 with
  | 0 => match st.drop q.2.1 with
    | .ref b :: r => (ob h b (mO q.2.2)).bind fun _ => ift ((st.take q.2.1).length = q.2.1 ∧ r.length ≤ 4) (some (.inr (.inr (.inl (q.2.2, .ref b :: (st.take q.2.1).reverse, r)))))
    | _ => none
  | 1 => match st.drop q.2.1 with
    | .ref b :: r => ift ((st.take q.2.1).length = q.2.1 ∧ r.length ≤ 4) (some (.inr (.inr (.inl (q.2.2, .ref b :: (st.take q.2.1).reverse, r)))))
    | _ => none
  | 2 => ift ((st.take q.2.1).length = q.2.1 ∧ (st.drop q.2.1).length ≤ 4) (some (.inr (.inr (.inl (q.2.2, (st.take q.2.1).reverse, st.drop q.2.1)))))
  | 3 => match st with
    | .ref _ :: r => ift (r.length ≤ 4 ∧ 1 ≤ d) (nx (pc + 3) ls r h)
    | _ => none
  | 4 => match st with
    | .int y :: .int x :: r => ift (r.length ≤ 4 ∧ 1 ≤ d) (nx (pc + 3) ls (.int (if y < x then y else x) :: r) h)
    | _ => none
  | 5 => match st with
    | .int y :: .int x :: r => ift (r.length ≤ 4 ∧ 1 ≤ d) (nx (pc + 3) ls (.int (if x < y then y else x) :: r) h)
    | _ => none
  | 6 => match st with
    | .int n :: .int dp :: .ref b :: .int sp :: .ref a :: r => (rwI h a 0).bind fun f => (rwI h b 0).bind fun g =>
        ift ((¬ sp < 0 ∧ ¬ dp < 0 ∧ ¬ n < 0 ∧ sp.toNatClampNeg + n.toNatClampNeg ≤ f.1 ∧ dp.toNatClampNeg + n.toNatClampNeg ≤ g.1) ∧ r.length ≤ 4 ∧ 2 ≤ d) (nx (pc + 3) ls r (hset h b (.inl (0, g.1, .inl (va_cpy f.2 g.2 sp.toNatClampNeg dp.toNatClampNeg n.toNatClampNeg)))))
    | _ => none
  | 7 => match st with
    | .int n :: .int dp :: .ref b :: .int sp :: .ref a :: r => (rdA h a).bind fun f => (rdA h b).bind fun g =>
        ift ((¬ sp < 0 ∧ ¬ dp < 0 ∧ ¬ n < 0 ∧ sp.toNatClampNeg + n.toNatClampNeg ≤ f.1 ∧ dp.toNatClampNeg + n.toNatClampNeg ≤ g.1) ∧ (∀ i, i < n.toNatClampNeg → cpOK h (f.2 (sp.toNatClampNeg + i)) = true) ∧ r.length ≤ 4 ∧ 2 ≤ d) (nx (pc + 3) ls r (hset h b (.inl (4, g.1, .inr (.inr (.inr (.inr (va_cpy f.2 g.2 sp.toNatClampNeg dp.toNatClampNeg n.toNatClampNeg))))))))
    | _ => none
  | 8 => match st with
    | .ref a :: r => (rdA h a).bind fun _ => ift (r.length ≤ 4 ∧ 1 ≤ d) (nx (pc + 3) ls (.ref E.2.2 :: r) h)
    | _ => none
  | _ => none
def stp (TT : TAB) (E : EN) (d : Nat) (M : MD) (pc : Nat) (ls st : List Value) (h : AH) : Instr → Option RES
  | .aload_n k => (ls[(k : Nat)]?).bind fun v => ift (isA v = true) (nx (pc + 1) ls (v :: st) h)
  | .aload k => (ls[k]?).bind fun v => ift (isA v = true) (nx (pc + 2) ls (v :: st) h)
  | .iload_n k => (ls[(k : Nat)]?).bind fun v => ift (isI v = true) (nx (pc + 1) ls (v :: st) h)
  | .iload k => (ls[k]?).bind fun v => ift (isI v = true) (nx (pc + 2) ls (v :: st) h)
  | .lload_n k => (ls[(k : Nat)]?).bind fun v => ift (isL v = true) (nx (pc + 1) ls (v :: st) h)
  | .lload k => (ls[k]?).bind fun v => ift (isL v = true) (nx (pc + 2) ls (v :: st) h)
  | .lstore_n k => match st with
    | .long x :: r => sto2 (mJ M) ls k (.long x) fun l => nx (pc + 1) l r h
    | _ => none
  | .lstore k => match st with
    | .long x :: r => sto2 (mJ M) ls k (.long x) fun l => nx (pc + 2) l r h
    | _ => none
  | .fload k => (ls[k]?).bind fun v => ift (isF v = true) (nx (pc + 2) ls (v :: st) h)
  | .istore_n k => match st with
    | .int x :: r => sto (mJ M) ls k (.int x) fun l => nx (pc + 1) l r h
    | _ => none
  | .istore k => match st with
    | .int x :: r => sto (mJ M) ls k (.int x) fun l => nx (pc + 2) l r h
    | _ => none
  | .fstore k => match st with
    | .float x :: r => sto (mJ M) ls k (.float x) fun l => nx (pc + 2) l r h
    | _ => none
  | .astore_n k => match st with
    | v :: r => ift (isA v = true) (sto (mJ M) ls k v fun l => nx (pc + 1) l r h)
    | _ => none
  | .astore k => match st with
    | v :: r => ift (isA v = true) (sto (mJ M) ls k v fun l => nx (pc + 2) l r h)
    | _ => none
  | .iconst i => nx (pc + 1) ls (.int (Int32.ofInt i) :: st) h
  | .bipush i => nx (pc + 2) ls (.int (Int8.ofInt i).toInt32 :: st) h
  | .sipush i => nx (pc + 3) ls (.int (Int16.ofInt i).toInt32 :: st) h
  | .lconst k => nx (pc + 1) ls (.long (Int64.ofNat (k : Nat)) :: st) h
  | .fconst k => match (k : Nat) with
    | 0 => nx (pc + 1) ls (.float FP.fconst0 :: st) h
    | _ => none
  | .aconst_null => nx (pc + 1) ls (.null :: st) h
  | .iadd => match st with
    | .int y :: .int x :: r => nx (pc + 1) ls (.int (x + y) :: r) h
    | _ => none
  | .isub => match st with
    | .int y :: .int x :: r => nx (pc + 1) ls (.int (x - y) :: r) h
    | _ => none
  | .imul => match st with
    | .int y :: .int x :: r => nx (pc + 1) ls (.int (x * y) :: r) h
    | _ => none
  | .iand => match st with
    | .int y :: .int x :: r => nx (pc + 1) ls (.int (x &&& y) :: r) h
    | _ => none
  | .ior => match st with
    | .int y :: .int x :: r => nx (pc + 1) ls (.int (x ||| y) :: r) h
    | _ => none
  | .ishl => match st with
    | .int y :: .int x :: r => nx (pc + 1) ls (.int (x <<< (y &&& 31)) :: r) h
    | _ => none
  | .ishr => match st with
    | .int y :: .int x :: r => nx (pc + 1) ls (.int (x >>> (y &&& 31)) :: r) h
    | _ => none
  | .irem => match st with
    | .int y :: .int x :: r => ift (¬ y = 0) (nx (pc + 1) ls (.int (x - x / y * y) :: r) h)
    | _ => none
  | .iushr => match st with
    | .int y :: .int x :: r => nx (pc + 1) ls (.int (x.toUInt32 >>> (y.toUInt32 &&& Int32.toUInt32 31)).toInt32 :: r) h
    | _ => none
  | .lmul => match st with
    | .long y :: .long x :: r => nx (pc + 1) ls (.long (x * y) :: r) h
    | _ => none
  | .ladd => match st with
    | .long y :: .long x :: r => nx (pc + 1) ls (.long (x + y) :: r) h
    | _ => none
  | .i2l => match st with
    | .int x :: r => nx (pc + 1) ls (.long x.toInt64 :: r) h
    | _ => none
  | .i2c => match st with
    | .int x :: r => nx (pc + 1) ls (.int (x.toUInt32 % 65536).toInt32 :: r) h
    | _ => none
  | .i2f => match st with
    | .int x :: r => nx (pc + 1) ls (.float (FP.i2f x) :: r) h
    | _ => none
  | .f2d => match st with
    | .float x :: r => ift (FP.f2d x &&& 0x7fffffffffffffff ≤ 0x7ff0000000000000) (nx (pc + 1) ls (.double (FP.f2d x) :: r) h)
    | _ => none
  | .fdiv => match st with
    | .float y :: .float x :: r => ift (FP.fdiv x y &&& 0x7fffffff ≤ 0x7f800000) (nx (pc + 1) ls (.float (FP.fdiv x y) :: r) h)
    | _ => none
  | .lcmp => match st with
    | .long y :: .long x :: r => nx (pc + 1) ls (.int (lg_cmp x y) :: r) h
    | _ => none
  | .fcmp o => match st with
    | .float y :: .float x :: r => nx (pc + 1) ls (.int (Op.cmpValue (FP.fcmp x y) o) :: r) h
    | _ => none
  | .dcmp o => match st with
    | .double y :: .double x :: r => nx (pc + 1) ls (.int (Op.cmpValue (FP.dcmp x y) o) :: r) h
    | _ => none
  | .ifCond c off => match st with
    | .int x :: r => (jmp pc off).bind fun t => brI c x 0 (nx t ls r h) (nx (pc + 3) ls r h)
    | _ => none
  | .if_icmp c off => match st with
    | .int y :: .int x :: r => (jmp pc off).bind fun t => brI c x y (nx t ls r h) (nx (pc + 3) ls r h)
    | _ => none
  | .if_acmp c off => match st with
    | w :: v :: r => ift (isA v = true ∧ isA w = true) ((jmp pc off).bind fun t => brA c v w (nx t ls r h) (nx (pc + 3) ls r h))
    | _ => none
  | .ifnull off => match st with
    | v :: r => ift (isA v = true) ((jmp pc off).bind fun t => brA .eq v .null (nx t ls r h) (nx (pc + 3) ls r h))
    | _ => none
  | .ifnonnull off => match st with
    | v :: r => ift (isA v = true) ((jmp pc off).bind fun t => brA .ne v .null (nx t ls r h) (nx (pc + 3) ls r h))
    | _ => none
  | .goto off => (jmp pc off).bind fun t => nx t ls st h
  | .tableswitch df lo hi offs => match st with
    | .int x :: r => (if x.toInt < lo ∨ hi < x.toInt then jmp pc df else (offs[(x.toInt - lo).toNat]?).bind fun o => jmp pc o).bind fun t => nx t ls r h
    | _ => none
  | .iinc k i => match ls[k]? with
    | some (.int x) => sto (mJ M) ls k (.int (x + Int32.ofInt i)) fun l => nx (pc + 3) l st h
    | _ => none
  | .dup => match st with
    | v :: r => ift (is1 v = true) (nx (pc + 1) ls (v :: v :: r) h)
    | _ => none
  | .dup_x1 => match st with
    | v :: w :: r => ift (is1 v = true ∧ is1 w = true) (nx (pc + 1) ls (v :: w :: v :: r) h)
    | _ => none
  | .dup2 => match st with
    | v :: w :: r => ift (is1 v = true ∧ is1 w = true) (nx (pc + 1) ls (v :: w :: v :: w :: r) h)
    | _ => none
  | .pop => match st with
    | v :: r => ift (is1 v = true) (nx (pc + 1) ls r h)
    | _ => none
  | .getfield i => match st with
    | .ref a :: r => (TT.1 (mO M) i).bind fun q => (ob h a q.1).bind fun fs => (fs[q.2]?).bind fun v => nx (pc + 3) ls (v :: r) h
    | _ => none
  | .putfield i => match st with
    | v :: .ref a :: r => (TT.1 (mO M) i).bind fun q => (ob h a q.1).bind fun fs => ift ((q.2 < fs.length ∧ okF (tyC q.1 q.2) v = true) ∧ ((TC q.1 q.2).2.2.2 = false ∨ (mI M = true ∧ mO M = q.1))) (nx (pc + 3) ls r (hset h a (.inr (q.1, fs.set q.2 v))))
    | _ => none
  | .getstatic i => ift (mO M = 0 ∧ i = 39) (nx (pc + 3) ls (.ref E.2.1 :: st) h)
  | .ldc i => match mO M, i with
    | 11, 200 => nx (pc + 2) ls (.int 2147483639 :: st) h
    | 8, 110 => nx (pc + 2) ls (.ref E.2.2 :: st) h
    | 7, 7 => nx (pc + 2) ls (.int 40503 :: st) h
    | 7, 125 => nx (pc + 2) ls (.float 3264610304 :: st) h
    | _, _ => none
  | .ldc2_w i => match mO M, i with
    | 7, 213 => nx (pc + 3) ls (.long 31 :: st) h
    | 7, 219 => nx (pc + 3) ls (.long 7 :: st) h
    | 7, 221 => nx (pc + 3) ls (.long 101 :: st) h
    | 7, 226 => nx (pc + 3) ls (.long 11 :: st) h
    | 7, 228 => nx (pc + 3) ls (.long 13 :: st) h
    | 7, 230 => nx (pc + 3) ls (.long 17 :: st) h
    | _, _ => none
  | .iaload => match st with
    | .int i :: .ref a :: r => (rdI E h a 0).bind fun q => ift (inB i q.1 = true) (nx (pc + 1) ls (.int (q.2 i.toNatClampNeg) :: r) h)
    | _ => none
  | .baload => match st with
    | .int i :: .ref a :: r => (rdI E h a 1).bind fun q => ift (inB i q.1 = true) (nx (pc + 1) ls (.int (q.2 i.toNatClampNeg) :: r) h)
    | _ => none
  | .caload => match st with
    | .int i :: .ref a :: r => (rdI E h a 5).bind fun q => ift (inB i q.1 = true) (nx (pc + 1) ls (.int (q.2 i.toNatClampNeg) :: r) h)
    | _ => none
  | .laload => match st with
    | .int i :: .ref a :: r => (rdJ E h a).bind fun q => ift (inB i q.1 = true) (nx (pc + 1) ls (.long (q.2 i.toNatClampNeg) :: r) h)
    | _ => none
  | .daload => match st with
    | .int i :: .ref a :: r => (rdD E h a).bind fun q => ift (inB i q.1 = true) (nx (pc + 1) ls (.double (q.2 i.toNatClampNeg) :: r) h)
    | _ => none
  | .aaload => match st with
    | .int i :: .ref a :: r => (rdA h a).bind fun q => ift (inB i q.1 = true) (nx (pc + 1) ls (va_rf (q.2 i.toNatClampNeg) :: r) h)
    | _ => none
  | .iastore => match st with
    | .int x :: .int i :: .ref a :: r => (rwI h a 0).bind fun q => ift (inB i q.1 = true) (nx (pc + 1) ls r (hset h a (.inl (0, q.1, .inl (upd q.2 i.toNatClampNeg x)))))
    | _ => none
  | .bastore => match st with
    | .int x :: .int i :: .ref a :: r => (rwI h a 1).bind fun q => ift (inB i q.1 = true ∧ ok01 (.int x) = true) (nx (pc + 1) ls r (hset h a (.inl (1, q.1, .inl (upd q.2 i.toNatClampNeg x)))))
    | _ => none
  | .castore => match st with
    | .int x :: .int i :: .ref a :: r => (rwI h a 5).bind fun q => ift (inB i q.1 = true ∧ ok16 (.int x) = true) (nx (pc + 1) ls r (hset h a (.inl (5, q.1, .inl (upd q.2 i.toNatClampNeg x)))))
    | _ => none
  | .lastore => match st with
    | .long x :: .int i :: .ref a :: r => (rwJ h a).bind fun q => ift (inB i q.1 = true) (nx (pc + 1) ls r (hset h a (.inl (2, q.1, .inr (.inl (vp_updL q.2 i.toNatClampNeg x))))))
    | _ => none
  | .dastore => match st with
    | .double x :: .int i :: .ref a :: r => (rwD h a).bind fun q => ift (inB i q.1 = true) (nx (pc + 1) ls r (hset h a (.inl (3, q.1, .inr (.inr (.inr (.inl (vf_upd q.2 i.toNatClampNeg x))))))))
    | _ => none
  | .aastore => match st with
    | .ref v :: .int i :: .ref a :: r => (rdA h a).bind fun q => ift (inB i q.1 = true ∧ isO h v = true) (nx (pc + 1) ls r (hset h a (.inl (4, q.1, .inr (.inr (.inr (.inr (va_up q.2 i.toNatClampNeg (some v)))))))))
    | .null :: .int i :: .ref a :: r => (rdA h a).bind fun q => ift (inB i q.1 = true) (nx (pc + 1) ls r (hset h a (.inl (4, q.1, .inr (.inr (.inr (.inr (va_up q.2 i.toNatClampNeg none))))))))
    | _ => none
  | .arraylength => match st with
    | .ref a :: r => (rdN E h a).bind fun N => nx (pc + 1) ls (.int (Int32.ofNat N) :: r) h
    | _ => none
  | .newarray t => match st with
    | .int i :: r => (zer t).bind fun z => ift (¬ i < 0 ∧ i.toNatClampNeg ≤ 1000000) (some (.inr (.inl (i.toNatClampNeg, fun q => (pc + 2, ls, .ref q :: r, hset h q (.inl (z.1, z.2 i.toNatClampNeg)))))))
    | _ => none
  | .anewarray ix => match st with
    | .int i :: r => ift ((¬ i < 0 ∧ i.toNatClampNeg ≤ 1000000) ∧ ((mO M = 0 ∧ ix = 7) ∨ (mO M = 8 ∧ ix = 2))) (some (.inr (.inl (i.toNatClampNeg, fun q => (pc + 3, ls, .ref q :: r, hset h q (.inl (4, i.toNatClampNeg, .inr (.inr (.inr (.inr (fun _ => none)))))))))))
    | _ => none
  | .new i => match TT.2.1 (mO M) i with
    | some ci => some (.inr (.inl (nC ci, fun q => (pc + 3, ls, .ref q :: st, hset h q (.inr (ci, dfl ci))))))
    | none => (look (mT M) pc).bind fun x => ift (6 ≤ d ∧ st.length ≤ 4) (some (.inr (.inr (.inr (.inr x)))))
  | .checkcast i => match st with
    | .ref a :: r => (TT.2.2.1 (mO M) i).bind fun ci => (ob h a ci).bind fun _ => nx (pc + 3) ls (.ref a :: r) h
    | _ => none
  | .invokevirtual i => (TT.2.2.2 (mO M) i).bind fun q => ift (q.1 = 0 ∨ q.1 = 8) (inv E d pc ls st h q)
  | .invokespecial i => (TT.2.2.2 (mO M) i).bind fun q => ift (q.1 = 1 ∨ q.1 = 3) (inv E d pc ls st h q)
  | .invokestatic i => (TT.2.2.2 (mO M) i).bind fun q => ift (q.1 = 2 ∨ (4 ≤ q.1 ∧ q.1 ≤ 7)) (inv E d pc ls st h q)
  | .ireturn => match st with
    | [.int x] => ift (okR (mR M) (.int x) = true) (some (.inr (.inr (.inr (.inl (some (.int x)))))))
    | _ => none
  | .lreturn => match st with
    | [.long x] => ift (okS (mR M) = 1) (some (.inr (.inr (.inr (.inl (some (.long x)))))))
    | _ => none
  | .freturn => match st with
    | [.float x] => ift (okS (mR M) = 2) (some (.inr (.inr (.inr (.inl (some (.float x)))))))
    | _ => none
  | .areturn => match st with
    | [v] => ift (isA v = true ∧ okS (mR M) = 3) (some (.inr (.inr (.inr (.inl (some v))))))
    | _ => none
  | .return_ => match st with
    | [] => ift (okS (mR M) = 0) (some (.inr (.inr (.inr (.inl none)))))
    | _ => none
  | _ => none
