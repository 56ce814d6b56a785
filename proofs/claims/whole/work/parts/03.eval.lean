/-! THE EVALUATOR: a small machine of whole numbers and reference codes; a method's run on it is a run of the bytecode (04 and on) -/
/-- a value: an int, a long, a reference code (0: null, 1: the script, k + 2: the k-th cell made) -/
abbrev eV : Type := Int32 ⊕ (Int64 ⊕ Nat)
abbrev eL : Type := List (Nat × eV)
/-- a heap: the next code; kind and length by code; ints, references, longs by code and place -/
abbrev eH : Type := Nat × (Nat → Nat × Nat) × (Nat → Nat → Int32) × (Nat → Nat → Nat) × (Nat → Nat → Int64)
/-- pc, locals, stack, heap, cells made, slots made -/
abbrev eS : Type := Nat × eL × List eV × eH × Nat × Nat
/-- returned, or thrown (the exception's number) -/
abbrev eR : Type := (Option eV × eH) ⊕ (Nat × eH)
/-- a step: on; at an end; a call (method, arguments, heap; pc behind, locals, rest, cells, slots; pc of the call); none -/
abbrev eO : Type := eS ⊕ (eR ⊕ ((Nat × List eV × eH × Nat × eL × List eV × Nat × Nat × Nat) ⊕ Unit))
abbrev eE : Type := Instr × Nat × Nat × Nat × Nat × Nat × Nat
abbrev eC : Type := List (Nat × eE)
/-- a method: its class, locals, return kind, cells and slots it may make, handlers, code -/
abbrev eM : Type := Nat × Nat × Nat × Nat × Nat × List (Nat × Nat × Nat × Nat) × eC
def elk : eC → Nat → Option eE
  | [], _ => none
  | x :: t, n => bif Nat.beq x.1 n then some x.2 else elk t n
def eget : eL → Nat → Option eV
  | [], _ => none
  | x :: t, n => bif Nat.beq x.1 n then some x.2 else eget t n
def ecat (v : eV) : Nat := match v with
  | .inl _ => 1
  | .inr (.inl _) => 2
  | .inr (.inr _) => 1
def eset (i : Nat) (v : eV) (ls : eL) : eL := (i, v) :: ls.filter (fun q => !(Nat.beq q.1 i) && !(Nat.beq (q.1 + 1) i && Nat.beq (ecat q.2) 2))
def esetJ (i : Nat) (v : eV) (ls : eL) : eL := (i, v) :: ls.filter (fun q => !(Nat.beq q.1 i) && (!(Nat.beq q.1 (i + 1)) && !(Nat.beq (q.1 + 1) i && Nat.beq (ecat q.2) 2)))
def eup {α : Type} (f : Nat → Nat → α) (r k : Nat) (x : α) : Nat → Nat → α := fun r' k' => if r' = r ∧ k' = k then x else f r' k'
def eupA {α : Type} (f : Nat → α) (r : Nat) (x : α) : Nat → α := fun r' => if r' = r then x else f r'
def estk : eO := .inr (.inr (.inr ()))
def eld (o : Option eV) (k : eV → eO) : eO := match o with
  | some v => k v
  | none => estk
def eldI (o : Option eV) (k : Int32 → eO) : eO := match o with
  | some (.inl x) => k x
  | _ => estk
def eldJ (o : Option eV) (k : Int64 → eO) : eO := match o with
  | some (.inr (.inl x)) => k x
  | _ => estk
def eldR (o : Option eV) (k : Nat → eO) : eO := match o with
  | some (.inr (.inr x)) => k x
  | _ => estk
def epI (st : List eV) (k : Int32 → List eV → eO) : eO := match st with
  | .inl x :: t => k x t
  | _ => estk
def epJ (st : List eV) (k : Int64 → List eV → eO) : eO := match st with
  | .inr (.inl x) :: t => k x t
  | _ => estk
def epR (st : List eV) (k : Nat → List eV → eO) : eO := match st with
  | .inr (.inr x) :: t => k x t
  | _ => estk
def eix (i : Int32) (n : Nat) : Bool := !(decide (i < 0)) && decide (i.toNatClampNeg < n)
def eB (x : Int32) : Bool := decide (x = 0) || decide (x = 1)
/-- how many fields an object has, by its class's number -/
def eNF (k : Nat) : Nat := [12, 3, 8, 3, 4, 3, 6, 5, 7, 8, 43].getD k 0
def ebr (c : Jvm.ClassFile.Cond) (x y : Int32) (A B : eO) : eO := match c with
  | .eq => if x = y then A else B
  | .ne => if ¬ x = y then A else B
  | .lt => if x < y then A else B
  | .ge => if y ≤ x then A else B
  | .gt => if y < x then A else B
  | .le => if x ≤ y then A else B
def ejmp (pc : Nat) (off : Int) (k : Nat → eO) : eO := if 0 ≤ (pc : Int) + off then k ((pc : Int) + off).toNat else estk
def efin (rt : Nat) (st : List eV) (h : eH) : eO := match rt, st with
  | 0, [] => .inr (.inl (.inl (none, h)))
  | 1, [.inl x] => .inr (.inl (.inl (some (.inl x), h)))
  | 2, [.inr (.inl x)] => .inr (.inl (.inl (some (.inr (.inl x)), h)))
  | 3, [.inr (.inr x)] => .inr (.inl (.inl (some (.inr (.inr x)), h)))
  | 4, [.inl x] => if eB x then .inr (.inl (.inl (some (.inl x), h))) else estk
  | _, _ => estk
def ecats (st : List eV) : Nat := match st with
  | [] => 0
  | v :: t => ecat v + ecats t
/-- a call: n arguments from the stack, the receiver under them when 'rc' -/
def ecall (mc ms : Nat) (y n f g : Nat) (pc : Nat) (ls : eL) (st : List eV) (h : eH) (c z : Nat) : eO :=
  if c + f ≤ mc ∧ z + g ≤ ms ∧ ecats (st.drop n) ≤ 8 ∧ n ≤ st.length then .inr (.inr (.inl (y, (st.take n).reverse, h, pc, ls, st.drop n, c + f, z + g, 0))) else estk
set_option maxHeartbeats 4000000 in
def stI (ex : Bool) (sc : Option (Nat × (Nat → Int32))) (rt mc ms maxL : Nat) (i : Instr) (a b d e f g : Nat) (pc : Nat) (ls : eL) (st : List eV) (h : eH) (c z : Nat) : eO :=
  match i with
  | .iload_n n => eldI (eget ls n) fun x => .inl (pc + 1, ls, (.inl x) :: st, h, c, z)
  | .iload n => eldI (eget ls n) fun x => .inl (pc + 2, ls, (.inl x) :: st, h, c, z)
  | .istore_n n => epI st fun x t => if (n : Nat) < maxL then .inl (pc + 1, eset n (.inl x) ls, t, h, c, z) else estk
  | .istore n => epI st fun x t => if n < maxL then .inl (pc + 2, eset n (.inl x) ls, t, h, c, z) else estk
  | .lload_n n => eldJ (eget ls n) fun x => .inl (pc + 1, ls, (.inr (.inl x)) :: st, h, c, z)
  | .lload n => eldJ (eget ls n) fun x => .inl (pc + 2, ls, (.inr (.inl x)) :: st, h, c, z)
  | .lstore_n n => epJ st fun x t => if (n : Nat) + 1 < maxL then .inl (pc + 1, esetJ n (.inr (.inl x)) ls, t, h, c, z) else estk
  | .lstore n => epJ st fun x t => if n + 1 < maxL then .inl (pc + 2, esetJ n (.inr (.inl x)) ls, t, h, c, z) else estk
  | .aload_n n => eldR (eget ls n) fun x => .inl (pc + 1, ls, (.inr (.inr x)) :: st, h, c, z)
  | .aload n => eldR (eget ls n) fun x => .inl (pc + 2, ls, (.inr (.inr x)) :: st, h, c, z)
  | .astore_n n => epR st fun x t => if (n : Nat) < maxL then .inl (pc + 1, eset n (.inr (.inr x)) ls, t, h, c, z) else estk
  | .astore n => epR st fun x t => if n < maxL then .inl (pc + 2, eset n (.inr (.inr x)) ls, t, h, c, z) else estk
  | .aconst_null => .inl (pc + 1, ls, (.inr (.inr 0)) :: st, h, c, z)
  | .iconst n => .inl (pc + 1, ls, (.inl (Int32.ofInt n)) :: st, h, c, z)
  | .bipush n => .inl (pc + 2, ls, (.inl (Int8.ofInt n).toInt32) :: st, h, c, z)
  | .sipush n => .inl (pc + 3, ls, (.inl (Int16.ofInt n).toInt32) :: st, h, c, z)
  | .lconst n => .inl (pc + 1, ls, (.inr (.inl (Int64.ofNat n))) :: st, h, c, z)
  | .iadd => epI st fun y t => epI t fun x t => .inl (pc + 1, ls, (.inl (x + y)) :: t, h, c, z)
  | .isub => epI st fun y t => epI t fun x t => .inl (pc + 1, ls, (.inl (x - y)) :: t, h, c, z)
  | .imul => epI st fun y t => epI t fun x t => .inl (pc + 1, ls, (.inl (x * y)) :: t, h, c, z)
  | .iand => epI st fun y t => epI t fun x t => .inl (pc + 1, ls, (.inl (x &&& y)) :: t, h, c, z)
  | .ior => epI st fun y t => epI t fun x t => .inl (pc + 1, ls, (.inl (x ||| y)) :: t, h, c, z)
  | .ishl => epI st fun y t => epI t fun x t => .inl (pc + 1, ls, (.inl (x <<< (y &&& 31))) :: t, h, c, z)
  | .ishr => epI st fun y t => epI t fun x t => .inl (pc + 1, ls, (.inl (x >>> (y &&& 31))) :: t, h, c, z)
  | .iushr => epI st fun y t => epI t fun x t => .inl (pc + 1, ls, (.inl ((x.toUInt32 >>> (y.toUInt32 &&& Int32.toUInt32 31)).toInt32)) :: t, h, c, z)
  | .idiv => epI st fun y t => epI t fun x t => if ¬ y = 0 then .inl (pc + 1, ls, (.inl (x / y)) :: t, h, c, z) else estk
  | .irem => epI st fun y t => epI t fun x t => if ¬ y = 0 then .inl (pc + 1, ls, (.inl (x - x / y * y)) :: t, h, c, z) else estk
  | .ladd => epJ st fun y t => epJ t fun x t => .inl (pc + 1, ls, (.inr (.inl (x + y))) :: t, h, c, z)
  | .lsub => epJ st fun y t => epJ t fun x t => .inl (pc + 1, ls, (.inr (.inl (x - y))) :: t, h, c, z)
  | .lmul => epJ st fun y t => epJ t fun x t => .inl (pc + 1, ls, (.inr (.inl (x * y))) :: t, h, c, z)
  | .land => epJ st fun y t => epJ t fun x t => .inl (pc + 1, ls, (.inr (.inl (x &&& y))) :: t, h, c, z)
  | .lor => epJ st fun y t => epJ t fun x t => .inl (pc + 1, ls, (.inr (.inl (x ||| y))) :: t, h, c, z)
  | .lxor => epJ st fun y t => epJ t fun x t => .inl (pc + 1, ls, (.inr (.inl (x ^^^ y))) :: t, h, c, z)
  | .lcmp => epJ st fun y t => epJ t fun x t => .inl (pc + 1, ls, (.inl (lg_cmp x y)) :: t, h, c, z)
  | .lshl => epI st fun y t => epJ t fun x t => .inl (pc + 1, ls, (.inr (.inl (x <<< (y.toInt64 &&& 63)))) :: t, h, c, z)
  | .lshr => epI st fun y t => epJ t fun x t => .inl (pc + 1, ls, (.inr (.inl (x >>> (y.toInt64 &&& 63)))) :: t, h, c, z)
  | .lushr => epI st fun y t => epJ t fun x t => .inl (pc + 1, ls, (.inr (.inl ((x.toUInt64 >>> (y.toInt64.toUInt64 &&& Int64.toUInt64 63)).toInt64))) :: t, h, c, z)
  | .i2l => epI st fun x t => .inl (pc + 1, ls, (.inr (.inl x.toInt64)) :: t, h, c, z)
  | .l2i => epJ st fun x t => .inl (pc + 1, ls, (.inl x.toInt32) :: t, h, c, z)
  | .iinc n k => eldI (eget ls n) fun x => if n < maxL then .inl (pc + 3, eset n (.inl (x + Int32.ofInt k)) ls, st, h, c, z) else estk
  | .goto o => ejmp pc o fun q => .inl (q, ls, st, h, c, z)
  | .if_icmp k o => epI st fun y t => epI t fun x t => ejmp pc o fun q => ebr k x y (.inl (q, ls, t, h, c, z)) (.inl (pc + 3, ls, t, h, c, z))
  | .ifCond k o => epI st fun x t => ejmp pc o fun q => ebr k x 0 (.inl (q, ls, t, h, c, z)) (.inl (pc + 3, ls, t, h, c, z))
  | .ifnull o => epR st fun x t => ejmp pc o fun q => if x = 0 then .inl (q, ls, t, h, c, z) else .inl (pc + 3, ls, t, h, c, z)
  | .ifnonnull o => epR st fun x t => ejmp pc o fun q => if x = 0 then .inl (pc + 3, ls, t, h, c, z) else .inl (q, ls, t, h, c, z)
  | .dup => match st with
    | v :: t => if ecat v = 1 then .inl (pc + 1, ls, v :: v :: t, h, c, z) else estk
    | _ => estk
  | .dup2 => match st with
    | v :: w :: t => if ecat v = 1 ∧ ecat w = 1 then .inl (pc + 1, ls, v :: w :: v :: w :: t, h, c, z) else estk
    | _ => estk
  | .pop => match st with
    | v :: t => if ecat v = 1 then .inl (pc + 1, ls, t, h, c, z) else estk
    | _ => estk
  | .getfield _ => epR st fun r t => if (h.2.1 r).1 = a then .inl (pc + 3, ls, (match d with
      | 1 => .inr (.inr (h.2.2.2.1 r b))
      | _ => .inl (h.2.2.1 r b)) :: t, h, c, z) else estk
  | .putfield _ => match d with
    | 0 => epI st fun x t => epR t fun r t => if (h.2.1 r).1 = a then .inl (pc + 3, ls, t, (h.1, h.2.1, eup h.2.2.1 r b x, h.2.2.2.1, h.2.2.2.2), c, z) else estk
    | 1 => epR st fun x t => epR t fun r t => if (h.2.1 r).1 = a then .inl (pc + 3, ls, t, (h.1, h.2.1, h.2.2.1, eup h.2.2.2.1 r b x, h.2.2.2.2), c, z) else estk
    | _ => epI st fun x t => epR t fun r t => if (h.2.1 r).1 = a ∧ eB x = true then .inl (pc + 3, ls, t, (h.1, h.2.1, eup h.2.2.1 r b x, h.2.2.2.1, h.2.2.2.2), c, z) else estk
  | .iaload => epI st fun i t => epR t fun r t => match r, sc with
    | 1, some X => if eix i X.1 = true then .inl (pc + 1, ls, (.inl (X.2 i.toNatClampNeg)) :: t, h, c, z) else estk
    | r, _ => if (h.2.1 r).1 = 11 ∧ eix i (h.2.1 r).2 = true then .inl (pc + 1, ls, (.inl (h.2.2.1 r i.toNatClampNeg)) :: t, h, c, z) else estk
  | .baload => epI st fun i t => epR t fun r t => if (h.2.1 r).1 = 13 ∧ eix i (h.2.1 r).2 = true then .inl (pc + 1, ls, (.inl (h.2.2.1 r i.toNatClampNeg)) :: t, h, c, z) else estk
  | .laload => epI st fun i t => epR t fun r t => if (h.2.1 r).1 = 12 ∧ eix i (h.2.1 r).2 = true then .inl (pc + 1, ls, (.inr (.inl (h.2.2.2.2 r i.toNatClampNeg))) :: t, h, c, z) else estk
  | .aaload => epI st fun i t => epR t fun r t => if (h.2.1 r).1 = a ∧ eix i (h.2.1 r).2 = true then .inl (pc + 1, ls, (.inr (.inr (h.2.2.2.1 r i.toNatClampNeg))) :: t, h, c, z) else estk
  | .iastore => epI st fun x t => epI t fun i t => epR t fun r t => if (h.2.1 r).1 = 11 ∧ eix i (h.2.1 r).2 = true then .inl (pc + 1, ls, t, (h.1, h.2.1, eup h.2.2.1 r i.toNatClampNeg x, h.2.2.2.1, h.2.2.2.2), c, z) else estk
  | .bastore => epI st fun x t => epI t fun i t => epR t fun r t => if (h.2.1 r).1 = 13 ∧ eix i (h.2.1 r).2 = true ∧ eB x = true then .inl (pc + 1, ls, t, (h.1, h.2.1, eup h.2.2.1 r i.toNatClampNeg x, h.2.2.2.1, h.2.2.2.2), c, z) else estk
  | .lastore => epJ st fun x t => epI t fun i t => epR t fun r t => if (h.2.1 r).1 = 12 ∧ eix i (h.2.1 r).2 = true then .inl (pc + 1, ls, t, (h.1, h.2.1, h.2.2.1, h.2.2.2.1, eup h.2.2.2.2 r i.toNatClampNeg x), c, z) else estk
  | .aastore => epR st fun x t => epI t fun i t => epR t fun r t => if (h.2.1 r).1 = a ∧ eix i (h.2.1 r).2 = true ∧ (h.2.1 x).1 = b then .inl (pc + 1, ls, t, (h.1, h.2.1, h.2.2.1, eup h.2.2.2.1 r i.toNatClampNeg x, h.2.2.2.2), c, z) else estk
  | .arraylength => epR st fun r t => match r, sc with
    | 1, some X => .inl (pc + 1, ls, (.inl (Int32.ofNat X.1)) :: t, h, c, z)
    | r, _ => if 11 ≤ (h.2.1 r).1 ∧ (h.2.1 r).1 < 18 then .inl (pc + 1, ls, (.inl (Int32.ofNat (h.2.1 r).2)) :: t, h, c, z) else estk
  | .new _ => match b with
    | 0 => if ex = true ∧ c + 1 ≤ mc ∧ z + eNF a ≤ ms then .inl (pc + 3, ls, (.inr (.inr h.1)) :: st, (h.1 + 1, eupA h.2.1 h.1 (a, 0), eupA h.2.2.1 h.1 (fun _ => 0), eupA h.2.2.2.1 h.1 (fun _ => 0), h.2.2.2.2), c + 1, z + eNF a) else estk
    | _ => if ex = false ∧ c + 1 ≤ mc ∧ z + 6 ≤ ms ∧ ecats st ≤ 8 then .inr (.inl (.inr (a, h))) else estk
  | .newarray _ => epI st fun n t => if ex = true ∧ ¬ n < 0 ∧ n.toNatClampNeg ≤ 100000 ∧ c + 1 ≤ mc ∧ z + n.toNatClampNeg ≤ ms then .inl (pc + 2, ls, (.inr (.inr h.1)) :: t, (h.1 + 1, eupA h.2.1 h.1 (a, n.toNatClampNeg), eupA h.2.2.1 h.1 (fun _ => 0), eupA h.2.2.2.1 h.1 (fun _ => 0), eupA h.2.2.2.2 h.1 (fun _ => 0)), c + 1, z + n.toNatClampNeg) else estk
  | .anewarray _ => epI st fun n t => if ex = true ∧ ¬ n < 0 ∧ n.toNatClampNeg ≤ 100000 ∧ c + 1 ≤ mc ∧ z + n.toNatClampNeg ≤ ms then .inl (pc + 3, ls, (.inr (.inr h.1)) :: t, (h.1 + 1, eupA h.2.1 h.1 (a, n.toNatClampNeg), eupA h.2.2.1 h.1 (fun _ => 0), eupA h.2.2.2.1 h.1 (fun _ => 0), h.2.2.2.2), c + 1, z + n.toNatClampNeg) else estk
  | .multianewarray _ _ => epI st fun k t => epI t fun n t => if ex = true ∧ ¬ n < 0 ∧ ¬ k < 0 ∧ n.toNatClampNeg ≤ 1000 ∧ k.toNatClampNeg ≤ 1000 ∧ c + 1 + n.toNatClampNeg ≤ mc ∧ z + n.toNatClampNeg + n.toNatClampNeg * k.toNatClampNeg ≤ ms then
      .inl (pc + 4, ls, (.inr (.inr h.1)) :: t, (h.1 + 1 + n.toNatClampNeg, (fun r => if h.1 ≤ r ∧ r < h.1 + 1 + n.toNatClampNeg then (if r = h.1 then (17, n.toNatClampNeg) else (11, k.toNatClampNeg)) else h.2.1 r),
        (fun r => if h.1 ≤ r ∧ r < h.1 + 1 + n.toNatClampNeg then (fun _ => 0) else h.2.2.1 r), eupA h.2.2.2.1 h.1 (fun j => if j < n.toNatClampNeg then h.1 + 1 + j else 0), h.2.2.2.2), c + 1 + n.toNatClampNeg, z + n.toNatClampNeg + n.toNatClampNeg * k.toNatClampNeg) else estk
  | .invokevirtual _ => match st.drop d with
    | .inr (.inr r) :: _ => if (h.2.1 r).1 = e then ecall mc ms a (d + 1) f g pc ls st h c z else estk
    | _ => estk
  | .invokestatic _ => match b with
    | 2 => epI st fun y t => epI t fun x t => if ecats t ≤ 8 then .inl (pc + 3, ls, (.inl (if y < x then y else x)) :: t, h, c, z) else estk
    | _ => ecall mc ms a d f g pc ls st h c z
  | .invokespecial _ => match b with
    | 0 => match st with
      | .inr (.inr r) :: t => if 2 ≤ r ∧ ecats t ≤ 8 then .inl (pc + 3, ls, t, h, c, z) else estk
      | _ => estk
    | _ => match st.drop d with
      | .inr (.inr r) :: _ => if (h.2.1 r).1 = e then ecall mc ms a (d + 1) f g pc ls st h c z else estk
      | _ => estk
  | .ireturn => efin rt st h
  | .lreturn => efin rt st h
  | .areturn => efin rt st h
  | .return_ => efin rt st h
  | .ldc _ => .inl (pc + 2, ls, (.inl (Int32.ofNat a)) :: st, h, c, z)
  | .ldc_w _ => .inl (pc + 3, ls, (.inl (Int32.ofNat a)) :: st, h, c, z)
  | .ldc2_w _ => .inl (pc + 3, ls, (.inr (.inl (Int64.ofNat a))) :: st, h, c, z)
  | .tableswitch dflt lo hi offs => epI st fun x t => if x.toInt < lo ∨ hi < x.toInt then ejmp pc dflt (fun q => .inl (q, ls, t, h, c, z)) else (match offs[(x.toInt - lo).toNat]? with
    | some o => ejmp pc o (fun q => .inl (q, ls, t, h, c, z))
    | none => estk)
  | .lookupswitch dflt ps => epI st fun x t => ejmp pc (Op.lookupswitch.offset ps.toList dflt x.toInt) (fun q => .inl (q, ls, t, h, c, z))
  | _ => estk
def stp (ex : Bool) (sc : Option (Nat × (Nat → Int32))) (md : eM) (s : eS) : eO := match elk md.2.2.2.2.2.2 s.1 with
  | some (i, a, b, d, e, f, g) => stI ex sc md.2.2.1 md.2.2.2.1 md.2.2.2.2.1 md.2.1 i a b d e f g s.1 s.2.1 s.2.2.1 s.2.2.2.1 s.2.2.2.2.1 s.2.2.2.2.2
  | none => estk
/-- which handler takes the exception E thrown at pc -/
def ehand : List (Nat × Nat × Nat × Nat) → Nat → Nat → Option Nat
  | [], _, _ => none
  | x :: t, pc, E => if x.1 ≤ pc ∧ pc < x.2.1 ∧ x.2.2.2 = E then some x.2.2.1 else ehand t pc E
/-- at a handler: the exception is put into a local, which is not read again -/
def ecatch (md : eM) (pc : Nat) (ls : eL) : Option (Nat × eL) := match elk md.2.2.2.2.2.2 pc with
  | some (.astore_n n, _) => if (n : Nat) < md.2.1 then some (pc + 1, ls.filter (fun q => !(Nat.beq q.1 n) && !(Nat.beq (q.1 + 1) n && Nat.beq (ecat q.2) 2))) else none
  | some (.astore n, _) => if n < md.2.1 then some (pc + 2, ls.filter (fun q => !(Nat.beq q.1 n) && !(Nat.beq (q.1 + 1) n && Nat.beq (ecat q.2) 2))) else none
  | _ => none
def EvN (ex : Bool) (sc : Option (Nat × (Nat → Int32))) (cal : Nat → List eV → eH → eR → Prop) (md : eM) : Nat → eS → eR → Prop
  | 0, _, _ => False
  | n + 1, s, out => match stp ex sc md s with
    | .inl s' => EvN ex sc cal md n s' out
    | .inr (.inl r) => out = r
    | .inr (.inr (.inl (y, as, h, pc, ls, rest, c, z, _))) => ∃ o, cal y as h o ∧ (match o with
      | .inl (v, h') => EvN ex sc cal md n (pc + 3, ls, v.toList ++ rest, h', c, z) out
      | .inr (E, h') => match ehand md.2.2.2.2.2.1 pc E with
        | some hp => match ecatch md hp ls with
          | some (pc2, ls2) => EvN ex sc cal md n (pc2, ls2, [], h', c, z) out
          | none => False
        | none => md.2.2.2.2.2.1 = [] ∧ out = .inr (E, h'))
    | .inr (.inr (.inr _)) => False
def eargs : Nat → List eV → eL
  | _, [] => []
  | i, v :: t => (i, v) :: eargs (i + ecat v) t
