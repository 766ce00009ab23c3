/-! ===== a small machine: cells by number, locals by place; what one instruction asks, as a proposition ===== -/
abbrev sC : Type := (Nat × Nat × (Nat → Int32)) ⊕ ((Nat × List (Option Nat)) ⊕ (Nat × List Value))
abbrev sH : Type := List sC
abbrev sL : Type := List (Option Value)
abbrev sS : Type := List Value
abbrev sP : Type := Option Value → sH → Prop
abbrev sK : Type := sL → sS → sH → Prop
/-- a contract: name, bytes, locals, answer's type; kind (0 static, or the object's class and one), parameters, frames, words; reads only; footprint; start; end -/
abbrev sCtr : Type := (MethodName × ByteArray × Nat × Option FieldType) × (Nat × Nat × Nat × Nat) × Bool × (sS → sH → List Nat) × (sS → sH → Prop) × (sS → sH → sP)
abbrev sX : Type := List Nat × Value × Option sCtr
abbrev sOp : Type := Nat × Instr × sX
/-- a block: pc, whether the walk stops there, which locals are alive, the instructions -/
abbrev sBk : Type := Nat × Bool × List Bool × List sOp
abbrev o0 (pc : Nat) (i : Instr) : sOp := (pc, i, [], .null, none)
abbrev oK (pc : Nat) (i : Instr) (v : Value) : sOp := (pc, i, [], v, none)
abbrev oN (pc : Nat) (i : Instr) (ns : List Nat) : sOp := (pc, i, ns, .null, none)
abbrev oV (pc : Nat) (i : Instr) (ns : List Nat) (v : Value) : sOp := (pc, i, ns, v, none)
abbrev oC (pc : Nat) (i : Instr) (ns : List Nat) (c : sCtr) : sOp := (pc, i, ns, .null, some c)
def s_nth {α : Type} : List α → Nat → Option α
  | [], _ => none
  | a :: _, 0 => some a
  | _ :: l, n + 1 => s_nth l n
def s_rv (ad : Nat → Nat) : Value → Value
  | .ref k => .ref (ad k)
  | .int v => .int v
  | .long v => .long v
  | .float v => .float v
  | .double v => .double v
  | .null => .null
  | .retAddr v => .retAddr v
def s_mc (r : Nat → Nat) : sC → sC
  | .inl a => .inl a
  | .inr (.inl (k, l)) => .inr (.inl (k, l.map (Option.map r)))
  | .inr (.inr (c, fs)) => .inr (.inr (c, fs.map (s_rv r)))
def s_ix : List Nat → Nat → Nat → Nat
  | [], k, _ => match Nat.beq (k / 100) 5 with
    | true => k
    | false => k + 1000
  | a :: r, k, i => match Nat.beq a k with
    | true => i
    | false => s_ix r k (i + 1)
def s_rho (fp : List Nat) (k : Nat) : Nat := s_ix fp k 0
def s_un (fp : List Nat) (k : Nat) : Nat := match s_nth fp k with
  | some a => a
  | none => match Nat.beq (k / 100) 5 with
    | true => k
    | false => k - 1000
def s_sub (fp0 : List Nat) (L : sH) : List Nat → sH
  | [] => []
  | a :: r => match s_nth L a with
    | some c => s_mc (s_rho fp0) c :: s_sub fp0 L r
    | none => []
def s_set {α : Type} : List α → Nat → α → List α
  | [], _, _ => []
  | _ :: l, 0, v => v :: l
  | a :: l, n + 1, v => a :: s_set l n v
def s_put (fp0 : List Nat) : List Nat → sH → sH → sH
  | a :: r, c :: cs, L => s_put fp0 r cs (s_set L a (s_mc (s_un fp0) c))
  | _, _, L => L
/-- a list laid out in full ahead of the next step -/
def s_frc {α : Type} : List α → (List α → Prop) → Prop
  | [], k => k []
  | a :: r, k => s_frc r fun r' => k (a :: r')
def s_frV : List Value → (List Value → Prop) → Prop
  | [], k => k []
  | .int a :: r, k => s_frV r fun r' => k (.int a :: r')
  | .ref a :: r, k => s_frV r fun r' => k (.ref a :: r')
  | v :: r, k => s_frV r fun r' => k (v :: r')
def s_frH : sH → (sH → Prop) → Prop
  | [], k => k []
  | .inl a :: r, k => s_frH r fun r' => k (.inl a :: r')
  | .inr (.inl a) :: r, k => s_frH r fun r' => k (.inr (.inl a) :: r')
  | .inr (.inr (c, fs)) :: r, k => s_frV fs fun fs' => s_frH r fun r' => k (.inr (.inr (c, fs')) :: r')
def s_c2 : Option Value → Option Value
  | some (.long _) => none
  | some (.double _) => none
  | x => x
def s_st1 : sL → Nat → Value → sL
  | [], _, _ => []
  | _ :: l, 0, v => some v :: l
  | a :: l, 1, v => s_c2 a :: s_st1 l 0 v
  | a :: l, n + 2, v => a :: s_st1 l (n + 1) v
def s_clr : sL → sL
  | [] => []
  | _ :: l => none :: l
def s_st2 : sL → Nat → Value → sL
  | [], _, _ => []
  | _ :: l, 0, v => some v :: s_clr l
  | a :: l, 1, v => s_c2 a :: s_st2 l 0 v
  | a :: l, n + 2, v => a :: s_st2 l (n + 1) v
def s_mask : List Bool → sL → sL
  | true :: m, v :: l => v :: s_mask m l
  | false :: m, _ :: l => none :: s_mask m l
  | _, _ => []
def s_cat : sS → Nat
  | [] => 0
  | .long _ :: r => s_cat r + 2
  | .double _ :: r => s_cat r + 2
  | _ :: r => s_cat r + 1
/-- the top n values, deepest first, and the rest -/
def s_pop : Nat → sS → sS → (sS → sS → Prop) → Prop
  | 0, acc, st, f => f acc st
  | n + 1, acc, v :: st, f => s_pop n (v :: acc) st f
  | _ + 1, _, [], _ => False
def s_ldI (ls : sL) (n : Nat) (f : Int32 → Prop) : Prop := match s_nth ls n with
  | some (some (.int v)) => f v
  | _ => False
def s_ldL (ls : sL) (n : Nat) (f : Int64 → Prop) : Prop := match s_nth ls n with
  | some (some (.long v)) => f v
  | _ => False
def s_ldA (ls : sL) (n : Nat) (f : Nat → Prop) : Prop := match s_nth ls n with
  | some (some (.ref v)) => f v
  | _ => False
def s_I (st : sS) (f : Int32 → sS → Prop) : Prop := match st with
  | .int x :: r => f x r
  | _ => False
def s_J (st : sS) (f : Int64 → sS → Prop) : Prop := match st with
  | .long x :: r => f x r
  | _ => False
def s_A (st : sS) (f : Nat → sS → Prop) : Prop := match st with
  | .ref x :: r => f x r
  | _ => False
def s_II (st : sS) (f : Int32 → Int32 → sS → Prop) : Prop := match st with
  | .int y :: .int x :: r => f x y r
  | _ => False
def s_JJ (st : sS) (f : Int64 → Int64 → sS → Prop) : Prop := match st with
  | .long y :: .long x :: r => f x y r
  | _ => False
/-- what a field may hold -/
def s_fit (ty : FieldType) (v : Value) (Q : Prop) : Prop := match ty, v with
  | .int, .int _ => Q
  | .boolean, .int x => (x = 0 ∨ x = 1) ∧ Q
  | .object _, .ref _ => Q
  | .array _, .ref _ => Q
  | _, _ => False
def s_br (c : Prop) (j : Prop) (k : Prop) : Prop := (c → j) ∧ (¬ c → k)
def s_cmp (c : ClassFile.Cond) (x y : Int32) (j k : Prop) : Prop := match c with
  | .eq => s_br (x = y) j k
  | .ne => s_br (x = y) k j
  | .lt => s_br (x < y) j k
  | .ge => s_br (x < y) k j
  | .gt => s_br (y < x) j k
  | .le => s_br (y < x) k j
def s_tab (x : Int32) (jmp : Nat → Prop) (d : Nat) : Int → List Nat → Prop
  | _, [] => True
  | lo, b :: r => (x = Int32.ofInt lo → jmp b) ∧ s_tab x jmp d (lo + 1) r
def s_lok (x : Int32) (jmp : Nat → Prop) (d : Nat) : List (Int × Int) → List Nat → Prop
  | (a, _) :: ps, b :: r => (x = Int32.ofInt a → jmp b) ∧ (¬ x = Int32.ofInt a → s_lok x jmp d ps r)
  | [], [] => jmp d
  | _, _ => False
abbrev s_fld (ci k : Nat) : String × String × String × Bool := match vwCl[ci]? with
  | some (_, T, _) => T k
  | none => ("", "", "", true)
def s_fty : Nat → Nat → FieldType
  | 0, k => tyX0 k
  | 1, k => tyX1 k
  | 2, k => tyX2 k
  | 3, k => tyX3 k
  | 4, k => tyX4 k
  | 5, k => tyX5 k
  | _, k => tyX6 k
/-- the script: its length and ints, at the cell 599 -/
abbrev sE : Type := Option (Nat × (Nat → Int32))
def s_inc : List Nat → Bool
  | a :: b :: r => match Nat.blt a b with
    | true => s_inc (b :: r)
    | false => false
  | _ => true
def s_nin (a : Nat) : List Nat → Bool
  | [] => true
  | b :: r => match Nat.beq a b with
    | true => false
    | false => s_nin a r
def s_nd : List Nat → Bool
  | [] => true
  | a :: r => match s_nin a r with
    | true => s_nd r
    | false => false
def s_all (n : Nat) : List Nat → Bool
  | [] => true
  | a :: r => match Nat.blt a n with
    | true => s_all n r
    | false => false
/-- the places of a call: each once, all there -/
def s_fpk (fp : List Nat) (n : Nat) : Bool := match s_inc fp with
  | true => s_all n fp
  | false => match s_nd fp with
    | true => s_all n fp
    | false => false
/-- s_put, laid out after each cell -/
def s_pk (fp0 : List Nat) : List Nat → sH → sH → (sH → Prop) → Prop
  | a :: r, c :: cs, L, k => s_frc (s_set L a (s_mc (s_un fp0) c)) fun L' => s_pk fp0 r cs L' k
  | _, _, L, k => k L
/-- a cell's number, by its figures -/
def s_frN : Nat → (Nat → Prop) → Prop
  | 0, k => k 0
  | 1, k => k 1
  | 2, k => k 2
  | 3, k => k 3
  | 4, k => k 4
  | 5, k => k 5
  | 6, k => k 6
  | 7, k => k 7
  | 8, k => k 8
  | 9, k => k 9
  | 10, k => k 10
  | 11, k => k 11
  | 12, k => k 12
  | 13, k => k 13
  | 14, k => k 14
  | 15, k => k 15
  | 16, k => k 16
  | 17, k => k 17
  | 18, k => k 18
  | 19, k => k 19
  | 20, k => k 20
  | 21, k => k 21
  | 22, k => k 22
  | 23, k => k 23
  | 24, k => k 24
  | 25, k => k 25
  | 26, k => k 26
  | 27, k => k 27
  | 28, k => k 28
  | 29, k => k 29
  | 30, k => k 30
  | 31, k => k 31
  | 32, k => k 32
  | 33, k => k 33
  | 34, k => k 34
  | 35, k => k 35
  | 36, k => k 36
  | 37, k => k 37
  | 38, k => k 38
  | 39, k => k 39
  | 40, k => k 40
  | 41, k => k 41
  | 42, k => k 42
  | 43, k => k 43
  | 44, k => k 44
  | 45, k => k 45
  | 46, k => k 46
  | 47, k => k 47
  | 48, k => k 48
  | 49, k => k 49
  | 50, k => k 50
  | 51, k => k 51
  | 52, k => k 52
  | 53, k => k 53
  | 54, k => k 54
  | 55, k => k 55
  | 56, k => k 56
  | 57, k => k 57
  | 58, k => k 58
  | 59, k => k 59
  | 60, k => k 60
  | 61, k => k 61
  | 62, k => k 62
  | 63, k => k 63
  | 64, k => k 64
  | 65, k => k 65
  | 66, k => k 66
  | 67, k => k 67
  | 68, k => k 68
  | 69, k => k 69
  | 70, k => k 70
  | 71, k => k 71
  | 72, k => k 72
  | 73, k => k 73
  | 74, k => k 74
  | 75, k => k 75
  | 76, k => k 76
  | 77, k => k 77
  | 78, k => k 78
  | 79, k => k 79
  | n, k => k n
def s_frL : List Nat → (List Nat → Prop) → Prop
  | [], k => k []
  | a :: r, k => s_frN a fun a' => s_frL r fun r' => k (a' :: r')
def s_callP (ro : Bool) (fp : List Nat) (pre : sS → sH → Prop) (post : sS → sH → sP) (args : sS) (L : sH) (k : Option Value → sH → Prop) : Prop :=
  match s_fpk fp L.length, Nat.ble fp.length 500, ro with
  | true, true, true => s_frV (args.map (s_rv (s_rho fp))) fun vs => s_frc (s_sub fp L fp) fun sub => pre vs sub ∧ ∀ r, post vs sub r sub → k (r.map (s_rv (s_un fp))) L
  | true, true, false => s_frV (args.map (s_rv (s_rho fp))) fun vs => s_frc (s_sub fp L fp) fun sub => pre vs sub ∧ ∀ r L', post vs sub r L' → s_pk fp fp L' L fun L1 => s_frH L1 fun L2 => k (r.map (s_rv (s_un fp))) L2
  | _, _, _ => False
def s_npar (kd n : Nat) : Nat := match kd with
  | 0 => n
  | _ + 1 => n + 1
def s_rcv (kd : Nat) (args : sS) (L : sH) (Q : Prop) : Prop := match kd with
  | 0 => Q
  | ci + 1 => match args with
    | .ref b :: _ => match s_nth L b with
      | some (.inr (.inr (cj, _))) => match Nat.beq ci cj with
        | true => Q
        | false => False
      | some _ => False
      | none => match Nat.beq ci 99, Nat.ble 500 b, Nat.ble b 509 with
        | true, true, true => Q
        | _, _, _ => False
    | _ => False
def s_inv (x : sX) (k : sK) (ls : sL) (st : sS) (L : sH) : Prop := match x.2.2 with
  | some (_, (kd, n, _), ro, fp, pre, post) => s_pop (s_npar kd n) [] st fun args rest => match Nat.ble (s_cat rest) 8 with
    | true => s_rcv kd args L (s_frL (fp args L) fun fp' => s_callP ro fp' pre post args L fun r L' => match r with
      | some v => k ls (v :: rest) L'
      | none => k ls rest L')
    | false => False
  | none => False
def s_st (E : sE) (jmp : Nat → sK) (P : sP) (z : Bool) (i : Instr) (x : sX) (k : sK) (ls : sL) (st : sS) (L : sH) : Prop :=
  match i with
  | .nop => match x.1 with
    | b :: _ => jmp b ls st L
    | _ => False
  | .iconst _ => k ls (x.2.1 :: st) L
  | .bipush _ => k ls (x.2.1 :: st) L
  | .sipush _ => k ls (x.2.1 :: st) L
  | .lconst _ => k ls (x.2.1 :: st) L
  | .ldc _ => k ls (x.2.1 :: st) L
  | .ldc_w _ => k ls (x.2.1 :: st) L
  | .ldc2_w _ => k ls (x.2.1 :: st) L
  | .iload n => s_ldI ls n fun v => k ls (.int v :: st) L
  | .iload_n n => s_ldI ls n fun v => k ls (.int v :: st) L
  | .lload n => s_ldL ls n fun v => k ls (.long v :: st) L
  | .lload_n n => s_ldL ls n fun v => k ls (.long v :: st) L
  | .aload n => s_ldA ls n fun v => k ls (.ref v :: st) L
  | .aload_n n => s_ldA ls n fun v => k ls (.ref v :: st) L
  | .istore n => s_I st fun v r => s_frc (s_st1 ls n (.int v)) fun ls' => k ls' r L
  | .istore_n n => s_I st fun v r => s_frc (s_st1 ls n (.int v)) fun ls' => k ls' r L
  | .lstore n => s_J st fun v r => s_frc (s_st2 ls n (.long v)) fun ls' => k ls' r L
  | .lstore_n n => s_J st fun v r => s_frc (s_st2 ls n (.long v)) fun ls' => k ls' r L
  | .astore n => s_A st fun v r => s_frc (s_st1 ls n (.ref v)) fun ls' => k ls' r L
  | .astore_n n => s_A st fun v r => s_frc (s_st1 ls n (.ref v)) fun ls' => k ls' r L
  | .iinc n _ => s_ldI ls n fun v => match x.2.1 with
    | .int c => s_frc (s_st1 ls n (.int (v + c))) fun ls' => k ls' st L
    | _ => False
  | .iadd => s_II st fun x y r => k ls (.int (x + y) :: r) L
  | .isub => s_II st fun x y r => k ls (.int (x - y) :: r) L
  | .imul => s_II st fun x y r => k ls (.int (x * y) :: r) L
  | .iand => s_II st fun x y r => k ls (.int (x &&& y) :: r) L
  | .ior => s_II st fun x y r => k ls (.int (x ||| y) :: r) L
  | .ixor => s_II st fun x y r => k ls (.int (x ^^^ y) :: r) L
  | .ishl => s_II st fun x y r => k ls (.int (x <<< (y &&& 31)) :: r) L
  | .ishr => s_II st fun x y r => k ls (.int (x >>> (y &&& 31)) :: r) L
  | .iushr => s_II st fun x y r => k ls (.int (x.toUInt32 >>> (y.toUInt32 &&& Int32.toUInt32 31)).toInt32 :: r) L
  | .idiv => s_II st fun x y r => ¬ y = 0 ∧ k ls (.int (x / y) :: r) L
  | .irem => s_II st fun x y r => ¬ y = 0 ∧ k ls (.int (x - x / y * y) :: r) L
  | .ladd => s_JJ st fun x y r => k ls (.long (x + y) :: r) L
  | .lmul => s_JJ st fun x y r => k ls (.long (x * y) :: r) L
  | .ldiv => s_JJ st fun x y r => ¬ y = 0 ∧ k ls (.long (x / y) :: r) L
  | .lrem => s_JJ st fun x y r => ¬ y = 0 ∧ k ls (.long (x - x / y * y) :: r) L
  | .lcmp => s_JJ st fun x y r => k ls (.int (lg_cmp x y) :: r) L
  | .i2l => s_I st fun x r => k ls (.long x.toInt64 :: r) L
  | .i2b => s_I st fun x r => k ls (.int x.toInt8.toInt32 :: r) L
  | .i2s => s_I st fun x r => k ls (.int x.toInt16.toInt32 :: r) L
  | .dup => match st with
    | .int a :: r => k ls (.int a :: .int a :: r) L
    | .ref a :: r => k ls (.ref a :: .ref a :: r) L
    | _ => False
  | .dup2 => match st with
    | .int a :: .ref b :: r => k ls (.int a :: .ref b :: .int a :: .ref b :: r) L
    | _ => False
  | .pop => match st with
    | .int _ :: r => k ls r L
    | _ => False
  | .goto _ => match x.1 with
    | b :: _ => jmp b ls st L
    | _ => False
  | .ifCond c _ => match x.1 with
    | b :: _ => s_I st fun v r => s_cmp c v 0 (jmp b ls r L) (k ls r L)
    | _ => False
  | .if_icmp c _ => match x.1 with
    | b :: _ => s_II st fun v w r => s_cmp c v w (jmp b ls r L) (k ls r L)
    | _ => False
  | .tableswitch _ lo hi _ => match x.1 with
    | d :: bs => s_I st fun v r => s_tab v (fun b => jmp b ls r L) d lo bs ∧ (v.toInt < lo ∨ hi < v.toInt → jmp d ls r L)
    | _ => False
  | .lookupswitch _ ps => match x.1 with
    | d :: bs => s_I st fun v r => s_lok v (fun b => jmp b ls r L) d ps.toList bs
    | _ => False
  | .getfield _ => match x.1 with
    | ci :: j :: _ => s_A st fun a r => match s_nth L a with
      | some (.inr (.inr (cj, fs))) => match Nat.beq ci cj with
        | true => match s_nth fs j with
          | some v => k ls (v :: r) L
          | none => False
        | false => False
      | _ => False
    | _ => False
  | .putfield _ => match x.1 with
    | ci :: j :: _ => match st with
      | v :: .ref a :: r => match s_nth L a with
        | some (.inr (.inr (cj, fs))) => match Nat.beq ci cj, Nat.ble (fs.length) j with
          | true, false => s_fit (s_fty ci j) v (s_frH (s_set L a (.inr (.inr (cj, s_set fs j v)))) fun L' => k ls r L')
          | _, _ => False
        | _ => False
      | _ => False
    | _ => False
  | .iaload => match st with
    | .int i :: .ref a :: r => match s_nth L a with
      | some (.inl (0, n, f)) => vp_in i n ∧ k ls (.int (f i.toNatClampNeg) :: r) L
      | some _ => False
      | none => match Nat.beq a 599, E with
        | true, some (n, xs) => vp_in i n ∧ k ls (.int (xs i.toNatClampNeg) :: r) L
        | _, _ => False
    | _ => False
  | .iastore => match st with
    | .int v :: .int i :: .ref a :: r => match s_nth L a with
      | some (.inl (0, n, f)) => vp_in i n ∧ s_frH (s_set L a (.inl (0, n, upd f i.toNatClampNeg v))) fun L' => k ls r L'
      | _ => False
    | _ => False
  | .baload => match st with
    | .int i :: .ref a :: r => match s_nth L a with
      | some (.inl (1, n, f)) => vp_in i n ∧ k ls (.int (f i.toNatClampNeg) :: r) L
      | some (.inl (2, n, f)) => vp_in i n ∧ k ls (.int (f i.toNatClampNeg) :: r) L
      | _ => False
    | _ => False
  | .bastore => match st with
    | .int v :: .int i :: .ref a :: r => match s_nth L a with
      | some (.inl (1, n, f)) => vp_in i n ∧ s_frH (s_set L a (.inl (1, n, upd f i.toNatClampNeg (vp_nar .byte v)))) fun L' => k ls r L'
      | some (.inl (2, n, f)) => vp_in i n ∧ s_frH (s_set L a (.inl (2, n, upd f i.toNatClampNeg (vp_nar .boolean v)))) fun L' => k ls r L'
      | _ => False
    | _ => False
  | .aaload => match st with
    | .int i :: .ref a :: r => match s_nth L a with
      | some (.inr (.inl (3, l))) => vp_in i l.length ∧ match s_nth l i.toNatClampNeg with
        | some (some q) => k ls (.ref q :: r) L
        | _ => False
      | some (.inr (.inl (4, l))) => vp_in i l.length ∧ match s_nth l i.toNatClampNeg with
        | some (some q) => k ls (.ref q :: r) L
        | _ => False
      | _ => False
    | _ => False
  | .arraylength => match st with
    | .ref a :: r => match Nat.beq a 599, E with
      | true, some (n, _) => k ls (.int (nI n) :: r) L
      | _, _ => False
    | _ => False
  | .ireturn => match st with
    | [.int v] => match z with
      | true => (v = 0 ∨ v = 1) ∧ P (some (.int v)) L
      | false => P (some (.int v)) L
    | _ => False
  | .lreturn => match st with
    | [.long v] => P (some (.long v)) L
    | _ => False
  | .return_ => match st with
    | [] => P none L
    | _ => False
  | .invokevirtual _ => s_inv x k ls st L
  | .invokestatic _ => match x.2.2 with
    | some _ => s_inv x k ls st L
    | none => match x.1 with
     | [_, 1] => s_II st fun x y r => match Nat.ble (s_cat r) 8 with
       | true => k ls (.int (if x < y then y else x) :: r) L
       | false => False
     | [_, 2] => s_II st fun x y r => match Nat.ble (s_cat r) 8 with
       | true => k ls (.int (if y < x then y else x) :: r) L
       | false => False
     | [_] => match st with
      | .int n :: .int dp :: .ref d :: .int sp :: .ref a :: r => match s_nth L a, s_nth L d with
        | some (.inl (0, n0, f)), some (.inl (0, n1, g)) => match Nat.ble (s_cat r) 8 with
          | true => ((¬ sp < 0) ∧ (¬ dp < 0) ∧ (¬ n < 0) ∧ sp.toNatClampNeg + n.toNatClampNeg ≤ n0 ∧ dp.toNatClampNeg + n.toNatClampNeg ≤ n1) ∧ s_frH (s_set L d (.inl (0, n1, va_cpy f g sp.toNatClampNeg dp.toNatClampNeg n.toNatClampNeg))) fun L' => k ls r L'
          | false => False
        | _, _ => False
      | _ => False
     | _ => False
  | _ => False
def s_wp (E : sE) (jmp : Nat → sK) (P : sP) (z : Bool) : List sOp → sK
  | [], _, _, _ => False
  | (_, i, x) :: r, ls, st, L => s_st E jmp P z i x (s_wp E jmp P z r) ls st L
def s_go (E : sE) (bl : List sBk) (G : Nat → sK) (P : sP) (z : Bool) : Nat → Nat → sK
  | 0, _, _, _, _ => False
  | n + 1, b, ls, st, L => match s_nth bl b with
    | some (_, cut, live, ops) => match cut with
      | true => G b (s_mask live ls) st L
      | false => s_wp E (s_go E bl G P z n) P z ops (s_mask live ls) st L
    | none => False
/-- the walk of one block, up to the next places where it stops -/
def s_run (E : sE) (bl : List sBk) (G : Nat → sK) (P : sP) (z : Bool) (b : Nat) (ls : sL) (st : sS) (L : sH) : Prop := match s_nth bl b with
  | some (_, _, _, ops) => s_wp E (s_go E bl G P z 99) P z ops ls st L
  | none => False
def s_Clo (E : sE) (bl : List sBk) (G : Nat → sK) (P : sP) (z : Bool) : Prop := ∀ b ls st L, s_run E bl G P z b ls st L → G b ls st L
