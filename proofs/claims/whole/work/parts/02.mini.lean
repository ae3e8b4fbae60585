/-! A small machine over numbered cells: its values, its memory, one instruction, a run. Its run is tied to the real machine in part 03. -/
abbrev xV : Type := Int32 ⊕ (Int64 ⊕ Option Nat)
abbrev xN : xV := .inr (.inr none)
/-- what cells there are (kind, length), their ints, longs, references -/
abbrev xS : Type := List (Nat × Nat) × ((Nat → Nat → Int32) × ((Nat → Nat → Int64) × (Nat → Nat → Option Nat)))
abbrev xR : Type := Option xV × xS
/-- a row of code: place, instruction, length, which locals live on where a road is cut, a constant, a switch's cases, five numbers -/
abbrev xRow : Type := Nat × (Instr × (Nat × (List Bool × (xV × (List (Int32 × Nat) × (Nat × (Nat × (Nat × (Nat × Nat)))))))))
abbrev xL : Type := List (Option xV)
abbrev xF : Type := xL → List xV → xS → Option xR
def x_tr (a : Nat → Nat) : xV → Value
  | .inl x => .int x
  | .inr (.inl x) => .long x
  | .inr (.inr q) => va_rf (q.map a)
def x_cat : xV → Nat
  | .inl _ => 1
  | .inr (.inl _) => 2
  | .inr (.inr _) => 1
def x_cs : List xV → Nat
  | [] => 0
  | v :: r => x_cat v + x_cs r
def x_at : xL → Nat → Option xV
  | [], _ => none
  | o :: _, 0 => o
  | _ :: r, i + 1 => x_at r i
def x_un : Option xV → Option xV
  | some (.inr (.inl _)) => none
  | o => o
def x_clr : xL → Nat → xL
  | [], _ => []
  | o :: r, 0 => o :: r
  | o :: r, 1 => x_un o :: r
  | o :: r, i + 2 => o :: x_clr r (i + 1)
def x_put : xL → Nat → Option xV → xL
  | [], _, _ => []
  | _ :: r, 0, v => v :: r
  | o :: r, i + 1, v => o :: x_put r i v
def x_mask : List Bool → xL → xL
  | true :: m, o :: r => o :: x_mask m r
  | false :: m, _ :: r => none :: x_mask m r
  | _, _ => []
/-- an instruction that reads and writes locals and operands alone -/
def x_pure (ins : Instr) (cv : xV) (L : xL) (S : List xV) (K : xL → List xV → Option xR) (N : Option xR) : Option xR := match ins with
  | .aconst_null => K L (.inr (.inr none) :: S)
  | .iconst _ => K L (cv :: S)
  | .bipush _ => K L (cv :: S)
  | .sipush _ => K L (cv :: S)
  | .lconst _ => K L (cv :: S)
  | .ldc _ => K L (cv :: S)
  | .ldc_w _ => K L (cv :: S)
  | .ldc2_w _ => K L (cv :: S)
  | .iload i => match x_at L i with
    | some (.inl x) => K L (.inl x :: S)
    | _ => none
  | .iload_n i => match x_at L i.val with
    | some (.inl x) => K L (.inl x :: S)
    | _ => none
  | .lload i => match x_at L i with
    | some (.inr (.inl x)) => K L (.inr (.inl x) :: S)
    | _ => none
  | .lload_n i => match x_at L i.val with
    | some (.inr (.inl x)) => K L (.inr (.inl x) :: S)
    | _ => none
  | .aload i => match x_at L i with
    | some (.inr (.inr q)) => K L (.inr (.inr q) :: S)
    | _ => none
  | .aload_n i => match x_at L i.val with
    | some (.inr (.inr q)) => K L (.inr (.inr q) :: S)
    | _ => none
  | .istore i => match S with
    | .inl x :: S => K (x_put (x_clr L i) i (some (.inl x))) S
    | _ => none
  | .istore_n i => match S with
    | .inl x :: S => K (x_put (x_clr L i.val) i.val (some (.inl x))) S
    | _ => none
  | .lstore i => match S with
    | .inr (.inl x) :: S => K (x_put (x_put (x_clr L i) i (some (.inr (.inl x)))) (i + 1) none) S
    | _ => none
  | .lstore_n i => match S with
    | .inr (.inl x) :: S => K (x_put (x_put (x_clr L i.val) i.val (some (.inr (.inl x)))) (i.val + 1) none) S
    | _ => none
  | .astore i => match S with
    | .inr (.inr q) :: S => K (x_put (x_clr L i) i (some (.inr (.inr q)))) S
    | _ => none
  | .astore_n i => match S with
    | .inr (.inr q) :: S => K (x_put (x_clr L i.val) i.val (some (.inr (.inr q)))) S
    | _ => none
  | .iinc i _ => match x_at L i, cv with
    | some (.inl x), .inl y => K (x_put (x_clr L i) i (some (.inl (x + y)))) S
    | _, _ => none
  | .dup => match S with
    | .inl x :: S => K L (.inl x :: .inl x :: S)
    | .inr (.inr q) :: S => K L (.inr (.inr q) :: .inr (.inr q) :: S)
    | _ => none
  | .dup2 => match S with
    | .inl x :: .inr (.inr q) :: S => K L (.inl x :: .inr (.inr q) :: .inl x :: .inr (.inr q) :: S)
    | .inr (.inl x) :: S => K L (.inr (.inl x) :: .inr (.inl x) :: S)
    | _ => none
  | .pop => match S with
    | .inl _ :: S => K L S
    | .inr (.inr _) :: S => K L S
    | _ => none
  | .iadd => match S with
    | .inl y :: .inl x :: S => K L (.inl (x + y) :: S)
    | _ => none
  | .isub => match S with
    | .inl y :: .inl x :: S => K L (.inl (x - y) :: S)
    | _ => none
  | .imul => match S with
    | .inl y :: .inl x :: S => K L (.inl (x * y) :: S)
    | _ => none
  | .ineg => match S with
    | .inl x :: S => K L (.inl (-x) :: S)
    | _ => none
  | .iand => match S with
    | .inl y :: .inl x :: S => K L (.inl (x &&& y) :: S)
    | _ => none
  | .ior => match S with
    | .inl y :: .inl x :: S => K L (.inl (x ||| y) :: S)
    | _ => none
  | .ixor => match S with
    | .inl y :: .inl x :: S => K L (.inl (x ^^^ y) :: S)
    | _ => none
  | .ishl => match S with
    | .inl y :: .inl x :: S => K L (.inl (x <<< (y &&& 31)) :: S)
    | _ => none
  | .ishr => match S with
    | .inl y :: .inl x :: S => K L (.inl (x >>> (y &&& 31)) :: S)
    | _ => none
  | .iushr => match S with
    | .inl y :: .inl x :: S => K L (.inl (x.toUInt32 >>> (y.toUInt32 &&& Int32.toUInt32 31)).toInt32 :: S)
    | _ => none
  | .ladd => match S with
    | .inr (.inl y) :: .inr (.inl x) :: S => K L (.inr (.inl (x + y)) :: S)
    | _ => none
  | .lsub => match S with
    | .inr (.inl y) :: .inr (.inl x) :: S => K L (.inr (.inl (x - y)) :: S)
    | _ => none
  | .lmul => match S with
    | .inr (.inl y) :: .inr (.inl x) :: S => K L (.inr (.inl (x * y)) :: S)
    | _ => none
  | .lcmp => match S with
    | .inr (.inl y) :: .inr (.inl x) :: S => K L (.inl (lg_cmp x y) :: S)
    | _ => none
  | .i2l => match S with
    | .inl x :: S => K L (.inr (.inl x.toInt64) :: S)
    | _ => none
  | .l2i => match S with
    | .inr (.inl x) :: S => K L (.inl x.toInt32 :: S)
    | _ => none
  | .i2b => match S with
    | .inl x :: S => K L (.inl x.toInt8.toInt32 :: S)
    | _ => none
  | .i2s => match S with
    | .inl x :: S => K L (.inl x.toInt16.toInt32 :: S)
    | _ => none
  | _ => N
/-! memory -/
def x_nth : List (Nat × Nat) → Nat → Nat × Nat
  | [], _ => (99, 0)
  | q :: _, 0 => q
  | _ :: r, i + 1 => x_nth r i
def x_up {α : Type} (f : Nat → Nat → α) (k j : Nat) (v : α) : Nat → Nat → α := fun k' j' => bif Nat.beq k' k && Nat.beq j' j then v else f k' j'
def x_row {α : Type} (f : Nat → Nat → α) (k : Nat) (g : Nat → α) : Nat → Nat → α := fun k' j' => bif Nat.beq k' k then g j' else f k' j'
def x_I (σ : xS) (a j : Nat) : Int32 := σ.2.1 a j
def x_J (σ : xS) (a j : Nat) : Int64 := σ.2.2.1 a j
def x_Q (σ : xS) (a j : Nat) : Option Nat := σ.2.2.2 a j
def x_fg (σ : xS) (a u v : Nat) : xV := match v with
  | 1 => .inr (.inl (x_J σ a u))
  | 2 => .inr (.inr (x_Q σ a u))
  | _ => .inl (x_I σ a u)
def x_si (σ : xS) (a u : Nat) (x : Int32) : xS := (σ.1, x_up σ.2.1 a u x, σ.2.2.1, σ.2.2.2)
def x_sl (σ : xS) (a u : Nat) (x : Int64) : xS := (σ.1, σ.2.1, x_up σ.2.2.1 a u x, σ.2.2.2)
def x_sr (σ : xS) (a u : Nat) (x : Option Nat) : xS := (σ.1, σ.2.1, σ.2.2.1, x_up σ.2.2.2 a u x)
def x_cp (σ : xS) (a0 a1 sp dp n : Nat) : xS := (σ.1, x_row σ.2.1 a1 (va_cpy (σ.2.1 a0) (σ.2.1 a1) sp dp n), σ.2.2.1, σ.2.2.2)
def x_new (σ : xS) (c n : Nat) : xS := (σ.1 ++ [(c, n)], x_row σ.2.1 σ.1.length (fun _ => 0), x_row σ.2.2.1 σ.1.length (fun _ => 0), x_row σ.2.2.2 σ.1.length (fun _ => none))
/-! roads that part; what stops one -/
def x_der (q : Option Nat) (K : Nat → Option xR) : Option xR := match q with
  | none => none
  | some a => K a
def x_nul (q : Option Nat) (A B : Option xR) : Option xR := match q with
  | none => A
  | some _ => B
def x_ck (σ : xS) (a c : Nat) (K : Option xR) : Option xR := bif Nat.beq (x_nth σ.1 a).1 c then K else none
def x_ak (σ : xS) (a c : Nat) (K : Nat → Option xR) : Option xR := bif Nat.beq (x_nth σ.1 a).1 c then K (x_nth σ.1 a).2 else none
def x_aq (σ : xS) (a : Nat) (K : Nat → Option xR) : Option xR := bif Nat.ble 13 (x_nth σ.1 a).1 && Nat.ble (x_nth σ.1 a).1 15 then K (x_nth σ.1 a).2 else none
def x_aa (σ : xS) (a : Nat) (K : Nat → Option xR) : Option xR := bif Nat.ble 11 (x_nth σ.1 a).1 && Nat.ble (x_nth σ.1 a).1 15 then K (x_nth σ.1 a).2 else none
def x_ix (i : Int32) (n : Nat) (K : Option xR) : Option xR := if i < 0 ∨ n ≤ i.toNatClampNeg then none else K
def x_bl (x : Int32) (K : Option xR) : Option xR := if x = 0 ∨ x = 1 then K else none
def x_icmp (c : Jvm.ClassFile.Cond) (x y : Int32) (A B : Option xR) : Option xR := match c with
  | .eq => if x = y then A else B
  | .ne => if x = y then B else A
  | .lt => if x < y then A else B
  | .ge => if y ≤ x then A else B
  | .gt => if y < x then A else B
  | .le => if x ≤ y then A else B
def x_sw (x : Int32) (K : Nat → Option xR) (D : Option xR) : List (Int32 × Nat) → Option xR
  | [] => D
  | (c, t) :: r => if x = c then K t else x_sw x K D r
def x_cv (o : Option xR) (K : xS → Option xR) : Option xR := match o with
  | some (none, σ) => K σ
  | _ => none
def x_ci (o : Option xR) (K : Int32 → xS → Option xR) : Option xR := match o with
  | some (some (.inl x), σ) => K x σ
  | _ => none
def x_cl (o : Option xR) (K : Int64 → xS → Option xR) : Option xR := match o with
  | some (some (.inr (.inl x)), σ) => K x σ
  | _ => none
def x_cr (o : Option xR) (K : Option Nat → xS → Option xR) : Option xR := match o with
  | some (some (.inr (.inr q)), σ) => K q σ
  | _ => none
def x_pop : Nat → List xV → List xV → Option (List xV × List xV)
  | 0, S, acc => some (acc, S)
  | _ + 1, [], _ => none
  | n + 1, v :: S, acc => x_pop n S (v :: acc)
def x_suf : List xRow → Nat → List xRow
  | [], _ => []
  | q :: r, pc => bif Nat.beq q.1 pc then q :: r else x_suf r pc
def x_go (k : Nat → xF) (bf : List xRow → xF) (r : List xRow) : xF := fun L S σ => match r with
  | [] => none
  | q :: r' => match q.2.2.2.1 with
    | [] => bf (q :: r') L S σ
    | b :: bs => k q.1 (x_mask (b :: bs) L) S σ
/-- the kind of what an array of references holds -/
def x_ec (c : Nat) : Nat := match c with
  | 13 => 2
  | 14 => 5
  | _ => 7
def x_call (o : Option xR) (v : Nat) (K : xF) (L : xL) (S : List xV) : Option xR := bif Nat.ble (x_cs S) 8 then (match v with
  | 0 => x_cv o fun σ => K L S σ
  | 1 => x_ci o fun x σ => K L (.inl x :: S) σ
  | 2 => x_cl o fun x σ => K L (.inr (.inl x) :: S) σ
  | _ => x_cr o fun q σ => K L (.inr (.inr q) :: S) σ) else none
def x_rv (args : List xV) (σ : xS) (z : Nat) (K : Option xR) : Option xR := match args with
  | .inr (.inr q) :: _ => x_der q fun a => x_ck σ a z K
  | _ => none
/-- every other instruction -/
def x_i (O : Nat → List xV → xS → Option xR) (X : Nat × (Nat → Int32)) (TX : Nat → List Int32) (C : List xRow) (k : Nat → xF) (bf : List xRow → xF) (ins : Instr) (sw : List (Int32 × Nat)) (t u v w z : Nat) (r : List xRow) : xF := fun L S σ => match ins with
  | .goto _ => x_go k bf (x_suf C t) L S σ
  | .ifCond c _ => match S with
    | .inl x :: S => x_icmp c x 0 (x_go k bf (x_suf C t) L S σ) (x_go k bf r L S σ)
    | _ => none
  | .if_icmp c _ => match S with
    | .inl y :: .inl x :: S => x_icmp c x y (x_go k bf (x_suf C t) L S σ) (x_go k bf r L S σ)
    | _ => none
  | .ifnull _ => match S with
    | .inr (.inr q) :: S => x_nul q (x_go k bf (x_suf C t) L S σ) (x_go k bf r L S σ)
    | _ => none
  | .ifnonnull _ => match S with
    | .inr (.inr q) :: S => x_nul q (x_go k bf r L S σ) (x_go k bf (x_suf C t) L S σ)
    | _ => none
  | .tableswitch _ _ _ _ => match S with
    | .inl x :: S => x_sw x (fun t => x_go k bf (x_suf C t) L S σ) (x_go k bf (x_suf C t) L S σ) sw
    | _ => none
  | .idiv => match S with
    | .inl y :: .inl x :: S => if y = 0 then none else x_go k bf r L (.inl (x / y) :: S) σ
    | _ => none
  | .irem => match S with
    | .inl y :: .inl x :: S => if y = 0 then none else x_go k bf r L (.inl (x - x / y * y) :: S) σ
    | _ => none
  | .ldiv => match S with
    | .inr (.inl y) :: .inr (.inl x) :: S => if y = 0 then none else x_go k bf r L (.inr (.inl (x / y)) :: S) σ
    | _ => none
  | .lrem => match S with
    | .inr (.inl y) :: .inr (.inl x) :: S => if y = 0 then none else x_go k bf r L (.inr (.inl (x - x / y * y)) :: S) σ
    | _ => none
  | .getfield _ => match S with
    | .inr (.inr q) :: S => x_der q fun a => x_ck σ a t (x_go k bf r L (x_fg σ a u v :: S) σ)
    | _ => none
  | .putfield _ => match S with
    | .inl x :: .inr (.inr q) :: S => x_der q fun a => x_ck σ a t (match v with
      | 0 => x_go k bf r L S (x_si σ a u x)
      | 3 => x_bl x (x_go k bf r L S (x_si σ a u x))
      | _ => none)
    | .inr (.inl x) :: .inr (.inr q) :: S => x_der q fun a => x_ck σ a t (match v with
      | 1 => x_go k bf r L S (x_sl σ a u x)
      | _ => none)
    | .inr (.inr y) :: .inr (.inr q) :: S => x_der q fun a => x_ck σ a t (match v with
      | 2 => x_go k bf r L S (x_sr σ a u y)
      | _ => none)
    | _ => none
  | .iaload => match S with
    | .inl i :: .inr (.inr q) :: S => x_der q fun a => (match v with
      | 1 => bif Nat.beq a 2000 then x_ix i X.1 (x_go k bf r L (.inl (X.2 i.toNatClampNeg) :: S) σ) else none
      | _ => x_ak σ a 11 fun n => x_ix i n (x_go k bf r L (.inl (x_I σ a i.toNatClampNeg) :: S) σ))
    | _ => none
  | .laload => match S with
    | .inl i :: .inr (.inr q) :: S => x_der q fun a => x_ak σ a 12 fun n => x_ix i n (x_go k bf r L (.inr (.inl (x_J σ a i.toNatClampNeg)) :: S) σ)
    | _ => none
  | .aaload => match S with
    | .inl i :: .inr (.inr q) :: S => x_der q fun a => x_aq σ a fun n => x_ix i n (x_go k bf r L (.inr (.inr (x_Q σ a i.toNatClampNeg)) :: S) σ)
    | _ => none
  | .iastore => match S with
    | .inl x :: .inl i :: .inr (.inr q) :: S => x_der q fun a => x_ak σ a 11 fun n => x_ix i n (x_go k bf r L S (x_si σ a i.toNatClampNeg x))
    | _ => none
  | .lastore => match S with
    | .inr (.inl x) :: .inl i :: .inr (.inr q) :: S => x_der q fun a => x_ak σ a 12 fun n => x_ix i n (x_go k bf r L S (x_sl σ a i.toNatClampNeg x))
    | _ => none
  | .aastore => match S with
    | .inr (.inr y) :: .inl i :: .inr (.inr q) :: S => x_der q fun a => x_aq σ a fun n => x_ix i n (x_der y fun b => x_ck σ b (x_ec (x_nth σ.1 a).1) (x_go k bf r L S (x_sr σ a i.toNatClampNeg (some b))))
    | _ => none
  | .arraylength => match S with
    | .inr (.inr q) :: S => x_der q fun a => (match v with
      | 1 => bif Nat.beq a 2000 then x_go k bf r L (.inl (Int32.ofNat X.1) :: S) σ else none
      | _ => x_aa σ a fun n => x_go k bf r L (.inl (Int32.ofNat n) :: S) σ)
    | _ => none
  | .new _ => bif Nat.blt σ.1.length 900 then x_go k bf r L (.inr (.inr (some σ.1.length)) :: S) (x_new σ t 0) else none
  | .newarray _ => match S with
    | .inl n :: S => bif Nat.blt σ.1.length 900 then (if n < 0 ∨ 5000 < n.toNatClampNeg then none else x_go k bf r L (.inr (.inr (some σ.1.length)) :: S) (x_new σ t n.toNatClampNeg)) else none
    | _ => none
  | .anewarray _ => match S with
    | .inl n :: S => bif Nat.blt σ.1.length 900 then (if n < 0 ∨ 5000 < n.toNatClampNeg then none else x_go k bf r L (.inr (.inr (some σ.1.length)) :: S) (x_new σ t n.toNatClampNeg)) else none
    | _ => none
  | .invokestatic _ => match w with
    | 0 => match x_pop u S [] with
      | some (args, S) => x_call (O t args σ) v (x_go k bf r) L S
      | none => none
    | 1 => match S with
      | .inl y :: .inl x :: S => bif Nat.ble (x_cs S) 8 then x_go k bf r L (.inl (if x < y then y else x) :: S) σ else none
      | _ => none
    | 2 => match S with
      | .inl y :: .inl x :: S => bif Nat.ble (x_cs S) 8 then x_go k bf r L (.inl (if y < x then y else x) :: S) σ else none
      | _ => none
    | 3 => match S with
      | .inl x :: S => bif Nat.ble (x_cs S) 8 then x_go k bf r L (.inl (if 0 ≤ x then x else 0 - x) :: S) σ else none
      | _ => none
    | _ => match S with
      | .inl n :: .inl dp :: .inr (.inr q1) :: .inl sp :: .inr (.inr q0) :: S => bif Nat.ble (x_cs S) 8 then x_der q0 fun a0 => x_der q1 fun a1 => x_ak σ a0 11 fun n0 => x_ak σ a1 11 fun n1 =>
          if sp < 0 ∨ dp < 0 ∨ n < 0 then none else if sp.toNatClampNeg + n.toNatClampNeg ≤ n0 ∧ dp.toNatClampNeg + n.toNatClampNeg ≤ n1 then x_go k bf r L S (x_cp σ a0 a1 sp.toNatClampNeg dp.toNatClampNeg n.toNatClampNeg) else none else none
      | _ => none
  | .invokevirtual _ => match w with
    | 0 => match x_pop u S [] with
      | some (args, S) => x_rv args σ z (x_call (O t args σ) v (x_go k bf r) L S)
      | none => none
    | 5 => match S with
      | .inr (.inr q) :: S => bif Nat.ble (x_cs S) 8 then x_der q fun a => bif Nat.ble 1000 a && Nat.blt a 1013 then x_go k bf r L (.inl (Int32.ofNat (TX a).length) :: S) σ else none else none
      | _ => none
    | _ => match S with
      | .inl i :: .inr (.inr q) :: S => bif Nat.ble (x_cs S) 8 then x_der q fun a => bif Nat.ble 1000 a && Nat.blt a 1013 then x_ix i (TX a).length (x_go k bf r L (.inl ((TX a).getD i.toNatClampNeg 0) :: S) σ) else none else none
      | _ => none
  | .invokespecial _ => match w with
    | 0 => match x_pop u S [] with
      | some (args, S) => (match args with
        | .inr (.inr (some _)) :: _ => x_call (O t args σ) v (x_go k bf r) L S
        | _ => none)
      | none => none
    | _ => match S with
      | .inr (.inr q) :: S => bif Nat.ble (x_cs S) 8 then x_der q fun _ => x_go k bf r L S σ else none
      | _ => none
  | .ireturn => match S with
    | [.inl x] => (match u with
      | 0 => some (some (.inl x), σ)
      | _ => x_bl x (some (some (.inl x), σ)))
    | _ => none
  | .lreturn => match S with
    | [.inr (.inl x)] => some (some (.inr (.inl x)), σ)
    | _ => none
  | .areturn => match S with
    | [.inr (.inr q)] => some (some (.inr (.inr q)), σ)
    | _ => none
  | .return_ => match S with
    | [] => some (none, σ)
    | _ => none
  | _ => none
def x_b (O : Nat → List xV → xS → Option xR) (X : Nat × (Nat → Int32)) (TX : Nat → List Int32) (C : List xRow) (k : Nat → xF) : Nat → List xRow → xF
  | 0 => fun _ _ _ _ => none
  | f + 1 => fun r0 L S σ => match r0 with
    | [] => none
    | q :: r => x_pure q.2.1 q.2.2.2.2.1 L S (fun L S => x_go k (x_b O X TX C k f) r L S σ) (x_i O X TX C k (x_b O X TX C k f) q.2.1 q.2.2.2.2.2.1 q.2.2.2.2.2.2.1 q.2.2.2.2.2.2.2.1 q.2.2.2.2.2.2.2.2.1 q.2.2.2.2.2.2.2.2.2.1 q.2.2.2.2.2.2.2.2.2.2 r L S σ)
/-- a road of at most n pieces -/
def x_m (O : Nat → List xV → xS → Option xR) (X : Nat × (Nat → Int32)) (TX : Nat → List Int32) (C : List xRow) : Nat → Nat → xF
  | 0 => fun _ _ _ _ => none
  | n + 1 => fun pc L S σ => x_b O X TX C (x_m O X TX C n) 3000 (x_suf C pc) L S σ
