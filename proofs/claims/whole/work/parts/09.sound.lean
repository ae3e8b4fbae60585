/-! the small machine is sound: what it runs, the real one runs -/
def x_len : List Nat := [50, 4, 5, 4, 2, 3, 3, 4, 4, 4, 6, 5, 4]
def x_byt : List (List Int32) := (List.range 13).map fun i => x_TX (1000 + i)
/-- what stands outside the world and stays: the texts, their resolved entries, two kinds of links, a static -/
def x_St (a : Nat → Nat) (A : Nat → Prop) (U : State) (H : Heap) : Prop :=
  (∃ adV, vk_S 13 x_len x_byt (fun i => a (1000 + i)) adV A U H) ∧ (∀ (k : Nat) (q : String × Nat × String), k < 13 → x_strs[k]? = some q → vk_R q.1 q.2.1 q.2.2 (a (1000 + k)) U) ∧
  (∀ q ∈ x_Ln, va_Nw (.methodLinkNest q.1 q.2.1 q.2.2.1 q.2.2.2) U) ∧ (va_AO RX2 U ∧ va_AO RX5 U ∧ va_AO RX7 U) ∧ va_Z "java/lang/String" "COMPACT_STRINGS" "Z" (.int 1) A U H ∧ va_Zq "jdk/internal/util/Preconditions" "SIOOBE_FORMATTER" "Ljava/util/function/BiFunction;" A U H
theorem x_St.to {a : Nat → Nat} {A B : Nat → Prop} {s U : State} {H : Heap} {locs : List Loc} (h : x_St a A s s.heap) (hS : va_S A s.heap H locs) (hU : U.heap = H) (hW : s.WarmedH U.vm) (hAB : ∀ q, B q → A q) : x_St a B U U.heap := by
  obtain ⟨⟨adV, h1⟩, h2, h3, ⟨h4, h5, h6⟩, h7, h8⟩ := h
  subst hU
  refine ⟨⟨adV, ((h1.kept (fun q a b => hS.2.1 q a b)).moved hW.alike).narrow hAB⟩, fun k q a b => vk_R.warm hW (h2 k q a b), fun q hq => va_Nw.warmM hW (h3 q hq), ⟨h4.moved hW.alike, h5.moved hW.alike, h6.moved hW.alike⟩, ((h7.kept (fun q a b => hS.2.1 q a b)).moved hW.alike).narrow hAB, ((h8.kept (fun q a b => hS.2.1 q a b)).moved hW.alike).narrow hAB⟩
theorem x_St.calling {a : Nat → Nat} {A : Nat → Prop} {U : State} (h : x_St a A U U.heap) (g : JFrame) (mk : MethodId) (v : Array Value) : x_St a A (U.calling g mk v) (U.calling g mk v).heap := by
  obtain ⟨⟨adV, h1⟩, h2, h3, ⟨h4, h5, h6⟩, h7, h8⟩ := h
  have hA : U.vm.Alike (U.calling g mk v).vm := Vm.Alike.refl U.vm
  exact ⟨⟨adV, h1.moved hA⟩, fun k q a b => vk_R.same rfl (h2 k q a b), fun q hq => va_Nw.same rfl (U := U.calling g mk v) rfl (h3 q hq), ⟨h4.moved hA, h5.moved hA, h6.moved hA⟩, h7.moved hA, h8.moved hA⟩
def x_rm (d mc ms : Nat) : Room := { frames := d + 8, cells := mc, slots := ms, locals := 64 * (d + 8) }
def x_ws (j : Nat) : List Cond := Cond.code (x_y j) (x_by j) (x_ml j) (x_rt j) :: x_Tb
def x_Pre (D : va_G) (cy : Nat → ClassId) (a : Nat → Nat) (base : Nat) (σ : xS) (av : List xV) : Array Value → State → Prop := va_Pc (av.map (x_tr a)) (fun U => U.heap.size = base + σ.1.length ∧ σ.1.length ≤ 900 ∧ va_P D x_cls (x_W cy a σ) U.heap ∧ va_K D x_cls (x_tys cy) U ∧ va_D (va_A (x_W cy a σ) (base + σ.1.length)) (x_W cy a σ) ∧ x_St a (va_A (x_W cy a σ) (base + σ.1.length)) U U.heap)
def x_Post (D : va_G) (cy : Nat → ClassId) (a : Nat → Nat) (base : Nat) (σ : xS) (r : Option xV) (τ : xS) : Array Value → State → Outcome → State → Prop := fun _ st oc t => (oc = .returned (r.map (x_tr a)) ∧ va_P D x_cls (x_W cy a τ) t.heap ∧ va_D (va_A (x_W cy a σ) (base + σ.1.length)) (x_W cy a τ) ∧ τ.1.length ≤ 900) ∧ va_F (va_A (x_W cy a σ) (base + σ.1.length)) st t
def x_Met (l : Launch) (D : va_G) (cy : Nat → ClassId) (a : Nat → Nat) (base d j : Nat) (av : List xV) (σ : xS) (r : Option xV) (τ : xS) : Prop := Met l (x_y j) (x_ws j) (x_rm d (τ.1.length - σ.1.length) (x_sz τ.1 - x_sz σ.1)) (x_Pre D cy a base σ av) (x_Post D cy a base σ r τ) (τ.1.length - σ.1.length) (x_sz τ.1 - x_sz σ.1) (va_A (x_W cy a σ) (base + σ.1.length))
def x_ctx (D : va_G) (cy : Nat → ClassId) (a : Nat → Nat) (A : Nat → Prop) (s : State) (n0 w0 : Nat) (σ : xS) (H : Heap) (locs : List Loc) (cells slots : Nat) : Prop :=
  va_P D x_cls (x_W cy a σ) H ∧ va_D A (x_W cy a σ) ∧ va_S A s.heap H locs ∧ cells + n0 = σ.1.length ∧ slots + w0 = x_sz σ.1 ∧ σ.1.length ≤ 900
/-- a class's name, fields -/
def x_cn (c : Nat) : String := match c with
  | 0 => RX0
  | 1 => RX1
  | 2 => RX2
  | 3 => RX3
  | 4 => RX4
  | 5 => RX5
  | 6 => RX6
  | 7 => RX7
  | 8 => RX8
  | 9 => RX9
  | _ => RX10
def x_ct (c : Nat) : u_T := match c with
  | 0 => TX0
  | 1 => TX1
  | 2 => TX2
  | 3 => TX3
  | 4 => TX4
  | 5 => TX5
  | 6 => TX6
  | 7 => TX7
  | 8 => TX8
  | 9 => TX9
  | _ => TX10
def x_clsok (c : Nat) : Prop := x_cls[c]? = some (x_cn c, x_ct c, x_nf c) ∧ (∀ w ∈ u_ws (x_cn c) (x_ct c) (x_nf c), w ∈ x_Tb) ∧ (∀ k, k < x_nf c → parseFieldDescriptor (x_ct c k).2.2.1 = some (x_tyf c k)) ∧ (∀ b, b < x_nf c → ∀ b', b' < x_nf c → b ≠ b' → (x_ct c b).2.1 ≠ (x_ct c b').2.1) ∧ (∀ k, k < x_nf c → (x_ct c k).1 = x_cn c) ∧ ∀ k, k < x_nf c → x_code (x_tyf c k) ≠ 9
def x_lk (own : String) (i : Nat) (y : MethodName) : Prop := Cond.methodLink own i y ∈ x_Tb ∨ ∃ host, (own, i, y, host) ∈ x_Ln
def x_mok (j : Nat) : Prop := j < 226 ∧ Cond.code (x_y j) (x_by j) (x_ml j) (x_rt j) ∈ x_Tb ∧ Cond.initialized (x_y j).cls ∈ x_Tb ∧ ((x_y j).cls ≠ "java/lang/invoke/MethodHandle" ∧ (x_y j).cls ≠ "java/lang/invoke/VarHandle") ∧ x_ml j ≤ 45
def x_np (j : Nat) : Option Nat := (parseMethodDescriptor (x_y j).desc).map fun q => q.parameters.length
def x_fok (own : String) (i t u v : Nat) : Prop := t < 11 ∧ u < x_nf t ∧ x_code (x_tyf t u) = v ∧ Cond.fieldLink own i (x_cn t) (x_ct t u).2.1 (x_ct t u).2.2.1 ∈ x_Tb
def x_swok (pc : Nat) (d lo hi : Int) (offs : Array Int) (t : Nat) (sw : List (Int32 × Nat)) : Prop := (pc : Int) + d = (t : Int) ∧ hi - lo + 1 = (sw.length : Int) ∧ ∀ (i : Nat) (c : Int32) (t' : Nat), sw[i]? = some (c, t') → c.toInt = lo + (i : Int) ∧ ∃ off, offs[i]? = some off ∧ (pc : Int) + off = (t' : Int)
/-- what a row of code must keep to, the other instructions -/
def x_iok (own : String) (scr ini : Bool) (rt : Option FieldType) (pc : Nat) (ins : Instr) (len : Nat) (sw : List (Int32 × Nat)) (t u v w z : Nat) : Prop := match ins with
  | .goto off => len = 3 ∧ (pc : Int) + off = (t : Int)
  | .ifCond _ off => len = 3 ∧ (pc : Int) + off = (t : Int)
  | .if_icmp _ off => len = 3 ∧ (pc : Int) + off = (t : Int)
  | .ifnull off => len = 3 ∧ (pc : Int) + off = (t : Int)
  | .ifnonnull off => len = 3 ∧ (pc : Int) + off = (t : Int)
  | .tableswitch d lo hi offs => x_swok pc d lo hi offs t sw
  | .idiv => len = 1
  | .irem => len = 1
  | .ldiv => len = 1
  | .lrem => len = 1
  | .getfield i => len = 3 ∧ x_fok own i t u v
  | .putfield i => len = 3 ∧ x_fok own i t u v ∧ ((x_ct t u).2.2.2 = true → ini = true ∧ own = x_cn t)
  | .iaload => len = 1 ∧ (v = 1 → scr = true)
  | .laload => len = 1
  | .aaload => len = 1
  | .iastore => len = 1
  | .lastore => len = 1
  | .aastore => len = 1
  | .arraylength => len = 1 ∧ (v = 1 → scr = true)
  | .new i => len = 3 ∧ t < 11 ∧ Cond.classLink own i (x_cn t) ∈ x_Tb ∧ Cond.instantiable (x_cn t) (x_nf t) ∈ x_Tb ∧ Cond.initialized (x_cn t) ∈ x_Tb
  | .newarray k => len = 2 ∧ Cond.arrayClass (newarray.typeOf k) ∈ x_Tb ∧ ((k = .int ∧ t = 11) ∨ (k = .long ∧ t = 12))
  | .anewarray i => len = 3 ∧ (t = 13 ∨ t = 14 ∨ t = 15) ∧ Cond.classLink own i (x_cn (x_ec t)) ∈ x_Tb
  | .invokestatic i => len = 3 ∧ match w with
    | 0 => x_lk own i (x_y t) ∧ x_mok t ∧ Cond.static (x_y t) ∈ x_Tb ∧ x_np t = some u
    | 1 => Cond.methodLink own i Lib.Math.max.name ∈ x_Tb ∧ Cond.static Lib.Math.max.name ∈ x_Tb ∧ Cond.initialized "java/lang/Math" ∈ x_Tb ∧ Cond.code Lib.Math.max.name Lib.Math.max.code 2 (some .int) ∈ x_Tb
    | 2 => Cond.methodLink own i Lib.Math.min.name ∈ x_Tb ∧ Cond.static Lib.Math.min.name ∈ x_Tb ∧ Cond.initialized "java/lang/Math" ∈ x_Tb ∧ Cond.code Lib.Math.min.name Lib.Math.min.code 2 (some .int) ∈ x_Tb
    | 3 => Cond.methodLink own i Lib.Math.abs.name ∈ x_Tb ∧ Cond.static Lib.Math.abs.name ∈ x_Tb ∧ Cond.initialized "java/lang/Math" ∈ x_Tb ∧ Cond.code Lib.Math.abs.name Lib.Math.abs.code 1 (some .int) ∈ x_Tb
    | _ => Cond.methodLink own i arraycopyName ∈ x_Tb ∧ Cond.native arraycopyName ∈ x_Tb ∧ Cond.static arraycopyName ∈ x_Tb ∧ Cond.initialized "java/lang/System" ∈ x_Tb
  | .invokevirtual i => len = 3 ∧ match w with
    | 0 => x_lk own i (x_y t) ∧ x_mok t ∧ Cond.instanceMethod (x_y t) ∈ x_Tb ∧ Cond.selects (x_y t).cls (x_y t) (x_y t) ∈ x_Tb ∧ z < 11 ∧ (x_y t).cls = x_cn z ∧ 1 ≤ u ∧ x_np t = some (u - 1)
    | 5 => Cond.methodLink own i yJ0_length_8abf5 ∈ x_Tb
    | 6 => Cond.methodLink own i yJ0_charAt_5068e ∈ x_Tb
    | _ => False
  | .invokespecial i => len = 3 ∧ match w with
    | 0 => x_lk own i (x_y t) ∧ x_mok t ∧ Cond.instanceMethod (x_y t) ∈ x_Tb ∧ (x_y t).name = "<init>" ∧ x_rt t = none ∧ 1 ≤ u ∧ x_np t = some (u - 1)
    | _ => Cond.methodLink own i Lib.objectInit ∈ x_Tb ∧ Cond.instanceMethod Lib.objectInit ∈ x_Tb ∧ Cond.code Lib.objectInit ⟨#[0xb1]⟩ 1 none ∈ x_Tb
  | .ireturn => len = 1 ∧ (u = 0 → rt = some .int) ∧ (u ≠ 0 → rt = some .boolean)
  | .lreturn => len = 1 ∧ rt = some .long
  | .areturn => len = 1 ∧ ∃ n, rt = some (.object n)
  | .return_ => len = 1 ∧ rt = none
  | _ => False
