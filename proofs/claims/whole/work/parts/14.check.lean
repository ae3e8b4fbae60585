/-! a row of code is checked by a function; the check is sound -/
theorem x_an {a b : Bool} (h : (a && b) = true) : a = true ∧ b = true := by cases a <;> cases b <;> simp_all
theorem x_ne {a : Nat} (h : (!(Nat.beq a 0)) = true) : a ≠ 0 := fun e => by subst e; cases h
def x_hF (o i t u : Nat) : Bool := x_TF.any fun q => Nat.beq q.2.1 i && (Nat.beq q.1 o && (Nat.beq q.2.2.1 t && Nat.beq q.2.2.2.1 u))
theorem x_hF_ok {o i t u : Nat} (h : x_hF o i t u = true) : t < 11 ∧ u < x_nf t ∧ Cond.fieldLink (x_on o) i (x_cn t) (x_ct t u).2.1 (x_ct t u).2.2.1 ∈ x_Tb := by
  obtain ⟨⟨o', i', t', u', n⟩, hq, h⟩ := List.any_eq_true.mp h
  obtain ⟨h1, h⟩ := x_an h
  obtain ⟨h2, h⟩ := x_an h
  obtain ⟨h3, h4⟩ := x_an h
  obtain rfl : i' = i := Nat.eq_of_beq_eq_true h1
  obtain rfl : o' = o := Nat.eq_of_beq_eq_true h2
  obtain rfl : t' = t := Nat.eq_of_beq_eq_true h3
  obtain rfl : u' = u := Nat.eq_of_beq_eq_true h4
  obtain ⟨g1, g2, g3⟩ := x_TF_ok _ hq
  exact ⟨g2, g3, x_Tb_at g1 rfl⟩
def x_hM (o i t : Nat) : Bool := (x_TM.any fun q => Nat.beq q.2.1 i && (Nat.beq q.1 o && Nat.beq q.2.2.1 t)) || (x_TN.any fun q => Nat.beq q.2.1 i && (Nat.beq q.1 o && Nat.beq q.2.2 t))
theorem x_hM_ok {o i t : Nat} (h : x_hM o i t = true) : x_lk (x_on o) i (x_y t) := by
  rcases (Bool.or_eq_true _ _).mp h with h | h
  · obtain ⟨⟨o', i', t', n⟩, hq, h⟩ := List.any_eq_true.mp h
    obtain ⟨h1, h⟩ := x_an h
    obtain ⟨h2, h3⟩ := x_an h
    obtain rfl : i' = i := Nat.eq_of_beq_eq_true h1
    obtain rfl : o' = o := Nat.eq_of_beq_eq_true h2
    obtain rfl : t' = t := Nat.eq_of_beq_eq_true h3
    exact Or.inl (x_Tb_at (x_TM_ok _ hq) rfl)
  · obtain ⟨⟨o', i', t'⟩, hq, h⟩ := List.any_eq_true.mp h
    obtain ⟨h1, h⟩ := x_an h
    obtain ⟨h2, h3⟩ := x_an h
    obtain rfl : i' = i := Nat.eq_of_beq_eq_true h1
    obtain rfl : o' = o := Nat.eq_of_beq_eq_true h2
    obtain rfl : t' = t := Nat.eq_of_beq_eq_true h3
    exact Or.inr ⟨_, x_TN_ok _ hq⟩
def x_hP (o i t : Nat) : Bool := x_TP.any fun q => Nat.beq q.2.1 i && (Nat.beq q.1 o && Nat.beq q.2.2.1 t)
theorem x_hP_ok {o i t : Nat} (h : x_hP o i t = true) : Cond.methodLink (x_on o) i (x_pn t) ∈ x_Tb := by
  obtain ⟨⟨o', i', t', n⟩, hq, h⟩ := List.any_eq_true.mp h
  obtain ⟨h1, h⟩ := x_an h
  obtain ⟨h2, h3⟩ := x_an h
  obtain rfl : i' = i := Nat.eq_of_beq_eq_true h1
  obtain rfl : o' = o := Nat.eq_of_beq_eq_true h2
  obtain rfl : t' = t := Nat.eq_of_beq_eq_true h3
  exact x_Tb_at (x_TP_ok _ hq) rfl
def x_hL (o i t : Nat) : Bool := x_TL.any fun q => Nat.beq q.2.1 i && (Nat.beq q.1 o && Nat.beq q.2.2.1 t)
theorem x_hL_ok {o i t : Nat} (h : x_hL o i t = true) : Cond.classLink (x_on o) i (x_cn t) ∈ x_Tb := by
  obtain ⟨⟨o', i', t', n⟩, hq, h⟩ := List.any_eq_true.mp h
  obtain ⟨h1, h⟩ := x_an h
  obtain ⟨h2, h3⟩ := x_an h
  obtain rfl : i' = i := Nat.eq_of_beq_eq_true h1
  obtain rfl : o' = o := Nat.eq_of_beq_eq_true h2
  obtain rfl : t' = t := Nat.eq_of_beq_eq_true h3
  exact x_Tb_at (x_TL_ok _ hq) rfl
def x_hI (o i : Nat) (x : Int32) : Bool := x_TI.any fun q => Nat.beq q.2.1 i && (Nat.beq q.1 o && decide (q.2.2.1 = x))
theorem x_hI_ok {o i : Nat} {x : Int32} (h : x_hI o i x = true) : Cond.constant (x_on o) i x ∈ x_Tb := by
  obtain ⟨⟨o', i', t', n⟩, hq, h⟩ := List.any_eq_true.mp h
  obtain ⟨h1, h⟩ := x_an h
  obtain ⟨h2, h3⟩ := x_an h
  obtain rfl : i' = i := Nat.eq_of_beq_eq_true h1
  obtain rfl : o' = o := Nat.eq_of_beq_eq_true h2
  obtain rfl : t' = x := of_decide_eq_true h3
  exact x_Tb_at (x_TI_ok _ hq) rfl
def x_hJ (o i : Nat) (x : Int64) : Bool := x_TJ.any fun q => Nat.beq q.2.1 i && (Nat.beq q.1 o && decide (q.2.2.1 = x))
theorem x_hJ_ok {o i : Nat} {x : Int64} (h : x_hJ o i x = true) : Cond.constantLong (x_on o) i x ∈ x_Tb := by
  obtain ⟨⟨o', i', t', n⟩, hq, h⟩ := List.any_eq_true.mp h
  obtain ⟨h1, h⟩ := x_an h
  obtain ⟨h2, h3⟩ := x_an h
  obtain rfl : i' = i := Nat.eq_of_beq_eq_true h1
  obtain rfl : o' = o := Nat.eq_of_beq_eq_true h2
  obtain rfl : t' = x := of_decide_eq_true h3
  exact x_Tb_at (x_TJ_ok _ hq) rfl
def x_hT (o i k : Nat) : Bool := x_TT.any fun q => Nat.beq q.2.1 i && (Nat.beq q.1 o && Nat.beq (1000 + q.2.2) k)
theorem x_hT_ok {o i k : Nat} (h : x_hT o i k = true) : ∃ k' tx, k' < 13 ∧ k = 1000 + k' ∧ x_strs[k']? = some (x_on o, i, tx) := by
  obtain ⟨⟨o', i', t'⟩, hq, h⟩ := List.any_eq_true.mp h
  obtain ⟨h1, h⟩ := x_an h
  obtain ⟨h2, h3⟩ := x_an h
  obtain rfl : i' = i := Nat.eq_of_beq_eq_true h1
  obtain rfl : o' = o := Nat.eq_of_beq_eq_true h2
  obtain rfl : 1000 + t' = k := Nat.eq_of_beq_eq_true h3
  obtain ⟨g1, g2⟩ := x_TT_ok _ hq
  obtain ⟨⟨ya, yb, yc⟩, g3, g4⟩ := Option.map_eq_some_iff.mp g2
  cases g4
  exact ⟨t', yc, g1, rfl, g3⟩
theorem x_mok_ok {t : Nat} (h : t < 226) : x_mok t := by
  obtain ⟨h1, h2, h3, h4, h5⟩ := x_oc_ok t h
  obtain ⟨g1, g2, g3, g4⟩ := x_ini_ok _ h2
  refine ⟨h, x_Tb_at (x_code_ok t h) rfl, ?_, ?_, h3⟩
  · rw [h1]; exact x_Tb_at g1 rfl
  · rw [h1]; exact ⟨g3, g4⟩
def x_pchk (o nL : Nat) (ins : Instr) (len : Nat) (cv : xV) : Bool := match ins with
  | .iload_n _ => Nat.beq len 1
  | .lload_n _ => Nat.beq len 1
  | .aload_n _ => Nat.beq len 1
  | .dup => Nat.beq len 1
  | .dup2 => Nat.beq len 1
  | .pop => Nat.beq len 1
  | .iadd => Nat.beq len 1
  | .isub => Nat.beq len 1
  | .imul => Nat.beq len 1
  | .ineg => Nat.beq len 1
  | .iand => Nat.beq len 1
  | .ior => Nat.beq len 1
  | .ixor => Nat.beq len 1
  | .ishl => Nat.beq len 1
  | .ishr => Nat.beq len 1
  | .iushr => Nat.beq len 1
  | .ladd => Nat.beq len 1
  | .lsub => Nat.beq len 1
  | .lmul => Nat.beq len 1
  | .lcmp => Nat.beq len 1
  | .i2l => Nat.beq len 1
  | .l2i => Nat.beq len 1
  | .i2b => Nat.beq len 1
  | .i2s => Nat.beq len 1
  | .aconst_null => Nat.beq len 1
  | .iload _ => Nat.beq len 2
  | .lload _ => Nat.beq len 2
  | .aload _ => Nat.beq len 2
  | .iconst n => Nat.beq len 1 && decide (cv = .inl (Int32.ofInt n))
  | .bipush n => Nat.beq len 2 && decide (cv = .inl (Int8.ofInt n).toInt32)
  | .sipush n => Nat.beq len 3 && decide (cv = .inl (Int16.ofInt n).toInt32)
  | .lconst n => Nat.beq len 1 && decide (cv = .inr (.inl (Int64.ofNat n.val)))
  | .ldc i => Nat.beq len 2 && (match cv with
    | .inl v => x_hI o i v
    | .inr (.inr (some k)) => x_hT o i k
    | _ => false)
  | .ldc_w i => Nat.beq len 3 && (match cv with
    | .inl v => x_hI o i v
    | _ => false)
  | .ldc2_w i => Nat.beq len 3 && (match cv with
    | .inr (.inl v) => x_hJ o i v
    | _ => false)
  | .istore i => Nat.beq len 2 && Nat.blt i nL
  | .istore_n i => Nat.beq len 1 && Nat.blt i.val nL
  | .astore i => Nat.beq len 2 && Nat.blt i nL
  | .astore_n i => Nat.beq len 1 && Nat.blt i.val nL
  | .lstore i => Nat.beq len 2 && Nat.blt (i + 1) nL
  | .lstore_n i => Nat.beq len 1 && Nat.blt (i.val + 1) nL
  | .iinc i n => Nat.beq len 3 && (Nat.blt i nL && decide (cv = .inl (Int32.ofInt n)))
  | _ => true
theorem x_lt {a b : Nat} (h : Nat.blt a b = true) : a < b := Nat.le_of_ble_eq_true h
theorem x_pchk_ok {o nL : Nat} {ins : Instr} {len : Nat} {cv : xV} (h : x_pchk o nL ins len cv = true) : x_pok (x_on o) nL ins len cv := by
  cases ins
  case ldc i =>
    obtain ⟨h1, h2⟩ := x_an h
    refine ⟨Nat.eq_of_beq_eq_true h1, ?_⟩
    rcases cv with v | v | (_ | k)
    · exact Or.inl ⟨v, rfl, x_hI_ok h2⟩
    · cases h2
    · cases h2
    · obtain ⟨k', tx, e1, e2, e3⟩ := x_hT_ok h2
      exact Or.inr ⟨k', tx, e1, by rw [e2], e3⟩
  case ldc_w i =>
    obtain ⟨h1, h2⟩ := x_an h
    refine ⟨Nat.eq_of_beq_eq_true h1, ?_⟩
    rcases cv with v | v | (_ | k)
    · exact ⟨v, rfl, x_hI_ok h2⟩
    · cases h2
    · cases h2
    · cases h2
  case ldc2_w i =>
    obtain ⟨h1, h2⟩ := x_an h
    refine ⟨Nat.eq_of_beq_eq_true h1, ?_⟩
    rcases cv with v | v | (_ | k)
    · cases h2
    · exact ⟨v, rfl, x_hJ_ok h2⟩
    · cases h2
    · cases h2
  case iinc i n =>
    obtain ⟨h1, h2⟩ := x_an h
    obtain ⟨h2, h3⟩ := x_an h2
    exact ⟨Nat.eq_of_beq_eq_true h1, x_lt h2, of_decide_eq_true h3⟩
  case iconst n => exact ⟨Nat.eq_of_beq_eq_true (x_an h).1, of_decide_eq_true (x_an h).2⟩
  case bipush n => exact ⟨Nat.eq_of_beq_eq_true (x_an h).1, of_decide_eq_true (x_an h).2⟩
  case sipush n => exact ⟨Nat.eq_of_beq_eq_true (x_an h).1, of_decide_eq_true (x_an h).2⟩
  case lconst n => exact ⟨Nat.eq_of_beq_eq_true (x_an h).1, of_decide_eq_true (x_an h).2⟩
  case istore n => exact ⟨Nat.eq_of_beq_eq_true (x_an h).1, x_lt (x_an h).2⟩
  case istore_n n => exact ⟨Nat.eq_of_beq_eq_true (x_an h).1, x_lt (x_an h).2⟩
  case astore n => exact ⟨Nat.eq_of_beq_eq_true (x_an h).1, x_lt (x_an h).2⟩
  case astore_n n => exact ⟨Nat.eq_of_beq_eq_true (x_an h).1, x_lt (x_an h).2⟩
  case lstore n => exact ⟨Nat.eq_of_beq_eq_true (x_an h).1, x_lt (x_an h).2⟩
  case lstore_n n => exact ⟨Nat.eq_of_beq_eq_true (x_an h).1, x_lt (x_an h).2⟩
  case iload_n _ => exact Nat.eq_of_beq_eq_true h
  case lload_n _ => exact Nat.eq_of_beq_eq_true h
  case aload_n _ => exact Nat.eq_of_beq_eq_true h
  case dup => exact Nat.eq_of_beq_eq_true h
  case dup2 => exact Nat.eq_of_beq_eq_true h
  case pop => exact Nat.eq_of_beq_eq_true h
  case iadd => exact Nat.eq_of_beq_eq_true h
  case isub => exact Nat.eq_of_beq_eq_true h
  case imul => exact Nat.eq_of_beq_eq_true h
  case ineg => exact Nat.eq_of_beq_eq_true h
  case iand => exact Nat.eq_of_beq_eq_true h
  case ior => exact Nat.eq_of_beq_eq_true h
  case ixor => exact Nat.eq_of_beq_eq_true h
  case ishl => exact Nat.eq_of_beq_eq_true h
  case ishr => exact Nat.eq_of_beq_eq_true h
  case iushr => exact Nat.eq_of_beq_eq_true h
  case ladd => exact Nat.eq_of_beq_eq_true h
  case lsub => exact Nat.eq_of_beq_eq_true h
  case lmul => exact Nat.eq_of_beq_eq_true h
  case lcmp => exact Nat.eq_of_beq_eq_true h
  case i2l => exact Nat.eq_of_beq_eq_true h
  case l2i => exact Nat.eq_of_beq_eq_true h
  case i2b => exact Nat.eq_of_beq_eq_true h
  case i2s => exact Nat.eq_of_beq_eq_true h
  case aconst_null => exact Nat.eq_of_beq_eq_true h
  case iload _ => exact Nat.eq_of_beq_eq_true h
  case lload _ => exact Nat.eq_of_beq_eq_true h
  case aload _ => exact Nat.eq_of_beq_eq_true h
  all_goals exact True.intro
def x_swc (pc : Nat) : List Int → Int → List (Int32 × Nat) → Bool
  | _, _, [] => true
  | [], _, _ :: _ => false
  | off :: os, lo, (c, t) :: sw => decide (c.toInt = lo) && (decide ((pc : Int) + off = (t : Int)) && x_swc pc os (lo + 1) sw)
theorem x_swc_ok (pc : Nat) : ∀ (os : List Int) (lo : Int) (sw : List (Int32 × Nat)), x_swc pc os lo sw = true → ∀ (i : Nat) (c : Int32) (t' : Nat), sw[i]? = some (c, t') → c.toInt = lo + (i : Int) ∧ ∃ off, os[i]? = some off ∧ (pc : Int) + off = (t' : Int)
  | _, lo, [], _, i, c, t', h => by simp at h
  | [], lo, q :: sw, h0, i, c, t', h => by cases h0
  | off :: os, lo, (c0, t0) :: sw, h0, 0, c, t', h => by
    obtain ⟨h1, h2⟩ := x_an h0
    obtain ⟨h2, h3⟩ := x_an h2
    cases h
    exact ⟨(of_decide_eq_true h1).trans (by simp), off, rfl, of_decide_eq_true h2⟩
  | off :: os, lo, (c0, t0) :: sw, h0, i + 1, c, t', h => by
    obtain ⟨h1, h2⟩ := x_an h0
    obtain ⟨h2, h3⟩ := x_an h2
    obtain ⟨g1, o, g2, g3⟩ := x_swc_ok pc os (lo + 1) sw h3 i c t' (by simpa using h)
    exact ⟨by rw [g1]; omega, o, by simpa using g2, g3⟩
def x_ichk (o : Nat) (scr ini : Bool) (rt : Option FieldType) (pc : Nat) (ins : Instr) (len : Nat) (sw : List (Int32 × Nat)) (t u v w z : Nat) : Bool := match ins with
  | .goto off => Nat.beq len 3 && decide ((pc : Int) + off = (t : Int))
  | .ifCond _ off => Nat.beq len 3 && decide ((pc : Int) + off = (t : Int))
  | .if_icmp _ off => Nat.beq len 3 && decide ((pc : Int) + off = (t : Int))
  | .ifnull off => Nat.beq len 3 && decide ((pc : Int) + off = (t : Int))
  | .ifnonnull off => Nat.beq len 3 && decide ((pc : Int) + off = (t : Int))
  | .tableswitch d lo hi offs => decide ((pc : Int) + d = (t : Int)) && (decide (hi - lo + 1 = (sw.length : Int)) && x_swc pc offs.toList lo sw)
  | .idiv => Nat.beq len 1
  | .irem => Nat.beq len 1
  | .ldiv => Nat.beq len 1
  | .lrem => Nat.beq len 1
  | .getfield i => Nat.beq len 3 && (x_hF o i t u && Nat.beq (x_code (x_tyf t u)) v)
  | .putfield i => Nat.beq len 3 && (x_hF o i t u && (Nat.beq (x_code (x_tyf t u)) v && (!(x_ct t u).2.2.2 || (ini && (Nat.beq o t && Nat.blt o 11)))))
  | .iaload => Nat.beq len 1 && (scr || !(Nat.beq v 1))
  | .laload => Nat.beq len 1
  | .aaload => Nat.beq len 1
  | .iastore => Nat.beq len 1
  | .lastore => Nat.beq len 1
  | .aastore => Nat.beq len 1
  | .arraylength => Nat.beq len 1 && (scr || !(Nat.beq v 1))
  | .new i => Nat.beq len 3 && (Nat.blt t 11 && x_hL o i t)
  | .newarray k => Nat.beq len 2 && (match k with
    | .int => Nat.beq t 11
    | .long => Nat.beq t 12
    | _ => false)
  | .anewarray i => Nat.beq len 3 && ((Nat.beq t 13 || (Nat.beq t 14 || Nat.beq t 15)) && x_hL o i (x_ec t))
  | .invokestatic i => Nat.beq len 3 && (match w with
    | 0 => x_hM o i t && (Nat.blt t 226 && (!(Nat.beq (x_pst t) 0) && Nat.beq (x_npt t) u))
    | 1 => x_hP o i 1
    | 2 => x_hP o i 2
    | 3 => x_hP o i 3
    | _ => x_hP o i 4)
  | .invokevirtual i => Nat.beq len 3 && (match w with
    | 0 => x_hM o i t && (Nat.blt t 226 && (!(Nat.beq (x_pin t) 0) && (!(Nat.beq (x_psl t) 0) && (Nat.blt z 11 && (Nat.beq (x_oc t) z && Nat.beq (x_npt t + 1) u)))))
    | 5 => x_hP o i 5
    | 6 => x_hP o i 6
    | _ => false)
  | .invokespecial i => Nat.beq len 3 && (match w with
    | 0 => x_hM o i t && (Nat.blt t 226 && (!(Nat.beq (x_pin t) 0) && (x_ini t && Nat.beq (x_npt t + 1) u)))
    | _ => x_hP o i 7)
  | .ireturn => Nat.beq len 1 && (bif Nat.beq u 0 then decide (rt = some .int) else decide (rt = some .boolean))
  | .lreturn => Nat.beq len 1 && decide (rt = some .long)
  | .areturn => Nat.beq len 1 && (match rt with
    | some (.object _) => true
    | _ => false)
  | .return_ => Nat.beq len 1 && decide (rt = none)
  | _ => false
theorem x_ichk_ok {o : Nat} {scr ini : Bool} {rt : Option FieldType} {pc : Nat} {ins : Instr} {len : Nat} {sw : List (Int32 × Nat)} {t u v w z : Nat} (h : x_ichk o scr ini rt pc ins len sw t u v w z = true) : x_iok (x_on o) scr ini rt pc ins len sw t u v w z := by
  cases ins
  case goto off => exact ⟨Nat.eq_of_beq_eq_true (x_an h).1, of_decide_eq_true (x_an h).2⟩
  case ifCond c off => exact ⟨Nat.eq_of_beq_eq_true (x_an h).1, of_decide_eq_true (x_an h).2⟩
  case if_icmp c off => exact ⟨Nat.eq_of_beq_eq_true (x_an h).1, of_decide_eq_true (x_an h).2⟩
  case ifnull off => exact ⟨Nat.eq_of_beq_eq_true (x_an h).1, of_decide_eq_true (x_an h).2⟩
  case ifnonnull off => exact ⟨Nat.eq_of_beq_eq_true (x_an h).1, of_decide_eq_true (x_an h).2⟩
  case tableswitch d lo hi offs =>
    obtain ⟨h1, h⟩ := x_an h
    obtain ⟨h2, h3⟩ := x_an h
    refine ⟨of_decide_eq_true h1, of_decide_eq_true h2, fun i c t' hi => ?_⟩
    obtain ⟨g1, off, g2, g3⟩ := x_swc_ok pc offs.toList lo sw h3 i c t' hi
    exact ⟨g1, off, by rw [← g2, Array.getElem?_toList], g3⟩
  case getfield i =>
    obtain ⟨h1, h⟩ := x_an h
    obtain ⟨h2, h3⟩ := x_an h
    obtain ⟨g1, g2, g3⟩ := x_hF_ok h2
    exact ⟨Nat.eq_of_beq_eq_true h1, g1, g2, Nat.eq_of_beq_eq_true h3, g3⟩
  case putfield i =>
    obtain ⟨h1, h⟩ := x_an h
    obtain ⟨h2, h⟩ := x_an h
    obtain ⟨h3, h4⟩ := x_an h
    obtain ⟨g1, g2, g3⟩ := x_hF_ok h2
    refine ⟨Nat.eq_of_beq_eq_true h1, ⟨g1, g2, Nat.eq_of_beq_eq_true h3, g3⟩, fun hf => ?_⟩
    rw [hf] at h4
    obtain ⟨k1, k2⟩ := x_an (show (ini && (Nat.beq o t && Nat.blt o 11)) = true from h4)
    obtain ⟨k2, k3⟩ := x_an k2
    obtain rfl : o = t := Nat.eq_of_beq_eq_true k2
    exact ⟨k1, (x_ins_ok o (x_lt k3)).2⟩
  case iaload =>
    obtain ⟨h1, h2⟩ := x_an h
    refine ⟨Nat.eq_of_beq_eq_true h1, fun e => ?_⟩
    subst e
    cases scr
    · cases h2
    · rfl
  case arraylength =>
    obtain ⟨h1, h2⟩ := x_an h
    refine ⟨Nat.eq_of_beq_eq_true h1, fun e => ?_⟩
    subst e
    cases scr
    · cases h2
    · rfl
  case new i =>
    obtain ⟨h1, h⟩ := x_an h
    obtain ⟨h2, h3⟩ := x_an h
    have ht := x_lt h2
    refine ⟨Nat.eq_of_beq_eq_true h1, ht, x_hL_ok h3, x_Tb_at (x_ins_ok t ht).1 rfl, ?_⟩
    rw [← (x_ins_ok t ht).2]
    exact x_Tb_at (x_ini_ok t (by omega)).1 rfl
  case newarray k =>
    obtain ⟨h1, h2⟩ := x_an h
    cases k
    case int => exact ⟨Nat.eq_of_beq_eq_true h1, x_fx12, Or.inl ⟨rfl, Nat.eq_of_beq_eq_true h2⟩⟩
    case long => exact ⟨Nat.eq_of_beq_eq_true h1, x_fx13, Or.inr ⟨rfl, Nat.eq_of_beq_eq_true h2⟩⟩
    all_goals cases h2
  case anewarray i =>
    obtain ⟨h1, h⟩ := x_an h
    obtain ⟨h2, h3⟩ := x_an h
    refine ⟨Nat.eq_of_beq_eq_true h1, ?_, x_hL_ok h3⟩
    rcases (Bool.or_eq_true _ _).mp h2 with h2 | h2
    · exact Or.inl (Nat.eq_of_beq_eq_true h2)
    · rcases (Bool.or_eq_true _ _).mp h2 with h2 | h2
      · exact Or.inr (Or.inl (Nat.eq_of_beq_eq_true h2))
      · exact Or.inr (Or.inr (Nat.eq_of_beq_eq_true h2))
  case invokestatic i =>
    obtain ⟨h1, h⟩ := x_an h
    refine ⟨Nat.eq_of_beq_eq_true h1, ?_⟩
    match w, h with
    | 0, h =>
      obtain ⟨h2, h⟩ := x_an h
      obtain ⟨h3, h⟩ := x_an h
      obtain ⟨h4, h5⟩ := x_an h
      have ht := x_lt h3
      exact ⟨x_hM_ok h2, x_mok_ok ht, x_Tb_at (x_st_ok t ht (x_ne h4)) rfl, (x_oc_ok t ht).2.2.2.1.trans (congrArg some (Nat.eq_of_beq_eq_true h5))⟩
    | 1, h => exact ⟨x_hP_ok h, x_fx0, x_fx3, x_fx4⟩
    | 2, h => exact ⟨x_hP_ok h, x_fx1, x_fx3, x_fx5⟩
    | 3, h => exact ⟨x_hP_ok h, x_fx2, x_fx3, x_fx6⟩
    | w + 4, h => exact ⟨x_hP_ok h, x_fx7, x_fx8, x_fx9⟩
  case invokevirtual i =>
    obtain ⟨h1, h⟩ := x_an h
    refine ⟨Nat.eq_of_beq_eq_true h1, ?_⟩
    match w, h with
    | 0, h =>
      obtain ⟨h2, h⟩ := x_an h
      obtain ⟨h3, h⟩ := x_an h
      obtain ⟨h4, h⟩ := x_an h
      obtain ⟨h5, h⟩ := x_an h
      obtain ⟨h6, h⟩ := x_an h
      obtain ⟨h7, h8⟩ := x_an h
      have ht := x_lt h3
      have hz := x_lt h6
      have e1 : x_oc t = z := Nat.eq_of_beq_eq_true h7
      have e2 : x_npt t + 1 = u := Nat.eq_of_beq_eq_true h8
      refine ⟨x_hM_ok h2, x_mok_ok ht, x_Tb_at (x_in_ok t ht (x_ne h4)) rfl, x_Tb_at (x_sl_ok t ht (x_ne h5)) rfl, hz, ?_, by omega, ?_⟩
      · rw [(x_oc_ok t ht).1, e1, (x_ins_ok z hz).2]
      · rw [(x_oc_ok t ht).2.2.2.1, ← e2]; rfl
    | 1, h => cases h
    | 2, h => cases h
    | 3, h => cases h
    | 4, h => cases h
    | 5, h => exact x_hP_ok h
    | 6, h => exact x_hP_ok h
    | w + 7, h => cases h
  case invokespecial i =>
    obtain ⟨h1, h⟩ := x_an h
    refine ⟨Nat.eq_of_beq_eq_true h1, ?_⟩
    match w, h with
    | 0, h =>
      obtain ⟨h2, h⟩ := x_an h
      obtain ⟨h3, h⟩ := x_an h
      obtain ⟨h4, h⟩ := x_an h
      obtain ⟨h5, h8⟩ := x_an h
      have ht := x_lt h3
      have e2 : x_npt t + 1 = u := Nat.eq_of_beq_eq_true h8
      obtain ⟨k1, k2⟩ := (x_oc_ok t ht).2.2.2.2 h5
      refine ⟨x_hM_ok h2, x_mok_ok ht, x_Tb_at (x_in_ok t ht (x_ne h4)) rfl, k1, k2, by omega, ?_⟩
      rw [(x_oc_ok t ht).2.2.2.1, ← e2]; rfl
    | w + 1, h => exact ⟨x_hP_ok h, x_fx10, x_fx11⟩
  case ireturn =>
    obtain ⟨h1, h⟩ := x_an h
    refine ⟨Nat.eq_of_beq_eq_true h1, fun e => ?_, fun e => ?_⟩
    · subst e
      exact of_decide_eq_true h
    · cases u with
      | zero => exact absurd rfl e
      | succ u => exact of_decide_eq_true h
  case lreturn => exact ⟨Nat.eq_of_beq_eq_true (x_an h).1, of_decide_eq_true (x_an h).2⟩
  case areturn =>
    obtain ⟨h1, h⟩ := x_an h
    refine ⟨Nat.eq_of_beq_eq_true h1, ?_⟩
    match rt, h with
    | some (.object n), h => exact ⟨n, rfl⟩
  case return_ => exact ⟨Nat.eq_of_beq_eq_true (x_an h).1, of_decide_eq_true (x_an h).2⟩
  case idiv => exact Nat.eq_of_beq_eq_true h
  case irem => exact Nat.eq_of_beq_eq_true h
  case ldiv => exact Nat.eq_of_beq_eq_true h
  case lrem => exact Nat.eq_of_beq_eq_true h
  case laload => exact Nat.eq_of_beq_eq_true h
  case aaload => exact Nat.eq_of_beq_eq_true h
  case iastore => exact Nat.eq_of_beq_eq_true h
  case lastore => exact Nat.eq_of_beq_eq_true h
  case aastore => exact Nat.eq_of_beq_eq_true h
  all_goals cases h
def x_chc : List xRow → Bool
  | [] => true
  | [_] => true
  | q :: q' :: r => Nat.beq q'.1 (q.1 + q.2.2.1) && x_chc (q' :: r)
theorem x_chc_ok : ∀ C : List xRow, x_chc C = true → x_chain C
  | [], _ => True.intro
  | [q], _ => ⟨Or.inl rfl, True.intro⟩
  | q :: q' :: r, h => ⟨Or.inr (Nat.eq_of_beq_eq_true (x_an h).1), x_chc_ok (q' :: r) (x_an h).2⟩
def x_rchk (cc : ByteArray) (o nL : Nat) (scr ini : Bool) (rt : Option FieldType) (q : xRow) : Bool :=
  decide (decode cc q.1 = .ok (q.2.1, q.2.2.1)) && (x_pchk o nL q.2.1 q.2.2.1 q.2.2.2.2.1 && (x_isp q.2.1 || x_ichk o scr ini rt q.1 q.2.1 q.2.2.1 q.2.2.2.2.2.1 q.2.2.2.2.2.2.1 q.2.2.2.2.2.2.2.1 q.2.2.2.2.2.2.2.2.1 q.2.2.2.2.2.2.2.2.2.1 q.2.2.2.2.2.2.2.2.2.2))
theorem x_rchk_ok {cc : ByteArray} {o nL : Nat} {scr ini : Bool} {rt : Option FieldType} {q : xRow} (h : x_rchk cc o nL scr ini rt q = true) : x_rowok cc (x_on o) nL scr ini rt q := by
  obtain ⟨h1, h⟩ := x_an h
  obtain ⟨h2, h3⟩ := x_an h
  refine ⟨of_decide_eq_true h1, x_pchk_ok h2, fun e => ?_⟩
  rw [e] at h3
  exact x_ichk_ok h3
def x_jchk (j : Nat) : Bool := (x_C j).all (x_rchk (x_by j) (x_oc j) (x_ml j) false (x_ini j) (x_rt j)) && x_chc (x_C j)
theorem x_jchk_ok {j : Nat} (hj : j < 226) (h : x_jchk j = true) : x_jok j := by
  obtain ⟨h1, h2⟩ := x_an h
  obtain ⟨g1, g2, g3, g4, g5⟩ := x_oc_ok j hj
  refine ⟨by rw [g1]; exact (x_ini_ok _ g2).2.1, fun q hq => ?_, x_chc_ok _ h2, fun e => (g5 e).1⟩
  rw [g1]
  exact x_rchk_ok (List.all_eq_true.mp h1 q hq)
theorem x_all_cut {α : Type} (f : α → Bool) (n : Nat) (l : List α) (h1 : (l.take n).all f = true) (h2 : (l.drop n).all f = true) : l.all f = true := by
  rw [← List.take_append_drop n l, List.all_append, h1, h2]; rfl
def x_rj (j : Nat) : xRow → Bool := x_rchk (x_by j) (x_oc j) (x_ml j) false (x_ini j) (x_rt j)
