/-! what the tables say: the words that stay good; texts in the code -/
def x_Tb : List Cond := lw_tbl.filter goodWord
def x_strs : List (String × Nat × String) := [("InsuredAgainstLuck", 90, "odds 20 + more ; sizes 100 + luck * 10 ; seen 30 ;"), ("InsuredAgainstLuck$Tape", 107, "odds"), ("InsuredAgainstLuck$Tape", 113, "sizes"), ("InsuredAgainstLuck$Tape", 115, "seen"), ("InsuredAgainstLuck$Tape", 117, "or"), ("InsuredAgainstLuck$Tape", 119, "and"), ("InsuredAgainstLuck$Tape", 121, "not"), ("InsuredAgainstLuck$Tape", 123, "year"), ("InsuredAgainstLuck$Tape", 125, "luck"), ("InsuredAgainstLuck$Tape", 127, "more"), ("InsuredAgainstLuck$Tape", 129, "excess"), ("InsuredAgainstLuck$Tape", 131, "share"), ("InsuredAgainstLuck$Tape", 133, "much")]
/-- what a row of code must keep to, where it works on locals and operands alone -/
def x_pok (own : String) (nL : Nat) (ins : Instr) (len : Nat) (cv : xV) : Prop := match ins with
  | .aconst_null => len = 1
  | .iconst n => len = 1 ∧ cv = .inl (Int32.ofInt n)
  | .bipush n => len = 2 ∧ cv = .inl (Int8.ofInt n).toInt32
  | .sipush n => len = 3 ∧ cv = .inl (Int16.ofInt n).toInt32
  | .lconst n => len = 1 ∧ cv = .inr (.inl (Int64.ofNat n.val))
  | .ldc i => len = 2 ∧ ((∃ v, cv = .inl v ∧ Cond.constant own i v ∈ x_Tb) ∨ ∃ k tx, k < 13 ∧ cv = .inr (.inr (some (1000 + k))) ∧ x_strs[k]? = some (own, i, tx))
  | .ldc_w i => len = 3 ∧ ∃ v, cv = .inl v ∧ Cond.constant own i v ∈ x_Tb
  | .ldc2_w i => len = 3 ∧ ∃ v, cv = .inr (.inl v) ∧ Cond.constantLong own i v ∈ x_Tb
  | .iload _ => len = 2
  | .lload _ => len = 2
  | .aload _ => len = 2
  | .iload_n _ => len = 1
  | .lload_n _ => len = 1
  | .aload_n _ => len = 1
  | .istore i => len = 2 ∧ i < nL
  | .istore_n i => len = 1 ∧ i.val < nL
  | .astore i => len = 2 ∧ i < nL
  | .astore_n i => len = 1 ∧ i.val < nL
  | .lstore i => len = 2 ∧ i + 1 < nL
  | .lstore_n i => len = 1 ∧ i.val + 1 < nL
  | .iinc i n => len = 3 ∧ i < nL ∧ cv = .inl (Int32.ofInt n)
  | .dup => len = 1
  | .dup2 => len = 1
  | .pop => len = 1
  | .iadd => len = 1
  | .isub => len = 1
  | .imul => len = 1
  | .ineg => len = 1
  | .iand => len = 1
  | .ior => len = 1
  | .ixor => len = 1
  | .ishl => len = 1
  | .ishr => len = 1
  | .iushr => len = 1
  | .ladd => len = 1
  | .lsub => len = 1
  | .lmul => len = 1
  | .lcmp => len = 1
  | .i2l => len = 1
  | .l2i => len = 1
  | .i2b => len = 1
  | .i2s => len = 1
  | _ => True
def x_isp (ins : Instr) : Bool := match ins with
  | .aconst_null => true
  | .iconst _ => true
  | .bipush _ => true
  | .sipush _ => true
  | .lconst _ => true
  | .ldc _ => true
  | .ldc_w _ => true
  | .ldc2_w _ => true
  | .iload _ => true
  | .lload _ => true
  | .aload _ => true
  | .iload_n _ => true
  | .lload_n _ => true
  | .aload_n _ => true
  | .istore _ => true
  | .istore_n _ => true
  | .astore _ => true
  | .astore_n _ => true
  | .lstore _ => true
  | .lstore_n _ => true
  | .iinc _ _ => true
  | .dup => true
  | .dup2 => true
  | .pop => true
  | .iadd => true
  | .isub => true
  | .imul => true
  | .ineg => true
  | .iand => true
  | .ior => true
  | .ixor => true
  | .ishl => true
  | .ishr => true
  | .iushr => true
  | .ladd => true
  | .lsub => true
  | .lmul => true
  | .lcmp => true
  | .i2l => true
  | .l2i => true
  | .i2b => true
  | .i2s => true
  | _ => false
section
variable {p : Program} {l : Launch} {e : Env} {R : Room} {s : State} {m : MethodId} {args : Array Value} {below : List Frame} {meth : Method} {c : Code} {H : Heap} {locs : List Loc} {cells slots : Nat} {Q : State → Prop} {cc : ByteArray} {pc : Nat} {ls : Array Slot}
set_option maxHeartbeats 4000000 in
theorem x_pure_sound (hx : p.tables.exec = Jvm.exec) (hb : c.code = cc) {own : String} (hown : s.vm.findClass own = some m.cls) (hts : ∀ w ∈ x_Tb, w.before args s = true) {a : Nat → Nat} (hR : ∀ (k : Nat) (q : String × Nat × String), k < 13 → x_strs[k]? = some q → vk_R q.1 q.2.1 q.2.2 (a (1000 + k)) s) {nL : Nat} {ins : Instr} {len : Nat} {cv : xV} {L : xL} {S : List xV} {K : xL → List xV → Option xR} {N : Option xR} {r : xR} (hd : decode cc pc = .ok (ins, len)) (hok : x_pok own nL ins len cv) (hl : lv_has ls nL (x_lv a 0 L)) (h : x_pure ins cv L S K N = some r)
    (hK : ∀ (L' : xL) (S' : List xV) (ls' : Array Slot), K L' S' = some r → lv_has ls' nL (x_lv a 0 L') → W p l e R s m args below meth c H locs cells slots Q (F0 m (pc + len) ls' (S'.map (x_tr a))))
    (hN : x_isp ins = false → N = some r → W p l e R s m args below meth c H locs cells slots Q (F0 m pc ls (S.map (x_tr a)))) : W p l e R s m args below meth c H locs cells slots Q (F0 m pc ls (S.map (x_tr a))) := by
  cases ins
  case aconst_null =>
    obtain rfl : len = 1 := hok
    exact lv_null hx hb hd (hK _ _ _ h hl)
  case iconst n =>
    obtain ⟨rfl, rfl⟩ := hok
    exact lv_iconst (v := Int32.ofInt n) hx hb hd rfl (hK _ _ _ h hl)
  case bipush n =>
    obtain ⟨rfl, rfl⟩ := hok
    exact lv_bipush (v := (Int8.ofInt n).toInt32) hx hb hd rfl (hK _ _ _ h hl)
  case sipush n =>
    obtain ⟨rfl, rfl⟩ := hok
    exact lv_sipush (v := (Int16.ofInt n).toInt32) hx hb hd rfl (hK _ _ _ h hl)
  case lconst n =>
    obtain ⟨rfl, rfl⟩ := hok
    exact lv_lconst (v := Int64.ofNat n.val) hx hb hd rfl (hK _ _ _ h hl)
  case ldc i =>
    obtain ⟨rfl, ⟨v, rfl, hw⟩ | ⟨k, tx, hk, rfl, hs⟩⟩ := hok
    · exact lv_ldc (v := v) hx hb hown (hts _ hw) hd (hK _ _ _ h hl)
    · exact va_ldcS hx hb hown (hR k _ hk hs) hd (hK _ _ _ h hl)
  case ldc_w i =>
    obtain ⟨rfl, v, rfl, hw⟩ := hok
    exact lv_ldcw (v := v) hx hb hown (hts _ hw) hd (hK _ _ _ h hl)
  case ldc2_w i =>
    obtain ⟨rfl, v, rfl, hw⟩ := hok
    exact lv_ldc2 (v := v) hx hb hown (hts _ hw) hd (hK _ _ _ h hl)
  case iload i =>
    obtain rfl : len = 2 := hok
    have h : (match x_at L i with
      | some (.inl x) => K L (.inl x :: S)
      | _ => none) = some r := h
    split at h
    next x hv => exact lv_iload hx hb hd (x_lv_at hl hv) (hK _ _ _ h hl)
    next => cases h
  case iload_n i =>
    obtain rfl : len = 1 := hok
    have h : (match x_at L i.val with
      | some (.inl x) => K L (.inl x :: S)
      | _ => none) = some r := h
    split at h
    next x hv => exact lv_iload_n hx hb hd rfl (x_lv_at hl hv) (hK _ _ _ h hl)
    next => cases h
  case lload i =>
    obtain rfl : len = 2 := hok
    have h : (match x_at L i with
      | some (.inr (.inl x)) => K L (.inr (.inl x) :: S)
      | _ => none) = some r := h
    split at h
    next x hv => exact lv_lload hx hb hd (x_lv_at hl hv) (hK _ _ _ h hl)
    next => cases h
  case lload_n i =>
    obtain rfl : len = 1 := hok
    have h : (match x_at L i.val with
      | some (.inr (.inl x)) => K L (.inr (.inl x) :: S)
      | _ => none) = some r := h
    split at h
    next x hv => exact lv_lload_n hx hb hd rfl (x_lv_at hl hv) (hK _ _ _ h hl)
    next => cases h
  case aload i =>
    obtain rfl : len = 2 := hok
    have h : (match x_at L i with
      | some (.inr (.inr q)) => K L (.inr (.inr q) :: S)
      | _ => none) = some r := h
    split at h
    next q hv =>
      cases q with
      | none => exact lv_aloadN hx hb hd (x_lv_at hl hv) (hK _ _ _ h hl)
      | some k => exact lv_aload hx hb hd (x_lv_at hl hv) (hK _ _ _ h hl)
    next => cases h
  case aload_n i =>
    obtain rfl : len = 1 := hok
    have h : (match x_at L i.val with
      | some (.inr (.inr q)) => K L (.inr (.inr q) :: S)
      | _ => none) = some r := h
    split at h
    next q hv =>
      cases q with
      | none => exact lv_aload_nN hx hb hd rfl (x_lv_at hl hv) (hK _ _ _ h hl)
      | some k => exact lv_aload_n hx hb hd rfl (x_lv_at hl hv) (hK _ _ _ h hl)
    next => cases h
  case istore i =>
    obtain ⟨rfl, hi⟩ := hok
    rcases S with _ | ⟨x | x, S⟩ <;> try cases h
    exact lv_istore hx hb hd hl hi rfl (fun ls' hl' => hK _ _ _ h (x_st1 hl'))
  case istore_n i =>
    obtain ⟨rfl, hi⟩ := hok
    rcases S with _ | ⟨x | x, S⟩ <;> try cases h
    exact lv_istore_n hx hb hd rfl hl hi rfl (fun ls' hl' => hK _ _ _ h (x_st1 hl'))
  case lstore i =>
    obtain ⟨rfl, hi⟩ := hok
    rcases S with _ | ⟨x | x | x, S⟩ <;> try cases h
    exact lv_lstore hx hb hd hl hi rfl (fun ls' hl' => hK _ _ _ h (x_st2 (v := .inr (.inl x)) hl'))
  case lstore_n i =>
    obtain ⟨rfl, hi⟩ := hok
    rcases S with _ | ⟨x | x | x, S⟩ <;> try cases h
    exact lv_lstore_n hx hb hd rfl hl hi rfl (fun ls' hl' => hK _ _ _ h (x_st2 (v := .inr (.inl x)) hl'))
  case astore i =>
    obtain ⟨rfl, hi⟩ := hok
    rcases S with _ | ⟨x | x | q, S⟩ <;> try cases h
    cases q with
    | none => exact lv_astoreN hx hb hd hl hi rfl (fun ls' hl' => hK _ _ _ h (x_st1 (v := .inr (.inr none)) hl'))
    | some k => exact lv_astore hx hb hd hl hi rfl (fun ls' hl' => hK _ _ _ h (x_st1 (v := .inr (.inr (some k))) hl'))
  case astore_n i =>
    obtain ⟨rfl, hi⟩ := hok
    rcases S with _ | ⟨x | x | q, S⟩ <;> try cases h
    cases q with
    | none => exact lv_astore_nN hx hb hd rfl hl hi rfl (fun ls' hl' => hK _ _ _ h (x_st1 (v := .inr (.inr none)) hl'))
    | some k => exact lv_astore_n hx hb hd rfl hl hi rfl (fun ls' hl' => hK _ _ _ h (x_st1 (v := .inr (.inr (some k))) hl'))
  case iinc i n =>
    obtain ⟨rfl, hi, rfl⟩ := hok
    have h : (match x_at L i, (Sum.inl (Int32.ofInt n) : xV) with
      | some (.inl x), .inl y => K (x_put (x_clr L i) i (some (.inl (x + y)))) S
      | _, _ => none) = some r := h
    split at h
    next x y hv hy =>
      cases hy
      obtain ⟨k, hk⟩ := List.getElem?_of_mem (x_lv_mem.mpr ⟨i, _, (Nat.zero_add i).symm, hv, rfl⟩ : (i, x_tr a (.inl x)) ∈ x_lv a 0 L)
      exact lv_iinc hx hb hd hl hk rfl hi rfl (fun ls' hl' => hK _ _ _ h (x_st1 (v := .inl (x + Int32.ofInt n)) hl'))
    next => cases h
  case dup =>
    obtain rfl : len = 1 := hok
    rcases S with _ | ⟨x | x | q, S⟩ <;> try cases h
    · exact lv_dup hx hb hd rfl (hK _ _ _ h hl)
    · exact lv_dup hx hb hd (x_cat_tr a (.inr (.inr q))) (hK _ _ _ h hl)
  case dup2 =>
    obtain rfl : len = 1 := hok
    rcases S with _ | ⟨x | x | q, S⟩ <;> try cases h
    · rcases S with _ | ⟨y | y | q, S⟩ <;> try cases h
      exact lv_dup2_11 hx hb hd rfl (x_cat_tr a (.inr (.inr q))) (hK _ _ _ h hl)
    · exact lv_dup2_2 hx hb hd rfl (hK _ _ _ h hl)
  case pop =>
    obtain rfl : len = 1 := hok
    rcases S with _ | ⟨x | x | q, S⟩ <;> try cases h
    · exact lv_pop hx hb hd rfl (hK _ _ _ h hl)
    · exact lv_pop hx hb hd (x_cat_tr a (.inr (.inr q))) (hK _ _ _ h hl)
  case iadd =>
    obtain rfl : len = 1 := hok
    rcases S with _ | ⟨y | y, _ | ⟨x | x, S⟩⟩ <;> try cases h
    exact lv_iadd hx hb hd (hK _ _ _ h hl)
  case isub =>
    obtain rfl : len = 1 := hok
    rcases S with _ | ⟨y | y, _ | ⟨x | x, S⟩⟩ <;> try cases h
    exact lv_isub hx hb hd (hK _ _ _ h hl)
  case imul =>
    obtain rfl : len = 1 := hok
    rcases S with _ | ⟨y | y, _ | ⟨x | x, S⟩⟩ <;> try cases h
    exact lv_imul hx hb hd (hK _ _ _ h hl)
  case iand =>
    obtain rfl : len = 1 := hok
    rcases S with _ | ⟨y | y, _ | ⟨x | x, S⟩⟩ <;> try cases h
    exact lv_iand hx hb hd (hK _ _ _ h hl)
  case ior =>
    obtain rfl : len = 1 := hok
    rcases S with _ | ⟨y | y, _ | ⟨x | x, S⟩⟩ <;> try cases h
    exact lv_ior hx hb hd (hK _ _ _ h hl)
  case ixor =>
    obtain rfl : len = 1 := hok
    rcases S with _ | ⟨y | y, _ | ⟨x | x, S⟩⟩ <;> try cases h
    exact lv_ixor hx hb hd (hK _ _ _ h hl)
  case ishl =>
    obtain rfl : len = 1 := hok
    rcases S with _ | ⟨y | y, _ | ⟨x | x, S⟩⟩ <;> try cases h
    exact lv_ishl hx hb hd (hK _ _ _ h hl)
  case ishr =>
    obtain rfl : len = 1 := hok
    rcases S with _ | ⟨y | y, _ | ⟨x | x, S⟩⟩ <;> try cases h
    exact lv_ishr hx hb hd (hK _ _ _ h hl)
  case iushr =>
    obtain rfl : len = 1 := hok
    rcases S with _ | ⟨y | y, _ | ⟨x | x, S⟩⟩ <;> try cases h
    exact lv_iushr hx hb hd rfl (hK _ _ _ h hl)
  case ladd =>
    obtain rfl : len = 1 := hok
    rcases S with _ | ⟨y | y | y, _ | ⟨x | x | x, S⟩⟩ <;> try cases h
    exact lv_ladd hx hb hd (hK _ _ _ h hl)
  case lsub =>
    obtain rfl : len = 1 := hok
    rcases S with _ | ⟨y | y | y, _ | ⟨x | x | x, S⟩⟩ <;> try cases h
    exact lv_lsub hx hb hd (hK _ _ _ h hl)
  case lmul =>
    obtain rfl : len = 1 := hok
    rcases S with _ | ⟨y | y | y, _ | ⟨x | x | x, S⟩⟩ <;> try cases h
    exact lv_lmul hx hb hd (hK _ _ _ h hl)
  case lcmp =>
    obtain rfl : len = 1 := hok
    rcases S with _ | ⟨y | y | y, _ | ⟨x | x | x, S⟩⟩ <;> try cases h
    exact W.lcmp hx hb hd (hK _ _ _ h hl)
  case ineg =>
    obtain rfl : len = 1 := hok
    rcases S with _ | ⟨x | x, S⟩ <;> try cases h
    exact lv_ineg hx hb hd (hK _ _ _ h hl)
  case i2l =>
    obtain rfl : len = 1 := hok
    rcases S with _ | ⟨x | x, S⟩ <;> try cases h
    exact lv_i2l hx hb hd rfl (hK _ _ _ h hl)
  case i2b =>
    obtain rfl : len = 1 := hok
    rcases S with _ | ⟨x | x, S⟩ <;> try cases h
    exact lv_i2b hx hb hd rfl (hK _ _ _ h hl)
  case i2s =>
    obtain rfl : len = 1 := hok
    rcases S with _ | ⟨x | x, S⟩ <;> try cases h
    exact lv_i2s hx hb hd rfl (hK _ _ _ h hl)
  case l2i =>
    obtain rfl : len = 1 := hok
    rcases S with _ | ⟨x | x | x, S⟩ <;> try cases h
    exact lv_l2i hx hb hd rfl (hK _ _ _ h hl)
  all_goals exact hN rfl h
end
