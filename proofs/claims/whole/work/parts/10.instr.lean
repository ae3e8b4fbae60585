/-! every instruction of the small machine, on the real one -/
theorem x_W_upd {cy : Nat → ClassId} {a : Nat → Nat} {σ τ : xS} {k : Nat} {e : va_E} (h1 : τ.1 = σ.1) (hk : k < σ.1.length) (ho : ∀ j, j ≠ k → (∀ w, x_I τ j w = x_I σ j w) ∧ (∀ w, x_J τ j w = x_J σ j w) ∧ ∀ w, x_Q τ j w = x_Q σ j w) (he : ∀ q, σ.1[k]? = some q → x_e cy a τ k q = e) : (x_W cy a σ).set k (a k, e) = x_W cy a τ :=
  x_W_set h1 hk he fun j q hj => x_e_congr q (ho j hj).1 (ho j hj).2.1 fun w => by rw [(ho j hj).2.2 w]
theorem x_W_fs {cy : Nat → ClassId} {a : Nat → Nat} {σ τ : xS} {k t u : Nat} {v : Value} (h1 : τ.1 = σ.1) (hk : (x_nth σ.1 k).1 = t) (ht : t < 11) (hu : u < x_nf t) (ho : ∀ j, j ≠ k → (∀ w, x_I τ j w = x_I σ j w) ∧ (∀ w, x_J τ j w = x_J σ j w) ∧ ∀ w, x_Q τ j w = x_Q σ j w) (hv : x_fv a τ k (x_code (x_tyf t u)) u = v) (hw : ∀ j, j ≠ u → ∀ c, x_fv a τ k c j = x_fv a σ k c j) : (x_W cy a σ).set k (a k, .inr (t, (x_fs a σ k t).set u v)) = x_W cy a τ := by
  have h2 := x_nth_some (l := σ.1) (i := k) (by rw [hk]; omega)
  refine x_W_upd h1 (List.getElem?_eq_some_iff.mp h2).1 ho fun q hq => ?_
  have hq1 : q.1 = t := by rw [← hk, ← Option.some.inj (h2.symm.trans hq)]
  rw [x_e, if_pos (by omega), hq1, x_fs_set hu hv hw]
theorem x_W_ar {cy : Nat → ClassId} {a : Nat → Nat} {σ τ : xS} {k c : Nat} {f : (Nat → Int32) ⊕ (Nat → Int64) ⊕ (Nat → UInt32) ⊕ (Nat → UInt64) ⊕ (Nat → Option Nat)} (h1 : τ.1 = σ.1) (hk : (x_nth σ.1 k).1 = c) (hc : 11 ≤ c) (hc2 : c ≤ 15) (ho : ∀ j, j ≠ k → (∀ w, x_I τ j w = x_I σ j w) ∧ (∀ w, x_J τ j w = x_J σ j w) ∧ ∀ w, x_Q τ j w = x_Q σ j w) (hf : x_arr a τ k c = f) : (x_W cy a σ).set k (a k, .inl (cy (c - 11), (x_nth σ.1 k).2, f)) = x_W cy a τ := by
  have h2 := x_nth_some (l := σ.1) (i := k) (by rw [hk]; omega)
  refine x_W_upd h1 (List.getElem?_eq_some_iff.mp h2).1 ho fun q hq => ?_
  have hq1 : q = x_nth σ.1 k := (Option.some.inj (h2.symm.trans hq)).symm
  rw [x_e, hq1, hk, if_neg (by omega), hf]
theorem x_o_si (σ : xS) (k u : Nat) (x : Int32) : ∀ j, j ≠ k → (∀ w, x_I (x_si σ k u x) j w = x_I σ j w) ∧ (∀ w, x_J (x_si σ k u x) j w = x_J σ j w) ∧ ∀ w, x_Q (x_si σ k u x) j w = x_Q σ j w := fun j hj => ⟨fun w => by rw [x_I_si, if_neg (fun q => hj q.1)], fun _ => rfl, fun _ => rfl⟩
theorem x_o_sl (σ : xS) (k u : Nat) (x : Int64) : ∀ j, j ≠ k → (∀ w, x_I (x_sl σ k u x) j w = x_I σ j w) ∧ (∀ w, x_J (x_sl σ k u x) j w = x_J σ j w) ∧ ∀ w, x_Q (x_sl σ k u x) j w = x_Q σ j w := fun j hj => ⟨fun _ => rfl, fun w => by rw [x_J_sl, if_neg (fun q => hj q.1)], fun _ => rfl⟩
theorem x_o_sr (σ : xS) (k u : Nat) (x : Option Nat) : ∀ j, j ≠ k → (∀ w, x_I (x_sr σ k u x) j w = x_I σ j w) ∧ (∀ w, x_J (x_sr σ k u x) j w = x_J σ j w) ∧ ∀ w, x_Q (x_sr σ k u x) j w = x_Q σ j w := fun j hj => ⟨fun _ => rfl, fun _ => rfl, fun w => by rw [x_Q_sr, if_neg (fun q => hj q.1)]⟩
theorem x_tr_fg (a : Nat → Nat) (σ : xS) (k u v : Nat) : x_tr a (x_fg σ k u v) = x_fv a σ k v u := by
  match v with
  | 0 => rfl
  | 1 => rfl
  | 2 => rfl
  | v + 3 => rfl
theorem x_ck_some {σ : xS} {a c : Nat} {K : Option xR} {r : xR} (h : x_ck σ a c K = some r) : (x_nth σ.1 a).1 = c ∧ K = some r := by
  unfold x_ck at h
  cases hb : Nat.beq (x_nth σ.1 a).1 c with
  | false => rw [hb] at h; cases h
  | true => rw [hb] at h; exact ⟨Nat.eq_of_beq_eq_true hb, h⟩
theorem x_ak_some {σ : xS} {a c : Nat} {K : Nat → Option xR} {r : xR} (h : x_ak σ a c K = some r) : (x_nth σ.1 a).1 = c ∧ K (x_nth σ.1 a).2 = some r := x_ck_some (K := K (x_nth σ.1 a).2) h
theorem x_aq_some {σ : xS} {a : Nat} {K : Nat → Option xR} {r : xR} (h : x_aq σ a K = some r) : ∃ c, (x_nth σ.1 a).1 = c ∧ (c = 13 ∨ c = 14 ∨ c = 15) ∧ K (x_nth σ.1 a).2 = some r := by
  unfold x_aq at h
  cases hb : (Nat.ble 13 (x_nth σ.1 a).1 && Nat.ble (x_nth σ.1 a).1 15) with
  | false => rw [hb] at h; cases h
  | true =>
    rw [hb] at h
    have h1 := (Bool.and_eq_true_iff.mp hb).1
    have h2 := (Bool.and_eq_true_iff.mp hb).2
    have h1 := Nat.le_of_ble_eq_true h1
    have h2 := Nat.le_of_ble_eq_true h2
    exact ⟨_, rfl, by omega, h⟩
theorem x_aa_some {σ : xS} {a : Nat} {K : Nat → Option xR} {r : xR} (h : x_aa σ a K = some r) : ∃ c, (x_nth σ.1 a).1 = c ∧ (c = 11 ∨ c = 12 ∨ c = 13 ∨ c = 14 ∨ c = 15) ∧ K (x_nth σ.1 a).2 = some r := by
  unfold x_aa at h
  cases hb : (Nat.ble 11 (x_nth σ.1 a).1 && Nat.ble (x_nth σ.1 a).1 15) with
  | false => rw [hb] at h; cases h
  | true =>
    rw [hb] at h
    have h1 := (Bool.and_eq_true_iff.mp hb).1
    have h2 := (Bool.and_eq_true_iff.mp hb).2
    have h1 := Nat.le_of_ble_eq_true h1
    have h2 := Nat.le_of_ble_eq_true h2
    exact ⟨_, rfl, by omega, h⟩
theorem x_ix_some {i : Int32} {n : Nat} {K : Option xR} {r : xR} (h : x_ix i n K = some r) : vp_in i n ∧ K = some r := by
  unfold x_ix at h
  by_cases c : i < 0 ∨ n ≤ i.toNatClampNeg
  · rw [if_pos c] at h; cases h
  · rw [if_neg c] at h; exact ⟨c, h⟩
theorem x_bl_some {x : Int32} {K : Option xR} {r : xR} (h : x_bl x K = some r) : (x = 0 ∨ x = 1) ∧ K = some r := by
  unfold x_bl at h
  by_cases c : x = 0 ∨ x = 1
  · rw [if_pos c] at h; exact ⟨c, h⟩
  · rw [if_neg c] at h; cases h
theorem x_b_some {c : Bool} {K : Option xR} {r : xR} (h : (bif c then K else none) = some r) : c = true ∧ K = some r := by
  cases c
  · cases h
  · exact ⟨rfl, h⟩
theorem x_call_some {o : Option xR} {v : Nat} {K : xF} {L : xL} {S : List xV} {rr : xR} (h : x_call o v K L S = some rr) : x_cs S ≤ 8 ∧ ∃ r τ, o = some (r, τ) ∧ K L (r.toList ++ S) τ = some rr := by
  obtain ⟨h1, h⟩ := x_b_some h
  refine ⟨Nat.le_of_ble_eq_true h1, ?_⟩
  match o, h with
  | none, h =>
    match v, h with
    | 0, h => cases h
    | 1, h => cases h
    | 2, h => cases h
    | v + 3, h => cases h
  | some (none, τ), h =>
    match v, h with
    | 0, h => exact ⟨_, _, rfl, h⟩
    | 1, h => cases h
    | 2, h => cases h
    | v + 3, h => cases h
  | some (some (.inl x), τ), h =>
    match v, h with
    | 0, h => cases h
    | 1, h => exact ⟨_, _, rfl, h⟩
    | 2, h => cases h
    | v + 3, h => cases h
  | some (some (.inr (.inl x)), τ), h =>
    match v, h with
    | 0, h => cases h
    | 1, h => cases h
    | 2, h => exact ⟨_, _, rfl, h⟩
    | v + 3, h => cases h
  | some (some (.inr (.inr x)), τ), h =>
    match v, h with
    | 0, h => cases h
    | 1, h => cases h
    | 2, h => cases h
    | v + 3, h => exact ⟨_, _, rfl, h⟩
theorem x_pop_some : ∀ {n : Nat} {S acc av S' : List xV}, x_pop n S acc = some (av, S') → ∃ pre, S = pre ++ S' ∧ av = pre.reverse ++ acc ∧ pre.length = n
  | 0, S, acc, av, S', h => by
    cases h
    exact ⟨[], rfl, rfl, rfl⟩
  | n + 1, [], acc, av, S', h => by cases h
  | n + 1, v :: S, acc, av, S', h => by
    obtain ⟨pre, h1, h2, h3⟩ := x_pop_some (n := n) (S := S) (acc := v :: acc) h
    exact ⟨v :: pre, by rw [h1]; rfl, by rw [h2]; simp, by rw [List.length_cons, h3]⟩
theorem x_sw_some {x : Int32} {K : Nat → Option xR} {D : Option xR} {r : xR} : ∀ {sw : List (Int32 × Nat)}, x_sw x K D sw = some r → (∃ (i t : Nat), sw[i]? = some (x, t) ∧ K t = some r) ∨ ((∀ (i : Nat) (c : Int32) (t : Nat), sw[i]? = some (c, t) → x ≠ c) ∧ D = some r)
  | [], h => Or.inr ⟨fun i c t h => by simp at h, h⟩
  | (c, t) :: l, h => by
    have h : (if x = c then K t else x_sw x K D l) = some r := h
    by_cases e : x = c
    · rw [if_pos e] at h
      exact Or.inl ⟨0, t, by rw [e]; rfl, h⟩
    · rw [if_neg e] at h
      rcases x_sw_some h with ⟨i, t', h1, h2⟩ | ⟨h1, h2⟩
      · exact Or.inl ⟨i + 1, t', h1, h2⟩
      · refine Or.inr ⟨fun i c' t' hi => ?_, h2⟩
        cases i with
        | zero => cases hi; exact e
        | succ i => exact h1 i c' t' hi
theorem x_W_new (cy : Nat → ClassId) (a : Nat → Nat) (σ : xS) (c n : Nat) : x_W cy a σ ++ [(a σ.1.length, x_e cy a (x_new σ c n) σ.1.length (c, n))] = x_W cy a (x_new σ c n) := by
  apply List.ext_getElem?
  intro j
  have hl : (x_W cy a σ).length = σ.1.length := x_W_len cy a σ
  have oth : ∀ j, j ≠ σ.1.length → ∀ q, x_e cy a (x_new σ c n) j q = x_e cy a σ j q := by
    intro j hj q
    refine x_e_congr q (fun w => ?_) (fun w => ?_) (fun w => ?_)
    · show x_row σ.2.1 σ.1.length (fun _ => 0) j w = _
      rw [x_row_at, if_neg hj]; rfl
    · show x_row σ.2.2.1 σ.1.length (fun _ => 0) j w = _
      rw [x_row_at, if_neg hj]; rfl
    · show Option.map a (x_row σ.2.2.2 σ.1.length (fun _ => none) j w) = _
      rw [x_row_at, if_neg hj]; rfl
  by_cases h1 : j < σ.1.length
  · rw [List.getElem?_append_left (by rw [hl]; exact h1), x_W, x_W, List.getElem?_mapIdx, List.getElem?_mapIdx]
    show _ = Option.map _ ((σ.1 ++ [(c, n)])[j]?)
    rw [List.getElem?_append_left h1]
    cases σ.1[j]? with
    | none => rfl
    | some q => exact congrArg (fun e => some (a j, e)) (oth j (by omega) q).symm
  · rw [List.getElem?_append_right (by rw [hl]; omega), hl, x_W, List.getElem?_mapIdx]
    show _ = Option.map _ ((σ.1 ++ [(c, n)])[j]?)
    rw [List.getElem?_append_right (by omega)]
    by_cases h2 : j = σ.1.length
    · subst h2
      rw [Nat.sub_self]; rfl
    · have e : ∃ i, j - σ.1.length = i + 1 := ⟨j - σ.1.length - 1, by omega⟩
      obtain ⟨i, e⟩ := e
      rw [e]; rfl
theorem x_code_def {ty : FieldType} (h : x_code ty ≠ 9) : (x_code ty = 1 → ty = .long) ∧ (x_code ty = 2 → (∃ n, ty = .object n) ∨ ∃ t, ty = .array t) ∧ (x_code ty = 0 → ty = .int) ∧ (x_code ty = 3 → ty = .boolean) := by
  cases ty <;> simp [x_code] at h ⊢
section
variable {p : Program} {l : Launch} {e : Env} {R : Room} {s : State} {m : MethodId} {args : Array Value} {below : List Frame} {meth : Method} {c : Code} {Q : State → Prop} {cc : ByteArray}
variable {D : va_G} {cy : Nat → ClassId} {a : Nat → Nat} {A : Nat → Prop} {n0 w0 nL base d : Nat} {own : String} {ini : Bool} {rt : Option FieldType}
/-- a road that is good from a place on -/
def x_good (p : Program) (l : Launch) (e : Env) (R : Room) (s : State) (m : MethodId) (args : Array Value) (below : List Frame) (meth : Method) (c : Code) (Q : State → Prop) (D : va_G) (cy : Nat → ClassId) (a : Nat → Nat) (A : Nat → Prop) (n0 w0 nL : Nat) (rr : xR) (F : xF) (pc : Nat) : Prop :=
  ∀ (L : xL) (S : List xV) (σ : xS) (H : Heap) (locs : List Loc) (cells slots : Nat) (ls : Array Slot), F L S σ = some rr → x_ctx D cy a A s n0 w0 σ H locs cells slots → lv_has ls nL (x_lv a 0 L) → W p l e R s m args below meth c H locs cells slots Q (F0 m pc ls (S.map (x_tr a)))
/-- what stays through a method's walk -/
def x_fix (p : Program) (R : Room) (s : State) (m : MethodId) (args : Array Value) (meth : Method) (c : Code) (cc : ByteArray) (D : va_G) (cy : Nat → ClassId) (a : Nat → Nat) (A : Nat → Prop) (n0 nL base d : Nat) (own : String) (ini : Bool) : Prop :=
  p.tables.exec = Jvm.exec ∧ c.code = cc ∧ c.maxLocals = nL ∧ s.vm.findClass own = some m.cls ∧ (∀ w ∈ x_Tb, w.before args s = true) ∧ (ini = true → meth.name = "<init>") ∧ va_K D x_cls (x_tys cy) s ∧ x_St a A s s.heap ∧ s.heap.size = base + n0 ∧ (∀ k, k < 900 → a k = base + k) ∧ (∀ q, s.heap.size ≤ q → A q) ∧ d + 9 ≤ R.frames ∧ 64 * (d + 9) ≤ R.locals
/-- the heap holds the world and no more -/
theorem x_here {H : Heap} {locs : List Loc} {cells slots : Nat} {σ : xS} {g : JFrame} (F : x_fix p R s m args meth c cc D cy a A n0 nL base d own ini) (hc : x_ctx D cy a A s n0 w0 σ H locs cells slots) (kk : H.size = base + σ.1.length → W p l e R s m args below meth c H locs cells slots Q g) : W p l e R s m args below meth c H locs cells slots Q g := by
  obtain ⟨-, -, -, -, -, -, -, -, hsz, ha, -, -, -⟩ := F
  obtain ⟨hP, hD, hS, e1, e2, e3⟩ := hc
  intro T hT X
  have h1 := X.heapSize
  rw [hT] at h1
  have h2 := hS.1
  refine kk ?_ T hT X
  by_cases hz : σ.1.length = n0
  · omega
  · have hlt : σ.1.length - 1 < σ.1.length := by omega
    have h3 := (hP (σ.1.length - 1) _ (x_W_get (cy := cy) (a := a) (List.getElem?_eq_getElem hlt))).lt
    have h4 : a (σ.1.length - 1) = base + (σ.1.length - 1) := ha _ (by omega)
    have h3 : a (σ.1.length - 1) < H.size := h3
    omega
theorem x_back {H : Heap} {locs : List Loc} {cells slots : Nat} {σ τ : xS} {pc : Nat} {ls : Array Slot} {st0 rest : List Value} {av : Array Value} {r : Option xV} (hsz : H.size = base + σ.1.length) (hA : ∀ q, s.heap.size ≤ q → A q) (hc : x_ctx D cy a A s n0 w0 σ H locs cells slots) (hpf : x_pf σ τ)
    (hr : va_Run p l e R s m args below meth c H locs cells slots (τ.1.length - σ.1.length) (x_sz τ.1 - x_sz σ.1) (F0 m pc ls st0) rest (x_Post D cy a base σ r τ av) (va_A (x_W cy a σ) (base + σ.1.length)))
    (kk : ∀ (H1 : Heap) (locs1 : List Loc) (cells1 slots1 : Nat), x_ctx D cy a A s n0 w0 τ H1 locs1 cells1 slots1 → W p l e R s m args below meth c H1 locs1 cells1 slots1 Q (F0 m (pc + 3) ls ((r.map (x_tr a)).toList ++ rest))) : W p l e R s m args below meth c H locs cells slots Q (F0 m pc ls st0) := by
  obtain ⟨hP, hD, hS, e1, e2, e3⟩ := hc
  obtain ⟨p1, p2⟩ := x_pf_len hpf
  have hAA : ∀ q, va_A (x_W cy a σ) (base + σ.1.length) q → A q := by
    rintro q (⟨k, x, h⟩ | h)
    · exact hD.2 k _ h
    · exact hA q (by have := hS.1; omega)
  intro T hT X
  obtain ⟨v, st₀, t, T', Lo, h0, X', hL, g1, g2, ⟨⟨hv, hp, hd, hn⟩, hz, hk⟩, st⟩ := hr T hT X
  have hv : v = r.map (x_tr a) := by
    injection hv
  subst hv
  rw [h0] at hz hk
  obtain ⟨t2, a1, b1⟩ := kk T'.heap (locs ++ Lo) _ _ ⟨by rw [g1]; exact hp, hd.weaken (fun k q _ h => hAA q.1 h), ⟨Nat.le_trans hS.1 (by rw [g1]; exact hz), fun q h1 h2 => by
      rw [g1, hk q (Nat.lt_of_lt_of_le h1 hS.1) (fun z => h2 (hAA q z))]; exact hS.2.1 q h1 h2, fun q hq => by
      rcases List.mem_append.mp hq with h | h
      · exact hS.2.2 q h
      · exact hAA _ (hL q h)⟩, by omega, by omega, hn⟩ T' rfl X'
  exact ⟨t2, st t2 a1, b1⟩
theorem x_sub {H : Heap} {locs : List Loc} {cells slots : Nat} {σ : xS} (hsz : H.size = base + σ.1.length) (hA : ∀ q, s.heap.size ≤ q → A q) (hc : x_ctx D cy a A s n0 w0 σ H locs cells slots) : ∀ q, va_A (x_W cy a σ) (base + σ.1.length) q → A q := by
  obtain ⟨hP, hD, hS, e1, e2, e3⟩ := hc
  rintro q (⟨k, x, h⟩ | h)
  · exact hD.2 k _ h
  · exact hA q (by have := hS.1; omega)
/-- what a callee asks of its start -/
theorem x_pre {H : Heap} {locs : List Loc} {cells slots : Nat} {σ : xS} {av : List xV} (hK : va_K D x_cls (x_tys cy) s) (hSt : x_St a A s s.heap) (hsz : H.size = base + σ.1.length) (hA : ∀ q, s.heap.size ≤ q → A q) (hc : x_ctx D cy a A s n0 w0 σ H locs cells slots) : FrameBlind (x_Pre D cy a base σ av) ∧ ∀ U : State, U.heap = H → s.WarmedH U.vm → x_Pre D cy a base σ av (av.map (x_tr a)).toArray U := by
  have hAA := x_sub hsz hA hc
  obtain ⟨hP, hD, hS, e1, e2, e3⟩ := hc
  refine ⟨fun v U g mk q => ?_, fun U hU hW => ⟨rfl, by rw [hU]; exact hsz, e3, by rw [hU]; exact hP, va_K.moved hW.alike hK, hD.self, hSt.to hS hU hW hAA⟩⟩
  obtain ⟨q1, q2, q3, q4, q5, q6, q7⟩ := q
  exact ⟨q1, q2, q3, q4, va_K.moved (u := U) (U := U.calling g mk v) (Vm.Alike.refl U.vm) q5, q6, q7.calling g mk v⟩
theorem x_good_ws (j : Nat) (h : Cond.code (x_y j) (x_by j) (x_ml j) (x_rt j) ∈ x_Tb) : GoodIn x_Tb (x_ws j) := by
  have g : ∀ w ∈ x_Tb, w ∈ x_Tb ∧ ((w.onTables && w.keeps) = true ∨ ∃ ty, w = .arrayClass ty) := fun w hw => ⟨hw, good_of_word (List.mem_filter.mp hw).2⟩
  intro w hw
  rcases List.mem_cons.mp hw with rfl | hw
  · exact g _ h
  · exact g _ hw
end
