/-! the instructions, one by one -/
section
variable {p : Program} {l : Launch} {e : Env} {R : Room} {s : State} {m : MethodId} {args : Array Value} {below : List Frame} {meth : Method} {c : Code} {Q : State → Prop} {cc : ByteArray}
variable {D : va_G} {cy : Nat → ClassId} {a : Nat → Nat} {A : Nat → Prop} {n0 w0 nL base d : Nat} {own : String} {scr ini : Bool} {rt : Option FieldType}
/-- texts: length and charAt, as the walk meets them (proved in a later part) -/
def x_SL (p : Program) (l : Launch) (e : Env) (R : Room) (s : State) (m : MethodId) (args : Array Value) (below : List Frame) (meth : Method) (c : Code) (Q : State → Prop) (cc : ByteArray) (a : Nat → Nat) (A : Nat → Prop) (nL : Nat) (own : String) : Prop :=
  (∀ (H : Heap) (locs : List Loc) (cells slots pc i k : Nat) (ls : Array Slot) (rest : List Value), va_S A s.heap H locs → cells ≤ R.cells → slots ≤ R.slots → k < 13 → (rest.map fun v => v.category).sum ≤ 8 → ls.size = nL → decode cc pc = .ok (.invokevirtual i, 3) → (Cond.methodLink own i yJ0_length_8abf5).before args s = true → W p l e R s m args below meth c H locs cells slots Q (F0 m (pc + 3) ls (.int (Int32.ofNat (x_TX (1000 + k)).length) :: rest)) → W p l e R s m args below meth c H locs cells slots Q (F0 m pc ls (.ref (a (1000 + k)) :: rest))) ∧
  ∀ (H : Heap) (locs : List Loc) (cells slots pc i k : Nat) (x : Int32) (ls : Array Slot) (rest : List Value), va_S A s.heap H locs → cells ≤ R.cells → slots ≤ R.slots → k < 13 → vp_in x (x_TX (1000 + k)).length → (rest.map fun v => v.category).sum ≤ 8 → ls.size = nL → decode cc pc = .ok (.invokevirtual i, 3) → (Cond.methodLink own i yJ0_charAt_5068e).before args s = true → W p l e R s m args below meth c H locs cells slots Q (F0 m (pc + 3) ls (.int ((x_TX (1000 + k)).getD x.toNatClampNeg 0) :: rest)) → W p l e R s m args below meth c H locs cells slots Q (F0 m pc ls (.int x :: .ref (a (1000 + k)) :: rest))
/-- a return, with its value, into the goal -/
def x_Ret (p : Program) (l : Launch) (e : Env) (R : Room) (s : State) (m : MethodId) (args : Array Value) (below : List Frame) (meth : Method) (c : Code) (Q : State → Prop) (cc : ByteArray) (D : va_G) (cy : Nat → ClassId) (a : Nat → Nat) (A : Nat → Prop) (n0 w0 : Nat) (rt : Option FieldType) (rr : xR) : Prop :=
  ∀ (H : Heap) (locs : List Loc) (cells slots pc : Nat) (ls : Array Slot), x_ctx D cy a A s n0 w0 rr.2 H locs cells slots →
    ((∃ x : Int32, rr.1 = some (.inl x) ∧ decode cc pc = .ok (.ireturn, 1) ∧ (rt = some .int ∨ (rt = some .boolean ∧ (x = 0 ∨ x = 1)))) ∨ (∃ x : Int64, rr.1 = some (.inr (.inl x)) ∧ decode cc pc = .ok (.lreturn, 1) ∧ rt = some .long) ∨ (∃ (q : Option Nat) (n : String), rr.1 = some (.inr (.inr q)) ∧ decode cc pc = .ok (.areturn, 1) ∧ rt = some (.object n)) ∨ (rr.1 = none ∧ decode cc pc = .ok (.return_, 1) ∧ rt = none)) →
    W p l e R s m args below meth c H locs cells slots Q (F0 m pc ls ((rr.1.map (x_tr a)).toList))
set_option maxHeartbeats 8000000 in
theorem x_call_W {O : Nat → List xV → xS → Option xR} (hOm : ∀ j av σ, x_M σ (O j av σ)) (hO : ∀ j av σ r τ, j < 226 → O j av σ = some (r, τ) → x_Met l D cy a base d j av σ r τ)
    (F : x_fix p R s m args meth c cc D cy a A n0 nL base d own ini) {rr : xR} (hrm : rr.2.1.length ≤ n0 + R.cells ∧ x_sz rr.2.1 ≤ w0 + R.slots) {pc t : Nat} {L : xL} {S av S' : List xV} {σ : xS} {H : Heap} {locs : List Loc} {cells slots : Nat} {ls : Array Slot} {K : xF} {v u : Nat} (ht : t < 226) (hKm : ∀ L S τ, x_M τ (K L S τ))
    (hgood : x_good p l e R s m args below meth c Q D cy a A n0 w0 nL rr K (pc + 3)) (hc : x_ctx D cy a A s n0 w0 σ H locs cells slots) (hl : lv_has ls nL (x_lv a 0 L)) (hpop : x_pop u S [] = some (av, S')) (h : x_call (O t av σ) v K L S' = some rr)
    (hrun : ∀ (r : Option xV) (τ : xS), x_Met l D cy a base d t av σ r τ → x_cs S' ≤ 8 → H.size = base + σ.1.length → cells + (τ.1.length - σ.1.length) ≤ R.cells ∧ slots + (x_sz τ.1 - x_sz σ.1) ≤ R.slots → va_Run p l e R s m args below meth c H locs cells slots (τ.1.length - σ.1.length) (x_sz τ.1 - x_sz σ.1) (F0 m pc ls (S.map (x_tr a))) (S'.map (x_tr a)) (x_Post D cy a base σ r τ (av.map (x_tr a)).toArray) (va_A (x_W cy a σ) (base + σ.1.length))) :
    W p l e R s m args below meth c H locs cells slots Q (F0 m pc ls (S.map (x_tr a))) := by
  obtain ⟨h8, r, τ, ho, hk⟩ := x_call_some h
  have hpf : x_pf σ τ := hOm t av σ _ ho
  have hpf2 : x_pf τ rr.2 := hKm L _ τ _ hk
  obtain ⟨p1, p2⟩ := x_pf_len hpf
  obtain ⟨p3, p4⟩ := x_pf_len hpf2
  have hA : ∀ q, s.heap.size ≤ q → A q := F.2.2.2.2.2.2.2.2.2.2.1
  refine x_here F hc fun hsz => ?_
  have hc' := hc
  obtain ⟨-, -, -, e1, e2, -⟩ := hc'
  refine x_back hsz hA hc hpf (hrun r τ (hO t av σ r τ ht ho) h8 hsz ⟨by omega, by omega⟩) fun H1 locs1 cells1 slots1 hc1 => ?_
  have hg := hgood L _ τ H1 locs1 cells1 slots1 ls hk hc1 hl
  have e : (r.map (x_tr a)).toList ++ S'.map (x_tr a) = (r.toList ++ S').map (x_tr a) := by
    cases r <;> simp
  rw [e]
  exact hg
set_option maxHeartbeats 16000000 in
set_option maxRecDepth 10000 in
theorem x_i_sound (hCF : ∀ t, t < 11 → x_clsok t) {O : Nat → List xV → xS → Option xR} (hOm : ∀ j av σ, x_M σ (O j av σ)) (hO : ∀ j av σ r τ, j < 226 → O j av σ = some (r, τ) → x_Met l D cy a base d j av σ r τ)
    (F : x_fix p R s m args meth c cc D cy a A n0 nL base d own ini) {rr : xR} (hrm : rr.2.1.length ≤ n0 + R.cells ∧ x_sz rr.2.1 ≤ w0 + R.slots) (hSL : x_SL p l e R s m args below meth c Q cc a A nL own) (hRet : x_Ret p l e R s m args below meth c Q cc D cy a A n0 w0 rt rr)
    {X : Nat × (Nat → Int32)}
    (hXl : scr = true → ∀ (H : Heap) (locs : List Loc) (cells slots pc : Nat) (i : Int32) (ls : Array Slot) (rest : List Value), va_S A s.heap H locs → vp_in i X.1 → decode cc pc = .ok (.iaload, 1) → W p l e R s m args below meth c H locs cells slots Q (F0 m (pc + 1) ls (.int (X.2 i.toNatClampNeg) :: rest)) → W p l e R s m args below meth c H locs cells slots Q (F0 m pc ls (.int i :: .ref (a 2000) :: rest)))
    (hXn : scr = true → ∀ (H : Heap) (locs : List Loc) (cells slots pc : Nat) (ls : Array Slot) (rest : List Value), va_S A s.heap H locs → decode cc pc = .ok (.arraylength, 1) → W p l e R s m args below meth c H locs cells slots Q (F0 m (pc + 1) ls (.int (Int32.ofNat X.1) :: rest)) → W p l e R s m args below meth c H locs cells slots Q (F0 m pc ls (.ref (a 2000) :: rest)))
    {C : List xRow} {k : Nat → xF} {bf : List xRow → xF} {r : List xRow} {pc : Nat} {ins : Instr} {len : Nat} {sw : List (Int32 × Nat)} {t u v w z : Nat} {L : xL} {S : List xV} {σ : xS} {H : Heap} {locs : List Loc} {cells slots : Nat} {ls : Array Slot}
    (hkm : ∀ pc L S σ, x_M σ (k pc L S σ)) (hbm : ∀ r L S σ, x_M σ (bf r L S σ))
    (hd : decode cc pc = .ok (ins, len)) (hok : x_iok own scr ini rt pc ins len sw t u v w z) (hJ : ∀ t, x_good p l e R s m args below meth c Q D cy a A n0 w0 nL rr (x_go k bf (x_suf C t)) t) (hN : x_good p l e R s m args below meth c Q D cy a A n0 w0 nL rr (x_go k bf r) (pc + len))
    (h : x_i O X x_TX C k bf ins sw t u v w z r L S σ = some rr) (hc : x_ctx D cy a A s n0 w0 σ H locs cells slots) (hl : lv_has ls nL (x_lv a 0 L)) : W p l e R s m args below meth c H locs cells slots Q (F0 m pc ls (S.map (x_tr a))) := by
  have hgm : ∀ r L S σ, x_M σ (x_go k bf r L S σ) := fun r L S σ => x_M_go hkm hbm r L S σ
  obtain ⟨hx, hb, hml, hown, hts, hini, hK, hSt, hs0, ha, hA, hRf, hRl⟩ := id F
  cases ins
  case goto off =>
    obtain ⟨rfl, ht⟩ := hok
    exact lv_goto hx hb hd ht (hJ t _ _ _ _ _ _ _ ls h hc hl)
  case ifCond cnd off =>
    obtain ⟨rfl, ht⟩ := hok
    rcases S with _ | ⟨x | x, S⟩ <;> try cases h
    cases cnd
    case ne =>
      refine lv_if_ne hx hb hd ht (fun g => ?_) (fun g => ?_)
      · exact hJ t _ _ _ _ _ _ _ ls ((if_neg g).symm.trans h) hc hl
      · exact hN _ _ _ _ _ _ _ ls ((if_pos g).symm.trans h) hc hl
    case eq =>
      refine lv_if_eq hx hb hd ht (fun g => ?_) (fun g => ?_)
      · exact hJ t _ _ _ _ _ _ _ ls ((if_pos g).symm.trans h) hc hl
      · exact hN _ _ _ _ _ _ _ ls ((if_neg g).symm.trans h) hc hl
    case lt =>
      refine lv_if_lt hx hb hd ht (fun g => ?_) (fun g => ?_)
      · exact hJ t _ _ _ _ _ _ _ ls ((if_pos g).symm.trans h) hc hl
      · exact hN _ _ _ _ _ _ _ ls ((if_neg g).symm.trans h) hc hl
    case ge =>
      refine lv_if_ge hx hb hd ht (fun g => ?_) (fun g => ?_)
      · exact hJ t _ _ _ _ _ _ _ ls ((if_pos g).symm.trans h) hc hl
      · exact hN _ _ _ _ _ _ _ ls ((if_neg g).symm.trans h) hc hl
    case gt =>
      refine lv_if_gt hx hb hd ht (fun g => ?_) (fun g => ?_)
      · exact hJ t _ _ _ _ _ _ _ ls ((if_pos g).symm.trans h) hc hl
      · exact hN _ _ _ _ _ _ _ ls ((if_neg g).symm.trans h) hc hl
    case le =>
      refine lv_if_le hx hb hd ht (fun g => ?_) (fun g => ?_)
      · exact hJ t _ _ _ _ _ _ _ ls ((if_pos g).symm.trans h) hc hl
      · exact hN _ _ _ _ _ _ _ ls ((if_neg g).symm.trans h) hc hl
  case if_icmp cnd off =>
    obtain ⟨rfl, ht⟩ := hok
    rcases S with _ | ⟨y | y, _ | ⟨x | x, S⟩⟩ <;> try cases h
    cases cnd
    case ne =>
      refine lv_icmp_ne hx hb hd ht (fun g => ?_) (fun g => ?_)
      · exact hJ t _ _ _ _ _ _ _ ls ((if_neg g).symm.trans h) hc hl
      · exact hN _ _ _ _ _ _ _ ls ((if_pos g).symm.trans h) hc hl
    case eq =>
      refine lv_icmp_eq hx hb hd ht (fun g => ?_) (fun g => ?_)
      · exact hJ t _ _ _ _ _ _ _ ls ((if_pos g).symm.trans h) hc hl
      · exact hN _ _ _ _ _ _ _ ls ((if_neg g).symm.trans h) hc hl
    case lt =>
      refine lv_icmp_lt hx hb hd ht (fun g => ?_) (fun g => ?_)
      · exact hJ t _ _ _ _ _ _ _ ls ((if_pos g).symm.trans h) hc hl
      · exact hN _ _ _ _ _ _ _ ls ((if_neg g).symm.trans h) hc hl
    case ge =>
      refine lv_icmp_ge hx hb hd ht (fun g => ?_) (fun g => ?_)
      · exact hJ t _ _ _ _ _ _ _ ls ((if_pos g).symm.trans h) hc hl
      · exact hN _ _ _ _ _ _ _ ls ((if_neg g).symm.trans h) hc hl
    case gt =>
      refine lv_icmp_gt hx hb hd ht (fun g => ?_) (fun g => ?_)
      · exact hJ t _ _ _ _ _ _ _ ls ((if_pos g).symm.trans h) hc hl
      · exact hN _ _ _ _ _ _ _ ls ((if_neg g).symm.trans h) hc hl
    case le =>
      refine lv_icmp_le hx hb hd ht (fun g => ?_) (fun g => ?_)
      · exact hJ t _ _ _ _ _ _ _ ls ((if_pos g).symm.trans h) hc hl
      · exact hN _ _ _ _ _ _ _ ls ((if_neg g).symm.trans h) hc hl
  case ifnull off =>
    obtain ⟨rfl, ht⟩ := hok
    rcases S with _ | ⟨x | x | q, S⟩ <;> try cases h
    cases q with
    | none => exact lv_ifnullN hx hb hd ht (hJ t _ _ _ _ _ _ _ ls h hc hl)
    | some q => exact lv_ifnull hx hb hd (hN _ _ _ _ _ _ _ ls h hc hl)
  case ifnonnull off =>
    obtain ⟨rfl, ht⟩ := hok
    rcases S with _ | ⟨x | x | q, S⟩ <;> try cases h
    cases q with
    | none => exact lv_ifnonnullN hx hb hd (hN _ _ _ _ _ _ _ ls h hc hl)
    | some q => exact lv_ifnonnull hx hb hd ht (hJ t _ _ _ _ _ _ _ ls h hc hl)
  case tableswitch df lo hi offs =>
    obtain ⟨ht, hsz, hsw⟩ := hok
    rcases S with _ | ⟨x | x, S⟩ <;> try cases h
    rcases x_sw_some h with ⟨i, t', h1, h2⟩ | ⟨h1, h2⟩
    · obtain ⟨g1, off, g2, g3⟩ := hsw i x t' h1
      have hi' := (List.getElem?_eq_some_iff.mp h1).1
      refine lv_tableIn hx hb hd (by omega) (by omega) (off := off) ?_ g3 (hJ t' _ _ _ _ _ _ _ ls h2 hc hl)
      rw [show (x.toInt - lo).toNat = i by omega]
      exact g2
    · refine lv_tableOut hx hb hd ?_ ht (hJ t _ _ _ _ _ _ _ ls h2 hc hl)
      by_cases g1 : x.toInt < lo
      · exact Or.inl g1
      · refine Or.inr ?_
        by_cases g2 : hi < x.toInt
        · exact g2
        · exfalso
          have hlt : (x.toInt - lo).toNat < sw.length := by omega
          obtain ⟨⟨c0, t0⟩, hq⟩ : ∃ q, sw[(x.toInt - lo).toNat]? = some q := ⟨_, List.getElem?_eq_getElem hlt⟩
          obtain ⟨g3, -⟩ := hsw _ c0 t0 hq
          exact h1 _ _ _ hq (Int32.toInt_inj.mp (by omega))
  case idiv =>
    obtain rfl : len = 1 := hok
    rcases S with _ | ⟨y | y, _ | ⟨x | x, S⟩⟩ <;> try cases h
    have h : (if y = 0 then none else x_go k bf r L (.inl (x / y) :: S) σ) = some rr := h
    by_cases g : y = 0
    · rw [if_pos g] at h; cases h
    · rw [if_neg g] at h
      exact lv_idiv hx hb hd g (hN _ _ _ _ _ _ _ ls h hc hl)
  case irem =>
    obtain rfl : len = 1 := hok
    rcases S with _ | ⟨y | y, _ | ⟨x | x, S⟩⟩ <;> try cases h
    have h : (if y = 0 then none else x_go k bf r L (.inl (x - x / y * y) :: S) σ) = some rr := h
    by_cases g : y = 0
    · rw [if_pos g] at h; cases h
    · rw [if_neg g] at h
      exact lv_irem hx hb hd g (hN _ _ _ _ _ _ _ ls h hc hl)
  case ldiv =>
    obtain rfl : len = 1 := hok
    rcases S with _ | ⟨y | y | y, _ | ⟨x | x | x, S⟩⟩ <;> try cases h
    have h : (if y = 0 then none else x_go k bf r L (.inr (.inl (x / y)) :: S) σ) = some rr := h
    by_cases g : y = 0
    · rw [if_pos g] at h; cases h
    · rw [if_neg g] at h
      exact lv_ldiv hx hb hd g (hN _ _ _ _ _ _ _ ls h hc hl)
  case lrem =>
    obtain rfl : len = 1 := hok
    rcases S with _ | ⟨y | y | y, _ | ⟨x | x | x, S⟩⟩ <;> try cases h
    have h : (if y = 0 then none else x_go k bf r L (.inr (.inl (x - x / y * y)) :: S) σ) = some rr := h
    by_cases g : y = 0
    · rw [if_pos g] at h; cases h
    · rw [if_neg g] at h
      exact lv_lrem hx hb hd g (hN _ _ _ _ _ _ _ ls h hc hl)
  case getfield i =>
    obtain ⟨rfl, ht, hu, hv, hw⟩ := hok
    rcases S with _ | ⟨x | x | q, S⟩ <;> try cases h
    cases q with
    | none => cases h
    | some q =>
      obtain ⟨hk, h⟩ := x_ck_some (show x_ck σ q t (x_go k bf r L (x_fg σ q u v :: S) σ) = some rr from h)
      have hg := hN _ _ _ _ _ _ _ ls h hc hl
      obtain ⟨hP, hD, hS, e1, e2, e3⟩ := hc
      obtain ⟨g1, g2, g3, g4, g5, g6⟩ := hCF t ht
      rw [List.map_cons, x_tr_fg, ← hv] at hg
      exact va_get (D := D) hx hb hts g2 hown hK hP q (x_W_obj hk ht) g1 u hu (hts _ hw) (fun x h9 => by rw [g5 u hu] at h9; exact h9) (x_fs_get hu) hd hg
  case putfield i =>
    obtain ⟨rfl, ⟨ht, hu, hv, hw⟩, hfn⟩ := hok
    obtain ⟨g1, g2, g3, g4, g5, g6⟩ := hCF t ht
    obtain ⟨c1, c2, c3, c4⟩ := x_code_def (g6 u hu)
    have key : ∀ (q : Nat) (val : Value) (τ : xS) (S : List xV), (x_nth σ.1 q).1 = t → τ.1 = σ.1 → narrow (x_tyf t u) val = val → fits (x_tyf t u) val = true → (∀ j, j ≠ q → (∀ w, x_I τ j w = x_I σ j w) ∧ (∀ w, x_J τ j w = x_J σ j w) ∧ ∀ w, x_Q τ j w = x_Q σ j w) → x_fv a τ q (x_code (x_tyf t u)) u = val → (∀ j, j ≠ u → ∀ c, x_fv a τ q c j = x_fv a σ q c j) → x_go k bf r L S τ = some rr → W p l e R s m args below meth c H locs cells slots Q (F0 m pc ls (val :: .ref (a q) :: S.map (x_tr a))) := by
      intro q val τ S hk h1 hn hf ho hv2 hw2 h
      have hW := x_W_fs (cy := cy) h1 hk ht hu ho hv2 hw2
      obtain ⟨hP, hD, hS, e1, e2, e3⟩ := hc
      by_cases hfin : (x_ct t u).2.2.2 = true
      · obtain ⟨i1, i2⟩ := hfn hfin
        refine va_putF (D := D) hx hb hts g2 (x_tyf t) g3 g4 hown hK hP hD hS q (x_W_obj hk ht) g1 u hu (hts _ hw) (fun x h9 => by rw [g5 u hu] at h9; exact h9) hfin (hini i1) ((g5 u hu).trans i2.symm) (g3 u hu) hn hf (by rw [x_fs_len]; exact hu) hd fun H1 locs1 hP1 hD1 hS1 => ?_
        rw [hW] at hP1 hD1
        exact hN _ _ _ _ _ _ _ ls h ⟨hP1, hD1, hS1, by rw [h1]; exact e1, by rw [h1]; exact e2, by rw [h1]; exact e3⟩ hl
      · refine va_put (D := D) hx hb hts g2 (x_tyf t) g3 g4 hown hK hP hD hS q (x_W_obj hk ht) g1 u hu (hts _ hw) (fun x h9 => by rw [g5 u hu] at h9; exact h9) (by cases hz : (x_ct t u).2.2.2 <;> simp_all) (g3 u hu) hn hf (by rw [x_fs_len]; exact hu) hd fun H1 locs1 hP1 hD1 hS1 => ?_
        rw [hW] at hP1 hD1
        exact hN _ _ _ _ _ _ _ ls h ⟨hP1, hD1, hS1, by rw [h1]; exact e1, by rw [h1]; exact e2, by rw [h1]; exact e3⟩ hl
    have fI : ∀ (q : Nat) (x : Int32), (v = 0 ∨ v = 3) → x_fv a (x_si σ q u x) q (x_code (x_tyf t u)) u = .int x := by
      intro q x h03
      rw [hv]
      rcases h03 with rfl | rfl <;> (show Value.int (x_I (x_si σ q u x) q u) = _; rw [x_I_si, if_pos ⟨rfl, rfl⟩])
    have oI : ∀ (q : Nat) (x : Int32), ∀ j, j ≠ u → ∀ c, x_fv a (x_si σ q u x) q c j = x_fv a σ q c j := by
      intro q x j hj c
      match c with
      | 0 => show Value.int (x_I (x_si σ q u x) q j) = .int (x_I σ q j); rw [x_I_si, if_neg (fun z => hj z.2)]
      | 1 => rfl
      | 2 => rfl
      | c + 3 => show Value.int (x_I (x_si σ q u x) q j) = .int (x_I σ q j); rw [x_I_si, if_neg (fun z => hj z.2)]
    rcases S with _ | ⟨y | y | y, _ | ⟨x | x | q, S⟩⟩ <;> try cases h
    · cases q with
      | none => cases h
      | some q =>
        rcases v with _ | _ | _ | _ | v
        · obtain ⟨hk, h⟩ := x_ck_some (show x_ck σ q t (x_go k bf r L S (x_si σ q u y)) = some rr from h)
          exact key q (.int y) (x_si σ q u y) S hk rfl (by rw [c3 hv]; rfl) (by rw [c3 hv]; rfl) (x_o_si σ q u y) (fI q y (Or.inl rfl)) (oI q y) h
        · obtain ⟨hk, h⟩ := x_ck_some (show x_ck σ q t none = some rr from h)
          cases h
        · obtain ⟨hk, h⟩ := x_ck_some (show x_ck σ q t none = some rr from h)
          cases h
        · obtain ⟨hk, h⟩ := x_ck_some (show x_ck σ q t (x_bl y (x_go k bf r L S (x_si σ q u y))) = some rr from h)
          obtain ⟨hb2, h⟩ := x_bl_some h
          exact key q (.int y) (x_si σ q u y) S hk rfl (by rw [c4 hv]; rcases hb2 with rfl | rfl <;> rfl) (by rw [c4 hv]; rcases hb2 with rfl | rfl <;> rfl) (x_o_si σ q u y) (fI q y (Or.inr rfl)) (oI q y) h
        · obtain ⟨hk, h⟩ := x_ck_some (show x_ck σ q t none = some rr from h)
          cases h
    · cases q with
      | none => cases h
      | some q =>
        rcases v with _ | _ | v
        · obtain ⟨hk, h⟩ := x_ck_some (show x_ck σ q t none = some rr from h)
          cases h
        · obtain ⟨hk, h⟩ := x_ck_some (show x_ck σ q t (x_go k bf r L S (x_sl σ q u y)) = some rr from h)
          refine key q (.long y) (x_sl σ q u y) S hk rfl (by rw [c1 hv]; rfl) (by rw [c1 hv]; rfl) (x_o_sl σ q u y) ?_ ?_ h
          · rw [hv]
            show Value.long (x_J (x_sl σ q u y) q u) = _
            rw [x_J_sl, if_pos ⟨rfl, rfl⟩]
          · intro j hj c
            match c with
            | 0 => rfl
            | 1 => show Value.long (x_J (x_sl σ q u y) q j) = .long (x_J σ q j); rw [x_J_sl, if_neg (fun z => hj z.2)]
            | 2 => rfl
            | c + 3 => rfl
        · obtain ⟨hk, h⟩ := x_ck_some (show x_ck σ q t none = some rr from h)
          cases h
    · cases q with
      | none => cases h
      | some q =>
        rcases v with _ | _ | _ | v
        · obtain ⟨hk, h⟩ := x_ck_some (show x_ck σ q t none = some rr from h)
          cases h
        · obtain ⟨hk, h⟩ := x_ck_some (show x_ck σ q t none = some rr from h)
          cases h
        · obtain ⟨hk, h⟩ := x_ck_some (show x_ck σ q t (x_go k bf r L S (x_sr σ q u y)) = some rr from h)
          refine key q (x_tr a (.inr (.inr y))) (x_sr σ q u y) S hk rfl ?_ ?_ (x_o_sr σ q u y) ?_ ?_ h
          · rcases c2 hv with ⟨n, hn⟩ | ⟨n, hn⟩ <;> rw [hn] <;> cases y <;> rfl
          · rcases c2 hv with ⟨n, hn⟩ | ⟨n, hn⟩ <;> rw [hn] <;> cases y <;> rfl
          · rw [hv]
            show va_rf ((x_Q (x_sr σ q u y) q u).map a) = _
            rw [x_Q_sr, if_pos ⟨rfl, rfl⟩]; rfl
          · intro j hj c
            match c with
            | 0 => rfl
            | 1 => rfl
            | 2 => show va_rf ((x_Q (x_sr σ q u y) q j).map a) = va_rf ((x_Q σ q j).map a); rw [x_Q_sr, if_neg (fun z => hj z.2)]
            | c + 3 => rfl
        · obtain ⟨hk, h⟩ := x_ck_some (show x_ck σ q t none = some rr from h)
          cases h
  case iaload =>
    obtain ⟨rfl, hsc⟩ := hok
    rcases S with _ | ⟨i | i | i, _ | ⟨x | x | q, S⟩⟩ <;> try cases h
    cases q with
    | none => cases h
    | some q =>
      have kk : x_ak σ q 11 (fun n => x_ix i n (x_go k bf r L (.inl (x_I σ q i.toNatClampNeg) :: S) σ)) = some rr → W p l e R s m args below meth c H locs cells slots Q (F0 m pc ls (.int i :: .ref (a q) :: S.map (x_tr a))) := by
        intro h
        obtain ⟨hk, h⟩ := x_ak_some h
        obtain ⟨hi, h⟩ := x_ix_some h
        have hg := hN _ _ _ _ _ _ _ ls h hc hl
        obtain ⟨hP, hD, hS, e1, e2, e3⟩ := hc
        exact va_iald (D := D) hx hb hK hP q 0 (x_W_arr hk (by omega) (by omega)) rfl hi hd hg
      rcases v with _ | _ | v
      · exact kk h
      · obtain ⟨h1, h⟩ := x_b_some (show (bif Nat.beq q 2000 then x_ix i X.1 (x_go k bf r L (.inl (X.2 i.toNatClampNeg) :: S) σ) else none) = some rr from h)
        obtain ⟨hi, h2⟩ := x_ix_some h
        have hq : q = 2000 := Nat.eq_of_beq_eq_true h1
        subst hq
        exact hXl (hsc rfl) H locs cells slots pc i ls (S.map (x_tr a)) hc.2.2.1 hi hd (hN _ _ _ _ _ _ _ ls h2 hc hl)
      · exact kk h
  case laload =>
    obtain rfl : len = 1 := hok
    rcases S with _ | ⟨i | i | i, _ | ⟨x | x | q, S⟩⟩ <;> try cases h
    cases q with
    | none => cases h
    | some q =>
      obtain ⟨hk, h⟩ := x_ak_some (show x_ak σ q 12 (fun n => x_ix i n (x_go k bf r L (.inr (.inl (x_J σ q i.toNatClampNeg)) :: S) σ)) = some rr from h)
      obtain ⟨hi, h⟩ := x_ix_some h
      have hg := hN _ _ _ _ _ _ _ ls h hc hl
      obtain ⟨hP, hD, hS, e1, e2, e3⟩ := hc
      exact va_lald (D := D) hx hb hK hP q 1 (x_W_arr hk (by omega) (by omega)) rfl hi hd hg
  case aaload =>
    obtain rfl : len = 1 := hok
    rcases S with _ | ⟨i | i | i, _ | ⟨x | x | q, S⟩⟩ <;> try cases h
    cases q with
    | none => cases h
    | some q =>
      obtain ⟨cc2, hk, h3, h⟩ := x_aq_some (show x_aq σ q (fun n => x_ix i n (x_go k bf r L (.inr (.inr (x_Q σ q i.toNatClampNeg)) :: S) σ)) = some rr from h)
      obtain ⟨hi, h⟩ := x_ix_some h
      have hg := hN _ _ _ _ _ _ _ ls h hc hl
      obtain ⟨hP, hD, hS, e1, e2, e3⟩ := hc
      rcases h3 with rfl | rfl | rfl
      · exact va_aldq (D := D) hx hb hK hP q 2 (x_W_arr hk (by omega) (by omega)) rfl hi hd hg
      · exact va_aldq (D := D) hx hb hK hP q 3 (x_W_arr hk (by omega) (by omega)) rfl hi hd hg
      · exact va_aldq (D := D) hx hb hK hP q 4 (x_W_arr hk (by omega) (by omega)) rfl hi hd hg
  case iastore =>
    obtain rfl : len = 1 := hok
    rcases S with _ | ⟨x | x | x, _ | ⟨i | i | i, _ | ⟨z | z | q, S⟩⟩⟩ <;> try cases h
    cases q with
    | none => cases h
    | some q =>
      obtain ⟨hk, h⟩ := x_ak_some (show x_ak σ q 11 (fun n => x_ix i n (x_go k bf r L S (x_si σ q i.toNatClampNeg x))) = some rr from h)
      obtain ⟨hi, h⟩ := x_ix_some h
      obtain ⟨hP, hD, hS, e1, e2, e3⟩ := hc
      refine va_iast (D := D) hx hb hK hP hD hS q 0 (x_W_arr hk (by omega) (by omega)) rfl hi hd fun H1 locs1 hP1 hD1 hS1 => ?_
      have hW := x_W_ar (cy := cy) (a := a) (σ := σ) (τ := x_si σ q i.toNatClampNeg x) (f := .inl (upd (fun j => x_I σ q j) i.toNatClampNeg x)) rfl hk (by omega) (by omega) (x_o_si σ q _ x) (by
        show Sum.inl (fun j => x_I (x_si σ q i.toNatClampNeg x) q j) = _
        refine congrArg Sum.inl (funext fun j => ?_)
        rw [x_I_si]
        simp [upd])
      rw [hW] at hP1 hD1
      exact hN _ _ _ _ _ _ _ ls h ⟨hP1, hD1, hS1, e1, e2, e3⟩ hl
  case lastore =>
    obtain rfl : len = 1 := hok
    rcases S with _ | ⟨x | x | x, _ | ⟨i | i | i, _ | ⟨z | z | q, S⟩⟩⟩ <;> try cases h
    cases q with
    | none => cases h
    | some q =>
      obtain ⟨hk, h⟩ := x_ak_some (show x_ak σ q 12 (fun n => x_ix i n (x_go k bf r L S (x_sl σ q i.toNatClampNeg x))) = some rr from h)
      obtain ⟨hi, h⟩ := x_ix_some h
      obtain ⟨hP, hD, hS, e1, e2, e3⟩ := hc
      refine va_last (D := D) hx hb hK hP hD hS q 1 (x_W_arr hk (by omega) (by omega)) rfl hi hd fun H1 locs1 hP1 hD1 hS1 => ?_
      have hW := x_W_ar (cy := cy) (a := a) (σ := σ) (τ := x_sl σ q i.toNatClampNeg x) (f := .inr (.inl (vp_updL (fun j => x_J σ q j) i.toNatClampNeg x))) rfl hk (by omega) (by omega) (x_o_sl σ q _ x) (by
        show Sum.inr (Sum.inl (fun j => x_J (x_sl σ q i.toNatClampNeg x) q j)) = _
        refine congrArg (fun g => Sum.inr (Sum.inl g)) (funext fun j => ?_)
        rw [x_J_sl]
        simp [vp_updL])
      rw [hW] at hP1 hD1
      exact hN _ _ _ _ _ _ _ ls h ⟨hP1, hD1, hS1, e1, e2, e3⟩ hl
  case aastore =>
    obtain rfl : len = 1 := hok
    rcases S with _ | ⟨x | x | y, _ | ⟨i | i | i, _ | ⟨z | z | q, S⟩⟩⟩ <;> try cases h
    cases q with
    | none => cases h
    | some q =>
      obtain ⟨cc2, hk, h3, h⟩ := x_aq_some (show x_aq σ q (fun n => x_ix i n (x_der y fun b => x_ck σ b (x_ec (x_nth σ.1 q).1) (x_go k bf r L S (x_sr σ q i.toNatClampNeg (some b))))) = some rr from h)
      obtain ⟨hi, h⟩ := x_ix_some h
      cases y with
      | none => cases h
      | some y =>
        obtain ⟨hk2, h⟩ := x_ck_some (show x_ck σ y (x_ec (x_nth σ.1 q).1) (x_go k bf r L S (x_sr σ q i.toNatClampNeg (some y))) = some rr from h)
        have hW := x_W_ar (cy := cy) (a := a) (σ := σ) (τ := x_sr σ q i.toNatClampNeg (some y)) (f := .inr (.inr (.inr (.inr (va_up (fun j => (x_Q σ q j).map a) i.toNatClampNeg (some (a y))))))) rfl hk (by omega) (by omega) (x_o_sr σ q _ (some y)) (by
          have e : (fun j => (x_Q (x_sr σ q i.toNatClampNeg (some y)) q j).map a) = va_up (fun j => (x_Q σ q j).map a) i.toNatClampNeg (some (a y)) := by
            funext j
            rw [x_Q_sr]
            by_cases hj : j = i.toNatClampNeg
            · simp [va_up, hj]
            · simp [va_up, hj]
          rcases h3 with rfl | rfl | rfl <;> exact congrArg (fun g => Sum.inr (Sum.inr (Sum.inr (Sum.inr g)))) e)
        rw [hk] at hk2
        obtain ⟨hP, hD, hS, e1, e2, e3⟩ := hc
        rcases h3 with rfl | rfl | rfl
        · refine va_astq (D := D) hx hb hK hP hD hS q 2 y 2 (r := (RX2, TX2, 8)) (x_W_arr hk (by omega) (by omega)) rfl (x_W_obj hk2 (by decide)) rfl hi hd fun H1 locs1 hP1 hD1 hS1 => ?_
          rw [hW] at hP1 hD1
          exact hN _ _ _ _ _ _ _ ls h ⟨hP1, hD1, hS1, e1, e2, e3⟩ hl
        · refine va_astq (D := D) hx hb hK hP hD hS q 3 y 5 (r := (RX5, TX5, 3)) (x_W_arr hk (by omega) (by omega)) rfl (x_W_obj hk2 (by decide)) rfl hi hd fun H1 locs1 hP1 hD1 hS1 => ?_
          rw [hW] at hP1 hD1
          exact hN _ _ _ _ _ _ _ ls h ⟨hP1, hD1, hS1, e1, e2, e3⟩ hl
        · refine va_astq (D := D) hx hb hK hP hD hS q 4 y 7 (r := (RX7, TX7, 5)) (x_W_arr hk (by omega) (by omega)) rfl (x_W_obj hk2 (by decide)) rfl hi hd fun H1 locs1 hP1 hD1 hS1 => ?_
          rw [hW] at hP1 hD1
          exact hN _ _ _ _ _ _ _ ls h ⟨hP1, hD1, hS1, e1, e2, e3⟩ hl
  case arraylength =>
    obtain ⟨rfl, hsc⟩ := hok
    rcases S with _ | ⟨x | x | q, S⟩ <;> try cases h
    cases q with
    | none => cases h
    | some q =>
      have kk : x_aa σ q (fun n => x_go k bf r L (.inl (Int32.ofNat n) :: S) σ) = some rr → W p l e R s m args below meth c H locs cells slots Q (F0 m pc ls (.ref (a q) :: S.map (x_tr a))) := by
        intro h
        obtain ⟨cc2, hk, h3, h⟩ := x_aa_some h
        have hg := hN _ _ _ _ _ _ _ ls h hc hl
        obtain ⟨hP, hD, hS, e1, e2, e3⟩ := hc
        rcases h3 with rfl | rfl | rfl | rfl | rfl
        · exact va_alen (D := D) hx hb hK hP q 0 (x_W_arr hk (by omega) (by omega)) rfl rfl hd hg
        · exact va_alen (D := D) hx hb hK hP q 1 (x_W_arr hk (by omega) (by omega)) rfl rfl hd hg
        · exact va_alen (D := D) hx hb hK hP q 2 (x_W_arr hk (by omega) (by omega)) rfl rfl hd hg
        · exact va_alen (D := D) hx hb hK hP q 3 (x_W_arr hk (by omega) (by omega)) rfl rfl hd hg
        · exact va_alen (D := D) hx hb hK hP q 4 (x_W_arr hk (by omega) (by omega)) rfl rfl hd hg
      rcases v with _ | _ | v
      · exact kk h
      · obtain ⟨h1, h2⟩ := x_b_some (show (bif Nat.beq q 2000 then x_go k bf r L (.inl (Int32.ofNat X.1) :: S) σ else none) = some rr from h)
        have hq : q = 2000 := Nat.eq_of_beq_eq_true h1
        subst hq
        exact hXn (hsc rfl) H locs cells slots pc ls (S.map (x_tr a)) hc.2.2.1 hd (hN _ _ _ _ _ _ _ ls h2 hc hl)
      · exact kk h
  case new i =>
    obtain ⟨rfl, ht, hw1, hw2, hw3⟩ := hok
    obtain ⟨hlt, h⟩ := x_b_some (show (bif Nat.blt σ.1.length 900 then x_go k bf r L (.inr (.inr (some σ.1.length)) :: S) (x_new σ t 0) else none) = some rr from h)
    have hlt : σ.1.length < 900 := Nat.lt_of_succ_le (Nat.le_of_ble_eq_true hlt)
    obtain ⟨g1, g2, g3, g4, g5, g6⟩ := hCF t ht
    obtain ⟨p1, p2⟩ := x_pf_len (hgm _ _ _ _ _ h)
    have e5 : (x_new σ t 0).1.length = σ.1.length + 1 := by simp [x_new]
    have e6 : x_sz (x_new σ t 0).1 = x_sz σ.1 + x_nf t := by show x_sz (σ.1 ++ [(t, 0)]) = _; rw [x_sz_app, if_pos ht]
    refine x_here F hc fun hsz => ?_
    obtain ⟨hP, hD, hS, e1, e2, e3⟩ := hc
    have hKn := hK.1 t _ g1
    refine W.newcK hx hb hown (hts _ hw1) (hts _ hw2) (hts _ hw3) rfl hd (by omega) (by omega) hKn.2.1 hsz fun H1 kC hkC f1 f2 f3 => ?_
    have hk : ∀ (j : Nat) (x : Nat × va_E), (x_W cy a σ)[j]? = some x → H1[x.1]? = H[x.1]? := fun j x hx => f3 x.1 (by have := (hP j x hx).lt; omega)
    have hent : va_at D x_cls (a σ.1.length, x_e cy a (x_new σ t 0) σ.1.length (t, 0)) H1 := by
      rw [x_e, if_pos ht, ha _ hlt]
      refine ⟨_, g1, (u_born (x_tyf t) hts g2 hKn hkC f1 g3).to fun j hj => ?_⟩
      show defaultValue (x_tyf t j) = (x_fs a (x_new σ t 0) σ.1.length t).getD j .null
      rw [List.getD_eq_getElem?_getD, x_fs_get hj]
      obtain ⟨c1, c2, c3, c4⟩ := x_code_def (g6 j hj)
      have d1 : x_I (x_new σ t 0) σ.1.length j = 0 := by show x_row σ.2.1 σ.1.length (fun _ => 0) _ _ = 0; rw [x_row_at, if_pos rfl]
      have d2 : x_J (x_new σ t 0) σ.1.length j = 0 := by show x_row σ.2.2.1 σ.1.length (fun _ => 0) _ _ = 0; rw [x_row_at, if_pos rfl]
      have d3 : x_Q (x_new σ t 0) σ.1.length j = none := by show x_row σ.2.2.2 σ.1.length (fun _ => none) _ _ = none; rw [x_row_at, if_pos rfl]
      have g7 := g6 j hj
      generalize x_tyf t j = ty at g7 ⊢
      show defaultValue ty = x_fv a (x_new σ t 0) σ.1.length (x_code ty) j
      cases ty <;> simp [x_code] at g7 <;> simp [x_code, x_fv, d1, d2, d3, defaultValue, va_rf]
    have hP1 : va_P D x_cls (x_W cy a (x_new σ t 0)) H1 := by
      rw [← x_W_new]
      refine (hP.kept hk).app fun j x hx => ?_
      have hz : j < 1 := (List.getElem?_eq_some_iff.mp hx).1
      rw [show j = 0 by omega] at hx
      cases hx
      exact hent
    have hD1 : va_D A (x_W cy a (x_new σ t 0)) := by
      rw [← x_W_new]
      exact hD.push hP (by rw [ha _ hlt, hsz]) (hA _ (by rw [ha _ hlt]; have := hS.1; omega))
    have hS1 : va_S A s.heap H1 locs := ⟨by have := hS.1; omega, fun x h1 h2 => (f3 x (by have := hS.1; omega)).trans (hS.2.1 x h1 h2), hS.2.2⟩
    have hg := hN _ _ _ _ _ (cells + 1) (slots + x_nf t) ls h ⟨hP1, hD1, hS1, by omega, by omega, by omega⟩ hl
    rw [List.map_cons, show x_tr a (.inr (.inr (some σ.1.length))) = .ref (base + σ.1.length) from congrArg Value.ref (ha _ hlt)] at hg
    exact hg
  case newarray kd =>
    obtain ⟨rfl, hw, hkd⟩ := hok
    rcases S with _ | ⟨n | n, S⟩ <;> try cases h
    obtain ⟨hlt, h⟩ := x_b_some (show (bif Nat.blt σ.1.length 900 then (if n < 0 ∨ 5000 < n.toNatClampNeg then none else x_go k bf r L (.inr (.inr (some σ.1.length)) :: S) (x_new σ t n.toNatClampNeg)) else none) = some rr from h)
    have hlt : σ.1.length < 900 := Nat.lt_of_succ_le (Nat.le_of_ble_eq_true hlt)
    by_cases hn : n < 0 ∨ 5000 < n.toNatClampNeg
    · rw [if_pos hn] at h; cases h
    rw [if_neg hn] at h
    have hn1 : ¬ n < 0 := fun z => hn (Or.inl z)
    have hn2 : ¬ 5000 < n.toNatClampNeg := fun z => hn (Or.inr z)
    have ht : 11 ≤ t ∧ t ≤ 12 := by rcases hkd with ⟨-, rfl⟩ | ⟨-, rfl⟩ <;> omega
    obtain ⟨p1, p2⟩ := x_pf_len (hgm _ _ _ _ _ h)
    have e5 : (x_new σ t n.toNatClampNeg).1.length = σ.1.length + 1 := by simp [x_new]
    have e6 : x_sz (x_new σ t n.toNatClampNeg).1 = x_sz σ.1 + n.toNatClampNeg := by show x_sz (σ.1 ++ [(t, _)]) = _; rw [x_sz_app, if_neg (by omega)]
    refine x_here F hc fun hsz => ?_
    obtain ⟨hP, hD, hS, e1, e2, e3⟩ := hc
    refine va_newaK hx hb (hts _ hw) rfl hd rfl hn1 rfl ?_ (by omega) (by omega) hsz fun H1 cA f1 f2 f3 hAr hNm => ?_
    · rcases hkd with ⟨rfl, -⟩ | ⟨rfl, -⟩ <;> (simp only [newarray.typeOf, componentBytes]; omega)
    have hk : ∀ (j : Nat) (x : Nat × va_E), (x_W cy a σ)[j]? = some x → H1[x.1]? = H[x.1]? := fun j x hx => f3 x.1 (by have := (hP j x hx).lt; omega)
    have hent : va_at D x_cls (a σ.1.length, x_e cy a (x_new σ t n.toNatClampNeg) σ.1.length (t, n.toNatClampNeg)) H1 := by
      have d1 : (fun j => x_I (x_new σ t n.toNatClampNeg) σ.1.length j) = fun _ => 0 := by
        funext j; show x_row σ.2.1 σ.1.length (fun _ => 0) _ _ = 0; rw [x_row_at, if_pos rfl]
      have d2 : (fun j => x_J (x_new σ t n.toNatClampNeg) σ.1.length j) = fun _ => 0 := by
        funext j; show x_row σ.2.2.1 σ.1.length (fun _ => 0) _ _ = 0; rw [x_row_at, if_pos rfl]
      rw [x_e, if_neg (by omega), ha _ hlt]
      rcases hkd with ⟨rfl, rfl⟩ | ⟨rfl, rfl⟩
      · have hcy : cy 0 = cA := Option.some.inj ((hK.2 0 (cy 0, .int) rfl).2.symm.trans hNm)
        show H1[base + σ.1.length]? = some (vp_cell (cy 0) (n.toNatClampNeg, .inl (fun j => x_I (x_new σ 11 n.toNatClampNeg) σ.1.length j)))
        rw [d1, hcy]
        exact f1
      · have hcy : cy 1 = cA := Option.some.inj ((hK.2 1 (cy 1, .long) rfl).2.symm.trans hNm)
        show H1[base + σ.1.length]? = some (vp_cell (cy 1) (n.toNatClampNeg, .inr (.inl (fun j => x_J (x_new σ 12 n.toNatClampNeg) σ.1.length j))))
        rw [d2, hcy]
        exact f1
    have hP1 : va_P D x_cls (x_W cy a (x_new σ t n.toNatClampNeg)) H1 := by
      rw [← x_W_new]
      refine (hP.kept hk).app fun j x hx => ?_
      have hz : j < 1 := (List.getElem?_eq_some_iff.mp hx).1
      rw [show j = 0 by omega] at hx
      cases hx
      exact hent
    have hD1 : va_D A (x_W cy a (x_new σ t n.toNatClampNeg)) := by
      rw [← x_W_new]
      exact hD.push hP (by rw [ha _ hlt, hsz]) (hA _ (by rw [ha _ hlt]; have := hS.1; omega))
    have hS1 : va_S A s.heap H1 locs := ⟨by have := hS.1; omega, fun x h1 h2 => (f3 x (by have := hS.1; omega)).trans (hS.2.1 x h1 h2), hS.2.2⟩
    have hg := hN _ _ _ _ _ (cells + 1) (slots + n.toNatClampNeg) ls h ⟨hP1, hD1, hS1, by omega, by omega, by omega⟩ hl
    rw [List.map_cons, show x_tr a (.inr (.inr (some σ.1.length))) = .ref (base + σ.1.length) from congrArg Value.ref (ha _ hlt)] at hg
    exact hg
  case anewarray i =>
    obtain ⟨rfl, hkd, hw⟩ := hok
    rcases S with _ | ⟨n | n, S⟩ <;> try cases h
    obtain ⟨hlt, h⟩ := x_b_some (show (bif Nat.blt σ.1.length 900 then (if n < 0 ∨ 5000 < n.toNatClampNeg then none else x_go k bf r L (.inr (.inr (some σ.1.length)) :: S) (x_new σ t n.toNatClampNeg)) else none) = some rr from h)
    have hlt : σ.1.length < 900 := Nat.lt_of_succ_le (Nat.le_of_ble_eq_true hlt)
    by_cases hn : n < 0 ∨ 5000 < n.toNatClampNeg
    · rw [if_pos hn] at h; cases h
    rw [if_neg hn] at h
    have hn1 : ¬ n < 0 := fun z => hn (Or.inl z)
    have hn2 : ¬ 5000 < n.toNatClampNeg := fun z => hn (Or.inr z)
    obtain ⟨p1, p2⟩ := x_pf_len (hgm _ _ _ _ _ h)
    have e5 : (x_new σ t n.toNatClampNeg).1.length = σ.1.length + 1 := by simp [x_new]
    have e6 : x_sz (x_new σ t n.toNatClampNeg).1 = x_sz σ.1 + n.toNatClampNeg := by show x_sz (σ.1 ++ [(t, _)]) = _; rw [x_sz_app, if_neg (by omega)]
    refine x_here F hc fun hsz => ?_
    obtain ⟨hP, hD, hS, e1, e2, e3⟩ := hc
    have hao : va_AO (x_cn (x_ec t)) s := by
      obtain ⟨-, -, -, ⟨o1, o2, o3⟩, -⟩ := hSt
      rcases hkd with rfl | rfl | rfl
      · exact o1
      · exact o2
      · exact o3
    refine W.anew hx hb hown (hts _ hw) (va_AO.use hao) rfl hd rfl hn1 (by omega) (by omega) (by omega) fun cA kA comp q1 q2 q3 q4 => ?_
    generalize hH1 : H.push ({ cls := cA, slots := Array.replicate n.toNatClampNeg .null, vm := .none } : Cell) = H1
    have f2 : H1.size = H.size + 1 := by rw [← hH1, Array.size_push]
    have f1 : H1[H.size]? = some (arrV cA n.toNatClampNeg (fun _ => .null)) := by rw [← hH1, Array.getElem?_push_size, ← arrV_new]
    have f3 : ∀ q : Nat, q < H.size → H1[q]? = H[q]? := fun q hq => by rw [← hH1, Array.getElem?_push, if_neg (Nat.ne_of_lt hq)]
    have hk : ∀ (j : Nat) (x : Nat × va_E), (x_W cy a σ)[j]? = some x → H1[x.1]? = H[x.1]? := fun j x hx => f3 x.1 (hP j x hx).lt
    have hent : va_at D x_cls (a σ.1.length, x_e cy a (x_new σ t n.toNatClampNeg) σ.1.length (t, n.toNatClampNeg)) H1 := by
      have d3 : (fun j => (x_Q (x_new σ t n.toNatClampNeg) σ.1.length j).map a) = fun _ => none := by
        funext j; show Option.map a (x_row σ.2.2.2 σ.1.length (fun _ => none) _ _) = none; rw [x_row_at, if_pos rfl]; rfl
      rw [x_e, if_neg (by omega), ha _ hlt, ← hsz]
      rcases hkd with rfl | rfl | rfl
      · have hcy : cy 2 = cA := by
          obtain ⟨-, -, -, -, -, r4⟩ := (hK.2 2 (cy 2, .object RX2) rfl).2
          exact Option.some.inj (r4.symm.trans q1)
        show H1[H.size]? = some (vp_cell (cy 2) (n.toNatClampNeg, .inr (.inr (.inr (.inr (fun j => (x_Q (x_new σ 13 n.toNatClampNeg) σ.1.length j).map a))))))
        rw [d3, hcy]
        exact f1
      · have hcy : cy 3 = cA := by
          obtain ⟨-, -, -, -, -, r4⟩ := (hK.2 3 (cy 3, .object RX5) rfl).2
          exact Option.some.inj (r4.symm.trans q1)
        show H1[H.size]? = some (vp_cell (cy 3) (n.toNatClampNeg, .inr (.inr (.inr (.inr (fun j => (x_Q (x_new σ 14 n.toNatClampNeg) σ.1.length j).map a))))))
        rw [d3, hcy]
        exact f1
      · have hcy : cy 4 = cA := by
          obtain ⟨-, -, -, -, -, r4⟩ := (hK.2 4 (cy 4, .object RX7) rfl).2
          exact Option.some.inj (r4.symm.trans q1)
        show H1[H.size]? = some (vp_cell (cy 4) (n.toNatClampNeg, .inr (.inr (.inr (.inr (fun j => (x_Q (x_new σ 15 n.toNatClampNeg) σ.1.length j).map a))))))
        rw [d3, hcy]
        exact f1
    have hP1 : va_P D x_cls (x_W cy a (x_new σ t n.toNatClampNeg)) H1 := by
      rw [← x_W_new]
      refine (hP.kept hk).app fun j x hx => ?_
      have hz : j < 1 := (List.getElem?_eq_some_iff.mp hx).1
      rw [show j = 0 by omega] at hx
      cases hx
      exact hent
    have hD1 : va_D A (x_W cy a (x_new σ t n.toNatClampNeg)) := by
      rw [← x_W_new]
      exact hD.push hP (by rw [ha _ hlt, hsz]) (hA _ (by rw [ha _ hlt]; have := hS.1; omega))
    have hS1 : va_S A s.heap H1 locs := ⟨by have := hS.1; omega, fun x h1 h2 => (f3 x (by have := hS.1; omega)).trans (hS.2.1 x h1 h2), hS.2.2⟩
    have hg := hN _ _ _ _ _ (cells + 1) (slots + n.toNatClampNeg) ls h ⟨hP1, hD1, hS1, by omega, by omega, by omega⟩ hl
    rw [List.map_cons, show x_tr a (.inr (.inr (some σ.1.length))) = .ref H.size from congrArg Value.ref ((ha _ hlt).trans hsz.symm)] at hg
    exact hg
  case ireturn =>
    obtain ⟨rfl, hr0, hr1⟩ := hok
    rcases S with _ | ⟨x | x, _ | ⟨y, S⟩⟩ <;> try cases h
    rcases u with _ | u
    · obtain rfl : ((some (.inl x), σ) : xR) = rr := Option.some.inj h
      exact hRet H locs cells slots pc ls hc (Or.inl ⟨x, rfl, hd, Or.inl (hr0 rfl)⟩)
    · obtain ⟨hb2, h2⟩ := x_bl_some (show x_bl x (some (some (.inl x), σ)) = some rr from h)
      obtain rfl : ((some (.inl x), σ) : xR) = rr := Option.some.inj h2
      exact hRet H locs cells slots pc ls hc (Or.inl ⟨x, rfl, hd, Or.inr ⟨hr1 (by omega), hb2⟩⟩)
  case lreturn =>
    obtain ⟨rfl, hr0⟩ := hok
    rcases S with _ | ⟨x | x | x, _ | ⟨y, S⟩⟩ <;> try cases h
    exact hRet H locs cells slots pc ls hc (Or.inr (Or.inl ⟨x, rfl, hd, hr0⟩))
  case areturn =>
    obtain ⟨rfl, n, hr0⟩ := hok
    rcases S with _ | ⟨x | x | x, _ | ⟨y, S⟩⟩ <;> try cases h
    exact hRet H locs cells slots pc ls hc (Or.inr (Or.inr (Or.inl ⟨x, n, rfl, hd, hr0⟩)))
  case return_ =>
    obtain ⟨rfl, hr0⟩ := hok
    rcases S with _ | ⟨y, S⟩ <;> try cases h
    exact hRet H locs cells slots pc ls hc (Or.inr (Or.inr (Or.inr ⟨rfl, hd, hr0⟩)))
  case invokestatic i =>
    obtain ⟨rfl, hok⟩ := hok
    have hrf : 1 ≤ R.frames := by omega
    rcases w with _ | _ | _ | _ | w
    · obtain ⟨hlk, hm1, hst, hnp⟩ := hok
      have h : (match x_pop u S [] with
        | some (args, S) => x_call (O t args σ) v (x_go k bf r) L S
        | none => none) = some rr := h
      cases hp : x_pop u S [] with
      | none => rw [hp] at h; cases h
      | some q =>
        obtain ⟨av, S'⟩ := q
        rw [hp] at h
        refine x_call_W hOm hO F hrm hm1.1 (fun L S τ => hgm r L S τ) hN hc hl hp h fun r2 τ hM h8 hsz hf => ?_
        obtain ⟨pre, s1, s2, s3⟩ := x_pop_some hp
        have s2 : av = pre.reverse := by rw [s2, List.append_nil]
        have hst2 : (F0 m pc ls (S.map (x_tr a))).stack = (av.map (x_tr a)).reverse ++ S'.map (x_tr a) := by
          show S.map (x_tr a) = _
          rw [s1, s2, List.map_append, ← List.map_reverse, List.reverse_reverse]
        have hn : (av.map (x_tr a)).length = u := by rw [List.length_map, s2, List.length_reverse, s3]
        have hloc : 8 + (x_ml t + 11) + (x_rm d (τ.1.length - σ.1.length) (x_sz τ.1 - x_sz σ.1)).locals ≤ R.locals := by
          have := hm1.2.2.2.2
          show 8 + (x_ml t + 11) + 64 * (d + 8) ≤ R.locals
          omega
        have hpre : PreS s H (x_Pre D cy a base σ av) (av.map (x_tr a)) := x_pre hK hSt hsz hA hc
        rcases hlk with hlk | ⟨host, hlk⟩
        · exact va_runS (Ts := x_Tb) ⟨hx, hb, hml, hown, hts⟩ hM ⟨callB_of u hts (x_good_ws t hm1.2.1) rfl rfl rfl (hts _ hm1.2.2.1) (hts _ hlk) ⟨hm1.2.2.2.1.1, hm1.2.2.2.1.2, hnp⟩ ⟨hRf, hloc⟩, hts _ hst⟩ hpre rfl hn hl.1 hst2 (lv_room (by rw [x_cs_tr]; exact h8)) hd hf
        · exact va_runSN (Ts := x_Tb) ⟨hx, hb, hml, hown, hts⟩ hM ⟨va_cnB u hts (x_good_ws t hm1.2.1) rfl rfl rfl (hSt.2.2.1 _ hlk) (hts _ hm1.2.2.1) ⟨hm1.2.2.2.1.1, hm1.2.2.2.1.2, hnp⟩ ⟨hRf, hloc⟩, hts _ hst, trivial⟩ hpre rfl hn hl.1 hst2 (lv_room (by rw [x_cs_tr]; exact h8)) hd hf
    · obtain ⟨q1, q2, q3, q4⟩ := hok
      rcases S with _ | ⟨y | y, _ | ⟨x | x, S⟩⟩ <;> try cases h
      obtain ⟨h8, h2⟩ := x_b_some (show (bif Nat.ble (x_cs S) 8 then x_go k bf r L (.inl (if x < y then y else x) :: S) σ else none) = some rr from h)
      have h8 := Nat.le_of_ble_eq_true h8
      obtain ⟨p1, p2⟩ := x_pf_len (hgm _ _ _ _ _ h2)
      have hc2 := hc
      obtain ⟨-, -, -, e1, e2, -⟩ := hc2
      exact va_mmax hx hb (hml.trans hl.1.symm) hown (hts _ q1) (hts _ q2) (hts _ q3) (hts _ q4) hrf (by rw [x_cs_tr]; omega) (by omega) (by omega) hd (hN _ _ _ _ _ _ _ ls h2 hc hl)
    · obtain ⟨q1, q2, q3, q4⟩ := hok
      rcases S with _ | ⟨y | y, _ | ⟨x | x, S⟩⟩ <;> try cases h
      obtain ⟨h8, h2⟩ := x_b_some (show (bif Nat.ble (x_cs S) 8 then x_go k bf r L (.inl (if y < x then y else x) :: S) σ else none) = some rr from h)
      have h8 := Nat.le_of_ble_eq_true h8
      obtain ⟨p1, p2⟩ := x_pf_len (hgm _ _ _ _ _ h2)
      have hc2 := hc
      obtain ⟨-, -, -, e1, e2, -⟩ := hc2
      exact va_mmin hx hb (hml.trans hl.1.symm) hown (hts _ q1) (hts _ q2) (hts _ q3) (hts _ q4) hrf (by rw [x_cs_tr]; omega) (by omega) (by omega) hd (hN _ _ _ _ _ _ _ ls h2 hc hl)
    · obtain ⟨q1, q2, q3, q4⟩ := hok
      rcases S with _ | ⟨x | x, S⟩ <;> try cases h
      obtain ⟨h8, h2⟩ := x_b_some (show (bif Nat.ble (x_cs S) 8 then x_go k bf r L (.inl (if 0 ≤ x then x else 0 - x) :: S) σ else none) = some rr from h)
      have h8 := Nat.le_of_ble_eq_true h8
      obtain ⟨p1, p2⟩ := x_pf_len (hgm _ _ _ _ _ h2)
      have hc2 := hc
      obtain ⟨-, -, -, e1, e2, -⟩ := hc2
      exact va_mabs hx hb (hml.trans hl.1.symm) hown (hts _ q1) (hts _ q2) (hts _ q3) (hts _ q4) hrf (by rw [x_cs_tr]; omega) (by omega) (by omega) hd (hN _ _ _ _ _ _ _ ls h2 hc hl)
    · obtain ⟨q1, q2, q3, q4⟩ := hok
      rcases S with _ | ⟨n | n, _ | ⟨dp | dp, _ | ⟨b1 | b1 | b1, _ | ⟨sp | sp, _ | ⟨b0 | b0 | b0, S⟩⟩⟩⟩⟩ <;> try cases h
      obtain ⟨h8, h2⟩ := x_b_some (show (bif Nat.ble (x_cs S) 8 then x_der b0 fun a0 => x_der b1 fun a1 => x_ak σ a0 11 fun n0 => x_ak σ a1 11 fun n1 =>
          if sp < 0 ∨ dp < 0 ∨ n < 0 then none else if sp.toNatClampNeg + n.toNatClampNeg ≤ n0 ∧ dp.toNatClampNeg + n.toNatClampNeg ≤ n1 then x_go k bf r L S (x_cp σ a0 a1 sp.toNatClampNeg dp.toNatClampNeg n.toNatClampNeg) else none else none) = some rr from h)
      have h8 := Nat.le_of_ble_eq_true h8
      cases b0 with
      | none => cases h2
      | some b0 =>
        cases b1 with
        | none => cases h2
        | some b1 =>
          obtain ⟨hk0, h2⟩ := x_ak_some (show x_ak σ b0 11 (fun n0 => x_ak σ b1 11 fun n1 =>
            if sp < 0 ∨ dp < 0 ∨ n < 0 then none else if sp.toNatClampNeg + n.toNatClampNeg ≤ n0 ∧ dp.toNatClampNeg + n.toNatClampNeg ≤ n1 then x_go k bf r L S (x_cp σ b0 b1 sp.toNatClampNeg dp.toNatClampNeg n.toNatClampNeg) else none) = some rr from h2)
          obtain ⟨hk1, h2⟩ := x_ak_some h2
          by_cases hz : sp < 0 ∨ dp < 0 ∨ n < 0
          · rw [if_pos hz] at h2; cases h2
          rw [if_neg hz] at h2
          by_cases hz2 : sp.toNatClampNeg + n.toNatClampNeg ≤ (x_nth σ.1 b0).2 ∧ dp.toNatClampNeg + n.toNatClampNeg ≤ (x_nth σ.1 b1).2
          · rw [if_pos hz2] at h2
            obtain ⟨hP, hD, hS, e1, e2, e3⟩ := hc
            refine va_copyi (D := D) (ty := .int) hx hb (hml.trans hl.1.symm) hown (hts _ q1) (hts _ q2) (hts _ q3) (hts _ q4) hK hP hD hS b0 b1 0 0 (x_W_arr hk0 (by omega) (by omega)) (x_W_arr hk1 (by omega) (by omega)) rfl rfl rfl (fun z => hz (Or.inl z)) (fun z => hz (Or.inr (Or.inl z))) (fun z => hz (Or.inr (Or.inr z))) hz2.1 hz2.2 (fun _ _ => rfl) hrf (by rw [x_cs_tr]; simp only [nativeFrameWords]; simp; omega) hd fun H1 locs1 hP1 hD1 hS1 => ?_
            have hW := x_W_ar (cy := cy) (a := a) (σ := σ) (τ := x_cp σ b0 b1 sp.toNatClampNeg dp.toNatClampNeg n.toNatClampNeg) (f := .inl (va_cpy (fun j => x_I σ b0 j) (fun j => x_I σ b1 j) sp.toNatClampNeg dp.toNatClampNeg n.toNatClampNeg)) rfl hk1 (by omega) (by omega) (fun j hj => ⟨fun w => by show x_row _ _ _ _ _ = x_I σ j w; rw [x_row_at, if_neg hj]; rfl, fun _ => rfl, fun _ => rfl⟩) (by
              show Sum.inl (fun j => x_row σ.2.1 b1 _ b1 j) = _
              refine congrArg Sum.inl (funext fun j => ?_)
              rw [x_row_at, if_pos rfl]; rfl)
            rw [hW] at hP1 hD1
            exact hN _ _ _ _ _ _ _ ls h2 ⟨hP1, hD1, hS1, e1, e2, e3⟩ hl
          · rw [if_neg hz2] at h2; cases h2
  case invokevirtual i =>
    obtain ⟨rfl, hok⟩ := hok
    have hstr : ∀ (q : Nat), (Nat.ble 1000 q && Nat.blt q 1013) = true → ∃ j, j < 13 ∧ q = 1000 + j := by
      intro q hq
      have z1 := Nat.le_of_ble_eq_true (Bool.and_eq_true_iff.mp hq).1
      have z2 := Nat.le_of_ble_eq_true (Bool.and_eq_true_iff.mp hq).2
      exact ⟨q - 1000, by omega, by omega⟩
    rcases w with _ | _ | _ | _ | _ | _ | _ | w
    · obtain ⟨hlk, hm1, hins, hsel, hz, hzc, hu1, hnp⟩ := hok
      have h : (match x_pop u S [] with
        | some (args, S) => x_rv args σ z (x_call (O t args σ) v (x_go k bf r) L S)
        | none => none) = some rr := h
      cases hp : x_pop u S [] with
      | none => rw [hp] at h; cases h
      | some q =>
        obtain ⟨av, S'⟩ := q
        rw [hp] at h
        rcases av with _ | ⟨x | x | q, av⟩ <;> try cases h
        cases q with
        | none => cases h
        | some q =>
          obtain ⟨hkq, h⟩ := x_ck_some (show x_ck σ q z (x_call (O t (.inr (.inr (some q)) :: av) σ) v (x_go k bf r) L S') = some rr from h)
          refine x_call_W hOm hO F hrm hm1.1 (fun L S τ => hgm r L S τ) hN hc hl hp h fun r2 τ hM h8 hsz hf => ?_
          obtain ⟨pre, s1, s2, s3⟩ := x_pop_some hp
          have s2 : (.inr (.inr (some q)) :: av : List xV) = pre.reverse := by rw [s2, List.append_nil]
          have s4 : pre = av.reverse ++ [.inr (.inr (some q))] := by
            have := congrArg List.reverse s2
            rw [List.reverse_reverse, List.reverse_cons] at this
            exact this.symm
          have hst2 : (F0 m pc ls (S.map (x_tr a))).stack = (av.map (x_tr a)).reverse ++ .ref (a q) :: S'.map (x_tr a) := by
            show S.map (x_tr a) = _
            rw [s1, s4, List.map_append, List.map_append, List.map_reverse, List.append_assoc]; rfl
          have hn : (av.map (x_tr a)).length = u - 1 := by
            have : av.length + 1 = u := by rw [← s3, s4, List.length_append, List.length_reverse]; rfl
            rw [List.length_map]; omega
          have hloc : 8 + (x_ml t + 11) + (x_rm d (τ.1.length - σ.1.length) (x_sz τ.1 - x_sz σ.1)).locals ≤ R.locals := by
            have := hm1.2.2.2.2
            show 8 + (x_ml t + 11) + 64 * (d + 8) ≤ R.locals
            omega
          have hpre := x_pre (av := .inr (.inr (some q)) :: av) hK hSt hsz hA hc
          obtain ⟨g1, g2, g3, g4, g5, g6⟩ := hCF z hz
          have hrec := va_recv hK hc.1 g1 (x_W_obj hkq hz)
          have hpre2 : PreV s H (x_cn z) (a q) (x_Pre D cy a base σ (.inr (.inr (some q)) :: av)) (av.map (x_tr a)) := ⟨hpre.1, hrec, hpre.2⟩
          rcases hlk with hlk | ⟨host, hlk⟩
          · exact va_runV (Ts := x_Tb) ⟨hx, hb, hml, hown, hts⟩ hM ⟨callB_of (u - 1) hts (x_good_ws t hm1.2.1) rfl rfl rfl (hts _ hm1.2.2.1) (hts _ hlk) ⟨hm1.2.2.2.1.1, hm1.2.2.2.1.2, hnp⟩ ⟨hRf, hloc⟩, hts _ hins, by rw [← hzc]; exact hts _ hsel⟩ hpre2 rfl hn hl.1 hst2 (lv_room (by rw [x_cs_tr]; exact h8)) hd hf
          · exact va_runVN (Ts := x_Tb) ⟨hx, hb, hml, hown, hts⟩ hM ⟨va_cnB (u - 1) hts (x_good_ws t hm1.2.1) rfl rfl rfl (hSt.2.2.1 _ hlk) (hts _ hm1.2.2.1) ⟨hm1.2.2.2.1.1, hm1.2.2.2.1.2, hnp⟩ ⟨hRf, hloc⟩, hts _ hins, by rw [← hzc]; exact hts _ hsel⟩ hpre2 rfl hn hl.1 hst2 (lv_room (by rw [x_cs_tr]; exact h8)) hd hf
    · exact hok.elim
    · exact hok.elim
    · exact hok.elim
    · exact hok.elim
    · rcases S with _ | ⟨x | x | q, S⟩ <;> try cases h
      obtain ⟨h8, h2⟩ := x_b_some (show (bif Nat.ble (x_cs S) 8 then x_der q fun b => bif Nat.ble 1000 b && Nat.blt b 1013 then x_go k bf r L (.inl (Int32.ofNat (x_TX b).length) :: S) σ else none else none) = some rr from h)
      have h8 := Nat.le_of_ble_eq_true h8
      cases q with
      | none => cases h2
      | some q =>
        obtain ⟨hq, h3⟩ := x_b_some (show (bif Nat.ble 1000 q && Nat.blt q 1013 then x_go k bf r L (.inl (Int32.ofNat (x_TX q).length) :: S) σ else none) = some rr from h2)
        obtain ⟨j, hj, rfl⟩ := hstr q hq
        obtain ⟨p1, p2⟩ := x_pf_len (hgm _ _ _ _ _ h3)
        have hc2 := hc
        obtain ⟨-, -, -, e1, e2, -⟩ := hc2
        exact hSL.1 H locs cells slots pc i j ls (S.map (x_tr a)) hc.2.2.1 (by omega) (by omega) hj (by rw [x_cs_tr]; exact h8) hl.1 hd (hts _ hok) (hN _ _ _ _ _ _ _ ls h3 hc hl)
    · rcases S with _ | ⟨x | x | q, _ | ⟨y | y | q, S⟩⟩ <;> try cases h
      obtain ⟨h8, h2⟩ := x_b_some (show (bif Nat.ble (x_cs S) 8 then x_der q fun b => bif Nat.ble 1000 b && Nat.blt b 1013 then x_ix x (x_TX b).length (x_go k bf r L (.inl ((x_TX b).getD x.toNatClampNeg 0) :: S) σ) else none else none) = some rr from h)
      have h8 := Nat.le_of_ble_eq_true h8
      cases q with
      | none => cases h2
      | some q =>
        obtain ⟨hq, h3⟩ := x_b_some (show (bif Nat.ble 1000 q && Nat.blt q 1013 then x_ix x (x_TX q).length (x_go k bf r L (.inl ((x_TX q).getD x.toNatClampNeg 0) :: S) σ) else none) = some rr from h2)
        obtain ⟨hi, h3⟩ := x_ix_some h3
        obtain ⟨j, hj, rfl⟩ := hstr q hq
        obtain ⟨p1, p2⟩ := x_pf_len (hgm _ _ _ _ _ h3)
        have hc2 := hc
        obtain ⟨-, -, -, e1, e2, -⟩ := hc2
        exact hSL.2 H locs cells slots pc i j x ls (S.map (x_tr a)) hc.2.2.1 (by omega) (by omega) hj hi (by rw [x_cs_tr]; exact h8) hl.1 hd (hts _ hok) (hN _ _ _ _ _ _ _ ls h3 hc hl)
    · exact hok.elim
  case invokespecial i =>
    obtain ⟨rfl, hok⟩ := hok
    have hrf : 1 ≤ R.frames := by omega
    rcases w with _ | w
    · obtain ⟨hlk, hm1, hins, hnm, hrt, hu1, hnp⟩ := hok
      have h : (match x_pop u S [] with
        | some (args, S) => (match args with
          | .inr (.inr (some _)) :: _ => x_call (O t args σ) v (x_go k bf r) L S
          | _ => none)
        | none => none) = some rr := h
      cases hp : x_pop u S [] with
      | none => rw [hp] at h; cases h
      | some q =>
        obtain ⟨av, S'⟩ := q
        rw [hp] at h
        rcases av with _ | ⟨x | x | _ | q, av⟩ <;> try cases h
        have h : x_call (O t (.inr (.inr (some q)) :: av) σ) v (x_go k bf r) L S' = some rr := h
        refine x_call_W hOm hO F hrm hm1.1 (fun L S τ => hgm r L S τ) hN hc hl hp h fun r2 τ hM h8 hsz hf => ?_
        obtain ⟨pre, s1, s2, s3⟩ := x_pop_some hp
        have s2 : (.inr (.inr (some q)) :: av : List xV) = pre.reverse := by rw [s2, List.append_nil]
        have s4 : pre = av.reverse ++ [.inr (.inr (some q))] := by
          have := congrArg List.reverse s2
          rw [List.reverse_reverse, List.reverse_cons] at this
          exact this.symm
        have hst2 : (F0 m pc ls (S.map (x_tr a))).stack = (av.map (x_tr a)).reverse ++ .ref (a q) :: S'.map (x_tr a) := by
          show S.map (x_tr a) = _
          rw [s1, s4, List.map_append, List.map_append, List.map_reverse, List.append_assoc]; rfl
        have hn : (av.map (x_tr a)).length = u - 1 := by
          have : av.length + 1 = u := by rw [← s3, s4, List.length_append, List.length_reverse]; rfl
          rw [List.length_map]; omega
        have hloc : 8 + (x_ml t + 11) + (x_rm d (τ.1.length - σ.1.length) (x_sz τ.1 - x_sz σ.1)).locals ≤ R.locals := by
          have := hm1.2.2.2.2
          show 8 + (x_ml t + 11) + 64 * (d + 8) ≤ R.locals
          omega
        have hpre : PreS s H (x_Pre D cy a base σ (.inr (.inr (some q)) :: av)) (.ref (a q) :: av.map (x_tr a)) := x_pre (av := .inr (.inr (some q)) :: av) hK hSt hsz hA hc
        have hws : x_ws t = Cond.code (x_y t) (x_by t) (x_ml t) none :: x_Tb := by rw [x_ws, hrt]
        rcases hlk with hlk | ⟨host, hlk⟩
        · exact va_runI (Ts := x_Tb) ⟨hx, hb, hml, hown, hts⟩ hM ⟨callB_of (u - 1) hts (x_good_ws t hm1.2.1) hws rfl rfl (hts _ hm1.2.2.1) (hts _ hlk) ⟨hm1.2.2.2.1.1, hm1.2.2.2.1.2, hnp⟩ ⟨hRf, hloc⟩, hnm, hts _ hins⟩ hpre rfl hn hl.1 hst2 (lv_room (by rw [x_cs_tr]; exact h8)) hd hf
        · exact va_runIN (Ts := x_Tb) ⟨hx, hb, hml, hown, hts⟩ hM ⟨va_cnB (u - 1) hts (x_good_ws t hm1.2.1) hws rfl rfl (hSt.2.2.1 _ hlk) (hts _ hm1.2.2.1) ⟨hm1.2.2.2.1.1, hm1.2.2.2.1.2, hnp⟩ ⟨hRf, hloc⟩, hnm, hts _ hins⟩ hpre rfl hn hl.1 hst2 (lv_room (by rw [x_cs_tr]; exact h8)) hd hf
    · obtain ⟨q1, q2, q3⟩ := hok
      rcases S with _ | ⟨x | x | q, S⟩ <;> try cases h
      obtain ⟨h8, h2⟩ := x_b_some (show (bif Nat.ble (x_cs S) 8 then x_der q fun _ => x_go k bf r L S σ else none) = some rr from h)
      have h8 := Nat.le_of_ble_eq_true h8
      cases q with
      | none => cases h2
      | some q =>
        have hrm8 : 2 * (F0 m pc ls (S.map (x_tr a))).monitorRoom + ((S.map (x_tr a)).map fun v => v.category).sum ≤ 8 := lv_room (by rw [x_cs_tr]; exact h8)
        have hrm9 : 2 * (F0 m pc ls (.ref (a q) :: S.map (x_tr a))).monitorRoom + ((S.map (x_tr a)).map fun v => v.category).sum + 12 ≤ R.locals := by
          have : (F0 m pc ls (.ref (a q) :: S.map (x_tr a))).monitorRoom = (F0 m pc ls (S.map (x_tr a))).monitorRoom := rfl
          rw [this]
          omega
        refine W.objInit hx hb hown (hts _ q1) (hts _ q2) (hts _ q3) rfl (by rw [hml]; exact hl.1) rfl hd hrf hrm9 ?_
        exact W.eq (g2 := F0 m (pc + 3) ls (S.map (x_tr a))) rfl (hN _ _ _ _ _ _ _ ls h2 hc hl)
  all_goals (exfalso; exact hok)
end
