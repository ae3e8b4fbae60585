/-! a piece, a road, a method, a run -/
theorem x_b_nil (O : Nat → List xV → xS → Option xR) (X : Nat × (Nat → Int32)) (TX : Nat → List Int32) (C : List xRow) (k : Nat → xF) (f : Nat) (L : xL) (S : List xV) (σ : xS) : x_b O X TX C k f [] L S σ = none := by cases f <;> rfl
theorem x_m_succ (O : Nat → List xV → xS → Option xR) (X : Nat × (Nat → Int32)) (TX : Nat → List Int32) (C : List xRow) (n pc : Nat) (L : xL) (S : List xV) (σ : xS) : x_m O X TX C (n + 1) pc L S σ = x_b O X TX C (x_m O X TX C n) 3000 (x_suf C pc) L S σ := rfl
def x_hd (r : List xRow) : Nat := match r with
  | [] => 0
  | q :: _ => q.1
def x_rowok (cc : ByteArray) (own : String) (nL : Nat) (scr ini : Bool) (rt : Option FieldType) (q : xRow) : Prop :=
  decode cc q.1 = .ok (q.2.1, q.2.2.1) ∧ x_pok own nL q.2.1 q.2.2.1 q.2.2.2.2.1 ∧ (x_isp q.2.1 = false → x_iok own scr ini rt q.1 q.2.1 q.2.2.1 q.2.2.2.2.2.1 q.2.2.2.2.2.2.1 q.2.2.2.2.2.2.2.1 q.2.2.2.2.2.2.2.2.1 q.2.2.2.2.2.2.2.2.2.1 q.2.2.2.2.2.2.2.2.2.2)
def x_chain : List xRow → Prop
  | [] => True
  | q :: r => (r = [] ∨ x_hd r = q.1 + q.2.2.1) ∧ x_chain r
theorem x_chain_suf {r C : List xRow} (h : x_chain C) (hs : r <:+ C) : x_chain r := by
  obtain ⟨pre, rfl⟩ := hs
  induction pre with
  | nil => exact h
  | cons q pre ih => exact ih h.2
theorem x_suf_suf : ∀ (C : List xRow) (t : Nat), x_suf C t <:+ C
  | [], t => List.suffix_refl _
  | q :: r, t => by
    rw [x_suf]
    cases Nat.beq q.1 t with
    | true => exact List.suffix_refl _
    | false => exact (x_suf_suf r t).trans (List.suffix_cons q r)
theorem x_suf_hd : ∀ (C : List xRow) (t : Nat), x_suf C t = [] ∨ x_hd (x_suf C t) = t
  | [], t => Or.inl rfl
  | q :: r, t => by
    rw [x_suf]
    cases h : Nat.beq q.1 t with
    | true => exact Or.inr (Nat.eq_of_beq_eq_true h)
    | false => exact x_suf_hd r t
section
variable {p : Program} {l : Launch} {e : Env} {R : Room} {s : State} {m : MethodId} {args : Array Value} {below : List Frame} {meth : Method} {c : Code} {Q : State → Prop} {cc : ByteArray}
variable {D : va_G} {cy : Nat → ClassId} {a : Nat → Nat} {A : Nat → Prop} {n0 w0 nL base d : Nat} {own : String} {scr ini : Bool} {rt : Option FieldType}
theorem x_go_good {rr : xR} {C : List xRow} {k : Nat → xF} {bf : List xRow → xF} (hk : ∀ pc, x_good p l e R s m args below meth c Q D cy a A n0 w0 nL rr (k pc) pc) (hb : ∀ r, r <:+ C → x_good p l e R s m args below meth c Q D cy a A n0 w0 nL rr (bf r) (x_hd r)) (r : List xRow) (hr : r <:+ C) : x_good p l e R s m args below meth c Q D cy a A n0 w0 nL rr (x_go k bf r) (x_hd r) := by
  intro L S σ H locs cells slots ls h hc hl
  match r, hr, h with
  | [], hr, h => cases h
  | (pc, ins, len, [], y) :: r, hr, h => exact hb _ hr L S σ H locs cells slots ls h hc hl
  | (pc, ins, len, b :: bs, y) :: r, hr, h => exact hk pc _ S σ H locs cells slots ls h hc (x_lv_mask (b :: bs) hl)
/-- what the script's reads need -/
def x_Scr (p : Program) (l : Launch) (e : Env) (R : Room) (s : State) (m : MethodId) (args : Array Value) (below : List Frame) (meth : Method) (c : Code) (Q : State → Prop) (cc : ByteArray) (a : Nat → Nat) (A : Nat → Prop) (X : Nat × (Nat → Int32)) : Prop :=
  (∀ (H : Heap) (locs : List Loc) (cells slots pc : Nat) (i : Int32) (ls : Array Slot) (rest : List Value), va_S A s.heap H locs → vp_in i X.1 → decode cc pc = .ok (.iaload, 1) → W p l e R s m args below meth c H locs cells slots Q (F0 m (pc + 1) ls (.int (X.2 i.toNatClampNeg) :: rest)) → W p l e R s m args below meth c H locs cells slots Q (F0 m pc ls (.int i :: .ref (a 2000) :: rest))) ∧
  ∀ (H : Heap) (locs : List Loc) (cells slots pc : Nat) (ls : Array Slot) (rest : List Value), va_S A s.heap H locs → decode cc pc = .ok (.arraylength, 1) → W p l e R s m args below meth c H locs cells slots Q (F0 m (pc + 1) ls (.int (Int32.ofNat X.1) :: rest)) → W p l e R s m args below meth c H locs cells slots Q (F0 m pc ls (.ref (a 2000) :: rest))
theorem x_b_sound (hCF : ∀ t, t < 11 → x_clsok t) {O : Nat → List xV → xS → Option xR} (hOm : ∀ j av σ, x_M σ (O j av σ)) (hO : ∀ j av σ r τ, j < 226 → O j av σ = some (r, τ) → x_Met l D cy a base d j av σ r τ)
    (F : x_fix p R s m args meth c cc D cy a A n0 nL base d own ini) {rr : xR} (hrm : rr.2.1.length ≤ n0 + R.cells ∧ x_sz rr.2.1 ≤ w0 + R.slots) (hSL : x_SL p l e R s m args below meth c Q cc a A nL own) (hRet : x_Ret p l e R s m args below meth c Q cc D cy a A n0 w0 rt rr)
    {X : Nat × (Nat → Int32)} (hX : scr = true → x_Scr p l e R s m args below meth c Q cc a A X) {C : List xRow} (hC : ∀ q ∈ C, x_rowok cc own nL scr ini rt q) (hch : x_chain C) {k : Nat → xF} (hkm : ∀ pc L S σ, x_M σ (k pc L S σ)) (hk : ∀ pc, x_good p l e R s m args below meth c Q D cy a A n0 w0 nL rr (k pc) pc) :
    ∀ (f : Nat) (r : List xRow), r <:+ C → x_good p l e R s m args below meth c Q D cy a A n0 w0 nL rr (x_b O X x_TX C k f r) (x_hd r)
  | 0, r, hr => fun L S σ H locs cells slots ls h hc hl => by cases h
  | f + 1, [], hr => fun L S σ H locs cells slots ls h hc hl => by cases h
  | f + 1, q :: r, hr => fun L S σ H locs cells slots ls h hc hl => by
    have ih := x_b_sound hCF hOm hO F hrm hSL hRet hX hC hch hkm hk f
    have hgo := x_go_good hk ih
    obtain ⟨hd, hpo, hio⟩ := hC q (hr.subset List.mem_cons_self)
    have hr2 : r <:+ C := (List.suffix_cons q r).trans hr
    have hN : x_good p l e R s m args below meth c Q D cy a A n0 w0 nL rr (x_go k (x_b O X x_TX C k f) r) (q.1 + q.2.2.1) := by
      rcases (x_chain_suf hch hr).1 with h0 | h0
      · subst h0
        intro L S σ H locs cells slots ls h hc hl
        cases h
      · rw [← h0]
        exact hgo r hr2
    have hJ : ∀ t, x_good p l e R s m args below meth c Q D cy a A n0 w0 nL rr (x_go k (x_b O X x_TX C k f) (x_suf C t)) t := by
      intro t
      rcases x_suf_hd C t with h0 | h0
      · rw [h0]
        intro L S σ H locs cells slots ls h hc hl
        cases h
      · have := hgo _ (x_suf_suf C t)
        rw [h0] at this
        exact this
    have F2 := F
    obtain ⟨hx, hb, hml, hown, hts, hini, hK, hSt, hs0, ha, hA, hRf, hRl⟩ := F2
    have h : x_pure q.2.1 q.2.2.2.2.1 L S (fun L S => x_go k (x_b O X x_TX C k f) r L S σ) (x_i O X x_TX C k (x_b O X x_TX C k f) q.2.1 q.2.2.2.2.2.1 q.2.2.2.2.2.2.1 q.2.2.2.2.2.2.2.1 q.2.2.2.2.2.2.2.2.1 q.2.2.2.2.2.2.2.2.2.1 q.2.2.2.2.2.2.2.2.2.2 r L S σ) = some rr := h
    exact x_pure_sound hx hb hown hts (a := a) (fun k q hk hq => hSt.2.1 k q hk hq) (nL := nL) hd hpo hl h (fun L' S' ls' h' hl' => hN L' S' σ H locs cells slots ls' h' hc hl')
      (fun hp h' => x_i_sound hCF hOm hO F hrm hSL hRet (scr := scr) (fun z => (hX z).1) (fun z => (hX z).2) hkm (fun r L S σ => x_M_bb hOm hkm f r L S σ) hd (hio hp) hJ hN h' hc hl)
theorem x_m_sound (hCF : ∀ t, t < 11 → x_clsok t) {O : Nat → List xV → xS → Option xR} (hOm : ∀ j av σ, x_M σ (O j av σ)) (hO : ∀ j av σ r τ, j < 226 → O j av σ = some (r, τ) → x_Met l D cy a base d j av σ r τ)
    (F : x_fix p R s m args meth c cc D cy a A n0 nL base d own ini) {rr : xR} (hrm : rr.2.1.length ≤ n0 + R.cells ∧ x_sz rr.2.1 ≤ w0 + R.slots) (hSL : x_SL p l e R s m args below meth c Q cc a A nL own) (hRet : x_Ret p l e R s m args below meth c Q cc D cy a A n0 w0 rt rr)
    {X : Nat × (Nat → Int32)} (hX : scr = true → x_Scr p l e R s m args below meth c Q cc a A X) {C : List xRow} (hC : ∀ q ∈ C, x_rowok cc own nL scr ini rt q) (hch : x_chain C) :
    ∀ (n pc : Nat), x_good p l e R s m args below meth c Q D cy a A n0 w0 nL rr (x_m O X x_TX C n pc) pc := by
  intro n
  induction n with
  | zero => exact fun pc L S σ H locs cells slots ls h hc hl => by cases h
  | succ n ih =>
    intro pc
    have h1 := x_b_sound hCF hOm hO F hrm hSL hRet hX hC hch (fun pc L S σ => x_M_m hOm n pc L S σ) ih 3000 _ (x_suf_suf C pc)
    intro L S σ H locs cells slots ls h hc hl
    rw [x_m_succ] at h
    rcases x_suf_hd C pc with h0 | h0
    · rw [h0, x_b_nil] at h
      cases h
    · rw [h0] at h1
      exact h1 L S σ H locs cells slots ls h hc hl
end
/-- what is known of a method j -/
def x_jok (j : Nat) : Prop := plainName (x_y j).cls = true ∧ (∀ q ∈ x_C j, x_rowok (x_by j) (x_y j).cls (x_ml j) false (x_ini j) (x_rt j) q) ∧ x_chain (x_C j) ∧ (x_ini j = true → (x_y j).name = "<init>")
def x_SLall (l : Launch) : Prop := ∀ {p : Program} {e : Env} {R : Room} {s : State} {m : MethodId} {args : Array Value} {below : List Frame} {meth : Method} {c : Code} {Q : State → Prop} {cc : ByteArray} {D : va_G} {cy : Nat → ClassId} {a : Nat → Nat} {A : Nat → Prop} {n0 nL base d : Nat} {own : String} {ini : Bool}, x_fix p R s m args meth c cc D cy a A n0 nL base d own ini → x_SL p l e R s m args below meth c Q cc a A nL own
theorem x_cs_sl (a : Nat → Nat) : ∀ vs : List xV, (lg_sl (vs.map (x_tr a))).length = x_cs vs
  | [] => rfl
  | v :: vs => by
    have ih := x_cs_sl a vs
    have e : lg_sl ((v :: vs).map (x_tr a)) = (if (x_tr a v).category = 2 then [.val (x_tr a v), .second] else [.val (x_tr a v)]) ++ lg_sl (vs.map (x_tr a)) := by
      simp only [lg_sl, List.map_cons, List.flatMap_cons]
    rw [e, List.length_append, ih, x_cs, x_cat_tr]
    rcases v with x | x | x <;> rfl
theorem x_ws_mem {j : Nat} {args : Array Value} {s : State} (h : ∀ w ∈ x_ws j, w.before args s = true) : ∀ w ∈ x_Tb, w.before args s = true := fun w hw => h w (List.mem_cons_of_mem _ hw)
set_option maxHeartbeats 4000000 in
theorem x_run_sound (l : Launch) (hCF : ∀ t, t < 11 → x_clsok t) (hjok : ∀ j, j < 226 → x_jok j) (hSLa : x_SLall l) (D : va_G) (cy : Nat → ClassId) (a : Nat → Nat) (base : Nat) (ha : ∀ k, k < 900 → a k = base + k) : ∀ (d j : Nat) (av : List xV) (σ : xS) (r : Option xV) (τ : xS), j < 226 → x_run d j av σ = some (r, τ) → x_Met l D cy a base d j av σ r τ
  | 0, j, av, σ, r, τ, hj, h => by cases h
  | d + 1, j, av, σ, r, τ, hj, h => by
    obtain ⟨hplain, hrows, hch, hin⟩ := hjok j hj
    have h : (bif Nat.ble (x_cs av) (x_ml j) then x_F (x_run d) x_X0 x_TX (x_C j) 0 (x_args av (x_ml j)) [] σ else none) = some (r, τ) := h
    obtain ⟨hle, h⟩ := x_b_some h
    have hle := Nat.le_of_ble_eq_true hle
    obtain ⟨n, hn⟩ := x_F_some.mp h
    have hO := x_run_sound l hCF hjok hSLa D cy a base ha d
    have hpf : x_pf σ τ := x_M_F (x_M_run d) 0 _ _ σ _ h
    obtain ⟨pf1, pf2⟩ := x_pf_len hpf
    unfold x_Met
    refine Met.ofW (cc := x_by j) (maxL := x_ml j) (ret := x_rt j) hplain rfl ?_
    intro p e s m args below meth c s₁ B hml hv
    obtain ⟨rfl, hsz, hn9, hP, hK, hD, hSt⟩ := hv
    have hx := B.exec
    have hb := B.bytes
    have hr := B.returns
    have hts := x_ws_mem (atoms_spec (ws := x_ws j) B.pre)
    have hown : s.vm.findClass (x_y j).cls = some m.cls := findClass_of_methodNamed B.named
    have hlocks := B.notSynchronized
    have hnm : meth.name = (x_y j).name := (name_of_methodNamed B.named B.method).1
    have hA : ∀ q : Nat, s.heap.size ≤ q → va_A (x_W cy a σ) (base + σ.1.length) q := fun q hq => Or.inr (by omega)
    have F : x_fix p (headSpec (x_ws j) (x_rm (d + 1) (τ.1.length - σ.1.length) (x_sz τ.1 - x_sz σ.1))).room s m (av.map (x_tr a)).toArray meth c (x_by j) D cy a (va_A (x_W cy a σ) (base + σ.1.length)) σ.1.length (x_ml j) base d (x_y j).cls (x_ini j) :=
      ⟨hx, hb, hml, hown, hts, fun z => hnm.trans (hin z), hK, hSt, hsz, ha, hA, Nat.le_refl _, Nat.le_refl _⟩
    have hl := lv_entry (av.map (x_tr a)) (n := x_ml j) (by rw [x_cs_sl]; exact hle)
    rw [lg_entry_eq]
    generalize (lg_sl (av.map (x_tr a)) ++ List.replicate (x_ml j - (lg_sl (av.map (x_tr a))).length) Slot.unset).toArray = ls at hl ⊢
    have hl : lv_has ls (x_ml j) (x_lv a 0 (x_args av (x_ml j))) := lv_less hl (fun q hq => x_lv_entry a av (x_ml j) 0 q hq)
    have hS0 : va_S (va_A (x_W cy a σ) (base + σ.1.length)) s.heap s.heap [] := va_S.rf
    have hRet : x_Ret p l e (headSpec (x_ws j) (x_rm (d + 1) (τ.1.length - σ.1.length) (x_sz τ.1 - x_sz σ.1))).room s m (av.map (x_tr a)).toArray below meth c (MQ below (x_Post D cy a base σ r τ) (av.map (x_tr a)).toArray s (τ.1.length - σ.1.length) (x_sz τ.1 - x_sz σ.1) (va_A (x_W cy a σ) (base + σ.1.length))) (x_by j) D cy a (va_A (x_W cy a σ) (base + σ.1.length)) σ.1.length (x_sz σ.1) (x_rt j) (r, τ) := by
      intro H locs cells slots pc ls hc hcase
      obtain ⟨hP1, hD1, hS1, e1, e2, e3⟩ := hc
      have c1 : cells = τ.1.length - σ.1.length := by have e1 : cells + σ.1.length = τ.1.length := e1; omega
      have c2 : slots = x_sz τ.1 - x_sz σ.1 := by have e2 : slots + x_sz σ.1 = x_sz τ.1 := e2; omega
      subst c1; subst c2
      have hq : ∀ (v : Option Value), v = r.map (x_tr a) → ∀ t : State, t.heap = H → s.WarmedH t.vm → x_Post D cy a base σ r τ (av.map (x_tr a)).toArray s (.returned v) t := fun v hv t ht hW => ⟨⟨by rw [hv], by rw [ht]; exact hP1, hD1, e3⟩, hS1.F ht⟩
      rcases hcase with ⟨x, h1, h2, h3⟩ | ⟨x, h1, h2, h3⟩ | ⟨x, nm, h1, h2, h3⟩ | ⟨h1, h2, h3⟩
      · have h1 : r = some (.inl x) := h1
        subst h1
        rcases h3 with h3 | ⟨h3, h4⟩
        · exact W.iret hx hb (hr.trans h3) (hq _ rfl) hS1.2.2 h2
        · exact W.zret (ty := .boolean) hx hb (hr.trans h3) (by rcases h4 with rfl | rfl <;> rfl) (hq _ rfl) hS1.2.2 h2
      · have h1 : r = some (.inr (.inl x)) := h1
        subst h1
        exact W.lret hx hb (hr.trans h3) (hq _ rfl) hS1.2.2 h2
      · have h1 : r = some (.inr (.inr x)) := h1
        subst h1
        exact W.aret hx hb (hr.trans h3) (Or.inl ⟨nm, rfl⟩) (by cases x; exact Or.inl rfl; exact Or.inr ⟨_, rfl⟩) (hq _ rfl) hS1.2.2 h2
      · have h1 : r = none := h1
        subst h1
        exact W.vret hx hb (hr.trans h3) (hq _ rfl) hS1.2.2 h2
    have hrm : τ.1.length ≤ σ.1.length + (τ.1.length - σ.1.length) ∧ x_sz τ.1 ≤ x_sz σ.1 + (x_sz τ.1 - x_sz σ.1) := by omega
    exact x_m_sound (rr := (r, τ)) (w0 := x_sz σ.1) (scr := false) hCF (x_M_run d) hO F hrm (hSLa F) hRet (X := x_X0) (fun z => by cases z) hrows hch n 0 (x_args av (x_ml j)) [] σ s.heap [] 0 0 ls hn ⟨hP, hD, hS0, Nat.zero_add _, Nat.zero_add _, hn9⟩ hl
