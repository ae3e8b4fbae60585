/-! the small machine's memory as a world of the real one -/
abbrev x_cls : List vw_C := [(RX0, TX0, 6), (RX1, TX1, 2), (RX2, TX2, 8), (RX3, TX3, 1), (RX4, TX4, 5), (RX5, TX5, 3), (RX6, TX6, 8), (RX7, TX7, 5), (RX8, TX8, 11), (RX9, TX9, 14), (RX10, TX10, 52)]
/-- what a field's type is to the small machine: 0 int, 1 long, 2 a reference, 3 boolean -/
def x_code : FieldType → Nat
  | .int => 0
  | .long => 1
  | .boolean => 3
  | .object _ => 2
  | .array _ => 2
  | _ => 9
def x_tyf (c : Nat) : Nat → FieldType := match c with
  | 0 => tyX0
  | 1 => tyX1
  | 2 => tyX2
  | 3 => tyX3
  | 4 => tyX4
  | 5 => tyX5
  | 6 => tyX6
  | 7 => tyX7
  | 8 => tyX8
  | 9 => tyX9
  | _ => tyX10
def x_nf (c : Nat) : Nat := match c with
  | 0 => 6
  | 1 => 2
  | 2 => 8
  | 3 => 1
  | 4 => 5
  | 5 => 3
  | 6 => 8
  | 7 => 5
  | 8 => 11
  | 9 => 14
  | _ => 52
def x_fv (a : Nat → Nat) (σ : xS) (k : Nat) (t j : Nat) : Value := match t with
  | 1 => .long (x_J σ k j)
  | 2 => va_rf ((x_Q σ k j).map a)
  | _ => .int (x_I σ k j)
def x_fs (a : Nat → Nat) (σ : xS) (k c : Nat) : List Value := (List.range (x_nf c)).map fun j => x_fv a σ k (x_code (x_tyf c j)) j
/-- arrays: 11 ints, 12 longs, 13 lives, 14 sheets, 15 texts -/
def x_arr (a : Nat → Nat) (σ : xS) (k c : Nat) : (Nat → Int32) ⊕ (Nat → Int64) ⊕ (Nat → UInt32) ⊕ (Nat → UInt64) ⊕ (Nat → Option Nat) := match c with
  | 11 => .inl fun j => x_I σ k j
  | 12 => .inr (.inl fun j => x_J σ k j)
  | _ => .inr (.inr (.inr (.inr fun j => (x_Q σ k j).map a)))
def x_e (cy : Nat → ClassId) (a : Nat → Nat) (σ : xS) (k : Nat) (q : Nat × Nat) : va_E := if q.1 < 11 then .inr (q.1, x_fs a σ k q.1) else .inl (cy (q.1 - 11), q.2, x_arr a σ k q.1)
def x_W (cy : Nat → ClassId) (a : Nat → Nat) (σ : xS) : va_W := σ.1.mapIdx fun k q => (a k, x_e cy a σ k q)
abbrev x_tys (cy : Nat → ClassId) : List (ClassId × FieldType) := [(cy 0, .int), (cy 1, .long), (cy 2, .object RX2), (cy 3, .object RX5), (cy 4, .object RX7)]
def x_sz : List (Nat × Nat) → Nat
  | [] => 0
  | q :: r => (if q.1 < 11 then x_nf q.1 else q.2) + x_sz r
theorem x_sz_app (l : List (Nat × Nat)) (q : Nat × Nat) : x_sz (l ++ [q]) = x_sz l + (if q.1 < 11 then x_nf q.1 else q.2) := by
  induction l with
  | nil => simp [x_sz]
  | cons b l ih => simp only [List.cons_append, x_sz, ih]; omega
theorem x_nth_some {l : List (Nat × Nat)} {i : Nat} (h : (x_nth l i).1 ≠ 99) : l[i]? = some (x_nth l i) := by
  induction l generalizing i with
  | nil => exact absurd rfl h
  | cons b l ih =>
    cases i with
    | zero => rfl
    | succ i => exact ih h
theorem x_W_get {cy : Nat → ClassId} {a : Nat → Nat} {σ : xS} {k : Nat} {q : Nat × Nat} (h : σ.1[k]? = some q) : (x_W cy a σ)[k]? = some (a k, x_e cy a σ k q) := by
  rw [x_W, List.getElem?_mapIdx, h]; rfl
theorem x_W_obj {cy : Nat → ClassId} {a : Nat → Nat} {σ : xS} {k c : Nat} (h : (x_nth σ.1 k).1 = c) (hc : c < 11) : (x_W cy a σ)[k]? = some (a k, .inr (c, x_fs a σ k c)) := by
  have h1 := x_W_get (cy := cy) (a := a) (x_nth_some (l := σ.1) (i := k) (by rw [h]; omega))
  rw [h1, x_e, h, if_pos hc]
theorem x_W_arr {cy : Nat → ClassId} {a : Nat → Nat} {σ : xS} {k c : Nat} (h : (x_nth σ.1 k).1 = c) (h1 : 11 ≤ c) (h2 : c ≤ 15) : (x_W cy a σ)[k]? = some (a k, .inl (cy (c - 11), (x_nth σ.1 k).2, x_arr a σ k c)) := by
  have h3 := x_W_get (cy := cy) (a := a) (x_nth_some (l := σ.1) (i := k) (by rw [h]; omega))
  rw [h3, x_e, h, if_neg (by omega)]
theorem x_W_len (cy : Nat → ClassId) (a : Nat → Nat) (σ : xS) : (x_W cy a σ).length = σ.1.length := by rw [x_W, List.length_mapIdx]
/-- one cell changes -/
theorem x_W_set {cy : Nat → ClassId} {a : Nat → Nat} {σ τ : xS} {k : Nat} {e : va_E} (h1 : τ.1 = σ.1) (hk : k < σ.1.length) (he : ∀ q, σ.1[k]? = some q → x_e cy a τ k q = e) (ho : ∀ j q, j ≠ k → x_e cy a τ j q = x_e cy a σ j q) : (x_W cy a σ).set k (a k, e) = x_W cy a τ := by
  apply List.ext_getElem?
  intro j
  by_cases hj : j = k
  · subst hj
    rw [List.getElem?_set_self (by rw [x_W_len]; exact hk)]
    obtain ⟨q, hq⟩ : ∃ q, σ.1[j]? = some q := ⟨_, List.getElem?_eq_getElem hk⟩
    rw [x_W_get (cy := cy) (a := a) (σ := τ) (k := j) (q := q) (by rw [h1]; exact hq), he q hq]
  · rw [List.getElem?_set_ne (Ne.symm hj), x_W, x_W, List.getElem?_mapIdx, List.getElem?_mapIdx, h1]
    cases σ.1[j]? with
    | none => rfl
    | some q => show some (a j, x_e cy a σ j q) = some (a j, x_e cy a τ j q); rw [ho j q hj]
theorem x_beq (a b : Nat) : Nat.beq a b = decide (a = b) := by
  by_cases h : a = b
  · subst h; simp
  · rw [decide_eq_false h]
    cases hb : Nat.beq a b with
    | false => rfl
    | true => exact absurd (Nat.eq_of_beq_eq_true hb) h
theorem x_up_at {α : Type} (f : Nat → Nat → α) (k j : Nat) (v : α) (k' j' : Nat) : x_up f k j v k' j' = if k' = k ∧ j' = j then v else f k' j' := by
  unfold x_up
  rw [x_beq, x_beq, ← Bool.decide_and]
  by_cases h : k' = k ∧ j' = j
  · rw [if_pos h, decide_eq_true h]; rfl
  · rw [if_neg h, decide_eq_false h]; rfl
theorem x_row_at {α : Type} (f : Nat → Nat → α) (k : Nat) (g : Nat → α) (k' j' : Nat) : x_row f k g k' j' = if k' = k then g j' else f k' j' := by
  unfold x_row
  rw [x_beq]
  by_cases h : k' = k
  · rw [if_pos h, decide_eq_true h]; rfl
  · rw [if_neg h, decide_eq_false h]; rfl
theorem x_I_si (σ : xS) (a u : Nat) (x : Int32) (b w : Nat) : x_I (x_si σ a u x) b w = if b = a ∧ w = u then x else x_I σ b w := x_up_at _ _ _ _ _ _
theorem x_J_si (σ : xS) (a u : Nat) (x : Int32) (b w : Nat) : x_J (x_si σ a u x) b w = x_J σ b w := rfl
theorem x_Q_si (σ : xS) (a u : Nat) (x : Int32) (b w : Nat) : x_Q (x_si σ a u x) b w = x_Q σ b w := rfl
theorem x_I_sl (σ : xS) (a u : Nat) (x : Int64) (b w : Nat) : x_I (x_sl σ a u x) b w = x_I σ b w := rfl
theorem x_J_sl (σ : xS) (a u : Nat) (x : Int64) (b w : Nat) : x_J (x_sl σ a u x) b w = if b = a ∧ w = u then x else x_J σ b w := x_up_at _ _ _ _ _ _
theorem x_Q_sl (σ : xS) (a u : Nat) (x : Int64) (b w : Nat) : x_Q (x_sl σ a u x) b w = x_Q σ b w := rfl
theorem x_I_sr (σ : xS) (a u : Nat) (x : Option Nat) (b w : Nat) : x_I (x_sr σ a u x) b w = x_I σ b w := rfl
theorem x_J_sr (σ : xS) (a u : Nat) (x : Option Nat) (b w : Nat) : x_J (x_sr σ a u x) b w = x_J σ b w := rfl
theorem x_Q_sr (σ : xS) (a u : Nat) (x : Option Nat) (b w : Nat) : x_Q (x_sr σ a u x) b w = if b = a ∧ w = u then x else x_Q σ b w := x_up_at _ _ _ _ _ _
/-- two memories that agree at a cell have the same cell there -/
theorem x_e_congr {cy : Nat → ClassId} {a : Nat → Nat} {σ τ : xS} {k : Nat} (q : Nat × Nat) (hI : ∀ j, x_I τ k j = x_I σ k j) (hJ : ∀ j, x_J τ k j = x_J σ k j) (hQ : ∀ j, (x_Q τ k j).map a = (x_Q σ k j).map a) : x_e cy a τ k q = x_e cy a σ k q := by
  have h1 : ∀ t j, x_fv a τ k t j = x_fv a σ k t j := by
    intro t j
    unfold x_fv
    split
    · rw [hJ]
    · rw [hQ]
    · rw [hI]
  have h2 : ∀ c, x_fs a τ k c = x_fs a σ k c := fun c => List.map_congr_left fun j _ => h1 _ j
  have h3 : ∀ c, x_arr a τ k c = x_arr a σ k c := by
    intro c
    unfold x_arr
    split
    · rw [funext hI]
    · rw [funext hJ]
    · rw [funext hQ]
  unfold x_e
  rw [h2, h3]
theorem x_fs_set {a : Nat → Nat} {σ τ : xS} {k c u : Nat} {v : Value} (hu : u < x_nf c) (hv : x_fv a τ k (x_code (x_tyf c u)) u = v) (ho : ∀ j, j ≠ u → ∀ t, x_fv a τ k t j = x_fv a σ k t j) : (x_fs a σ k c).set u v = x_fs a τ k c := by
  apply List.ext_getElem?
  intro j
  by_cases hj : j = u
  · subst hj
    rw [List.getElem?_set_self (by simp [x_fs]; exact hu), x_fs, List.getElem?_map, List.getElem?_range hu]
    exact congrArg some hv.symm
  · rw [List.getElem?_set_ne (Ne.symm hj), x_fs, x_fs, List.getElem?_map, List.getElem?_map]
    cases h : (List.range (x_nf c))[j]? with
    | none => rfl
    | some i =>
      have hi : i = j := by
        rw [List.getElem?_range (by have := (List.getElem?_eq_some_iff.mp h).1; simpa using this)] at h
        exact (Option.some.inj h).symm
      rw [hi]
      exact congrArg some (ho j hj _).symm
theorem x_fs_get {a : Nat → Nat} {σ : xS} {k c u : Nat} (hu : u < x_nf c) : (x_fs a σ k c)[u]? = some (x_fv a σ k (x_code (x_tyf c u)) u) := by
  rw [x_fs, List.getElem?_map, List.getElem?_range hu]; rfl
theorem x_fs_len (a : Nat → Nat) (σ : xS) (k c : Nat) : (x_fs a σ k c).length = x_nf c := by simp [x_fs]
/-! locals -/
def x_lv (a : Nat → Nat) : Nat → xL → List (Nat × Value)
  | _, [] => []
  | i, none :: r => x_lv a (i + 1) r
  | i, some v :: r => (i, x_tr a v) :: x_lv a (i + 1) r
theorem x_lv_mem {a : Nat → Nat} {i : Nat} {w : Value} : ∀ {L : xL} {n : Nat}, (i, w) ∈ x_lv a n L ↔ ∃ j v, i = n + j ∧ x_at L j = some v ∧ w = x_tr a v
  | [], n => by simp [x_lv, x_at]
  | none :: r, n => by
    rw [x_lv, x_lv_mem (L := r) (n := n + 1)]
    constructor
    · rintro ⟨j, v, h1, h2, h3⟩
      exact ⟨j + 1, v, by omega, h2, h3⟩
    · rintro ⟨j, v, h1, h2, h3⟩
      cases j with
      | zero => cases h2
      | succ j => exact ⟨j, v, by omega, h2, h3⟩
  | some u :: r, n => by
    rw [x_lv, List.mem_cons, x_lv_mem (L := r) (n := n + 1)]
    constructor
    · rintro (h | ⟨j, v, h1, h2, h3⟩)
      · cases h
        exact ⟨0, u, rfl, rfl, rfl⟩
      · exact ⟨j + 1, v, by omega, h2, h3⟩
    · rintro ⟨j, v, h1, h2, h3⟩
      cases j with
      | zero =>
        cases h2
        exact Or.inl (by rw [h1, h3]; rfl)
      | succ j => exact Or.inr ⟨j, v, by omega, h2, h3⟩
theorem x_lv_at {a : Nat → Nat} {ls : Array Slot} {nL i : Nat} {L : xL} {v : xV} (h : lv_has ls nL (x_lv a 0 L)) (hv : x_at L i = some v) : ls[i]? = some (.val (x_tr a v)) := h.2.2 (i, x_tr a v) (x_lv_mem.mpr ⟨i, v, by omega, hv, rfl⟩)
theorem lv_less {ls : Array Slot} {nL : Nat} {l l' : List (Nat × Value)} (h : lv_has ls nL l) (hs : ∀ q ∈ l', q ∈ l) : lv_has ls nL l' := ⟨h.1, h.2.1, fun q hq => h.2.2 q (hs q hq)⟩
theorem x_at_put : ∀ (L : xL) (i : Nat) (o : Option xV) (j : Nat) (v : xV), x_at (x_put L i o) j = some v → (j = i ∧ o = some v) ∨ (j ≠ i ∧ x_at L j = some v)
  | [], i, o, j, v, h => by cases h
  | _ :: r, 0, o, 0, v, h => Or.inl ⟨rfl, h⟩
  | _ :: r, 0, o, j + 1, v, h => Or.inr ⟨by omega, h⟩
  | b :: r, i + 1, o, 0, v, h => Or.inr ⟨by omega, h⟩
  | b :: r, i + 1, o, j + 1, v, h => by
    rcases x_at_put r i o j v h with ⟨h1, h2⟩ | ⟨h1, h2⟩
    · exact Or.inl ⟨by omega, h2⟩
    · exact Or.inr ⟨by omega, h2⟩
theorem x_un_some {o : Option xV} {v : xV} (h : x_un o = some v) : o = some v ∧ x_cat v = 1 := by
  rcases o with _ | (x | x | x)
  · cases h
  · cases h; exact ⟨rfl, rfl⟩
  · cases h
  · cases h; exact ⟨rfl, rfl⟩
theorem x_at_clr : ∀ (L : xL) (i j : Nat) (v : xV), x_at (x_clr L i) j = some v → x_at L j = some v ∧ (j + 1 = i → x_cat v = 1)
  | [], i, j, v, h => by cases h
  | b :: r, 0, j, v, h => ⟨h, fun q => by omega⟩
  | b :: r, 1, 0, v, h => by
    obtain ⟨h1, h2⟩ := x_un_some (show x_un b = some v from h)
    exact ⟨h1, fun _ => h2⟩
  | b :: r, 1, j + 1, v, h => ⟨h, fun q => by omega⟩
  | b :: r, i + 2, 0, v, h => ⟨h, fun q => by omega⟩
  | b :: r, i + 2, j + 1, v, h => by
    obtain ⟨h1, h2⟩ := x_at_clr r (i + 1) j v h
    exact ⟨h1, fun q => h2 (by omega)⟩
theorem x_cat_tr (a : Nat → Nat) (v : xV) : (x_tr a v).category = x_cat v := by
  rcases v with x | x | q
  · rfl
  · rfl
  · cases q <;> rfl
/-- storing one word -/
theorem x_st1 {a : Nat → Nat} {ls : Array Slot} {nL i : Nat} {L : xL} {v : xV} (h : lv_has ls nL ((i, x_tr a v) :: (x_lv a 0 L).filter (fun q => !(q.1 == i) && !(q.1 + 1 == i && q.2.category == 2)))) : lv_has ls nL (x_lv a 0 (x_put (x_clr L i) i (some v))) := by
  refine lv_less h ?_
  rintro ⟨j, w⟩ hq
  obtain ⟨j', u, e1, e2, e3⟩ := x_lv_mem.mp hq
  have e1 : j = j' := by omega
  subst e1
  rcases x_at_put _ _ _ _ _ e2 with ⟨h1, h2⟩ | ⟨h1, h2⟩
  · cases h2
    rw [h1, e3]
    exact List.mem_cons_self
  · obtain ⟨h3, h4⟩ := x_at_clr _ _ _ _ h2
    refine List.mem_cons_of_mem _ (List.mem_filter.mpr ⟨x_lv_mem.mpr ⟨j, u, by omega, h3, e3⟩, ?_⟩)
    have c1 : ((j == i) = false) := by simpa using h1
    have c2 : (j + 1 == i && w.category == 2) = false := by
      by_cases hh : j + 1 = i
      · rw [e3, x_cat_tr, h4 hh]; simp
      · simp [hh]
    simp only [c1, c2]; rfl
theorem x_st2 {a : Nat → Nat} {ls : Array Slot} {nL i : Nat} {L : xL} {v : xV} (h : lv_has ls nL ((i, x_tr a v) :: (x_lv a 0 L).filter (fun q => !(q.1 == i) && (!(q.1 == i + 1) && !(q.1 + 1 == i && q.2.category == 2))))) : lv_has ls nL (x_lv a 0 (x_put (x_put (x_clr L i) i (some v)) (i + 1) none)) := by
  refine lv_less h ?_
  rintro ⟨j, w⟩ hq
  obtain ⟨j', u, e1, e2, e3⟩ := x_lv_mem.mp hq
  have e1 : j = j' := by omega
  subst e1
  rcases x_at_put _ _ _ _ _ e2 with ⟨h1, h2⟩ | ⟨h0, h2⟩
  · cases h2
  · rcases x_at_put _ _ _ _ _ h2 with ⟨h1, h2⟩ | ⟨h1, h2⟩
    · cases h2
      rw [h1, e3]
      exact List.mem_cons_self
    · obtain ⟨h3, h4⟩ := x_at_clr _ _ _ _ h2
      refine List.mem_cons_of_mem _ (List.mem_filter.mpr ⟨x_lv_mem.mpr ⟨j, u, by omega, h3, e3⟩, ?_⟩)
      have c0 : ((j == i + 1) = false) := by simpa using h0
      have c1 : ((j == i) = false) := by simpa using h1
      have c2 : (j + 1 == i && w.category == 2) = false := by
        by_cases hh : j + 1 = i
        · rw [e3, x_cat_tr, h4 hh]; simp
        · simp [hh]
      simp only [c0, c1, c2]; rfl
theorem x_at_mask : ∀ (mk : List Bool) (L : xL) (j : Nat) (v : xV), x_at (x_mask mk L) j = some v → x_at L j = some v
  | [], L, j, v, h => by cases L <;> cases h
  | true :: m, [], j, v, h => by cases h
  | false :: m, [], j, v, h => by cases h
  | true :: m, b :: r, 0, v, h => h
  | true :: m, b :: r, j + 1, v, h => x_at_mask m r j v h
  | false :: m, b :: r, 0, v, h => by cases h
  | false :: m, b :: r, j + 1, v, h => x_at_mask m r j v h
theorem x_lv_mask {a : Nat → Nat} {ls : Array Slot} {nL : Nat} {L : xL} (mk : List Bool) (h : lv_has ls nL (x_lv a 0 L)) : lv_has ls nL (x_lv a 0 (x_mask mk L)) := by
  refine lv_less h ?_
  rintro ⟨j, w⟩ hq
  obtain ⟨j', u, e1, e2, e3⟩ := x_lv_mem.mp hq
  exact x_lv_mem.mpr ⟨j', u, e1, x_at_mask mk L j' u e2, e3⟩
/-- the locals' addresses may be told otherwise where none is used -/
theorem x_lv_entry (a : Nat → Nat) : ∀ (vs : List xV) (n i : Nat) (q : Nat × Value), q ∈ x_lv a i (x_args vs n) → q ∈ lv_args i (vs.map (x_tr a))
  | [], n, i, q, h => by
    exfalso
    obtain ⟨j, w⟩ := q
    obtain ⟨j', u, e1, e2, e3⟩ := x_lv_mem.mp h
    have h0 : ∀ (n j : Nat), x_at (List.replicate n none) j = none := by
      intro n
      induction n with
      | zero => intro j; rfl
      | succ n ih =>
        intro j
        cases j with
        | zero => rfl
        | succ j => exact ih j
    rw [show x_args [] n = List.replicate n none from rfl, h0] at e2
    cases e2
  | .inl x :: vs, n, i, q, h => by
    have h : q ∈ (i, x_tr a (.inl x)) :: x_lv a (i + 1) (x_args vs (n - 1)) := h
    show q ∈ (i, Value.int x) :: lv_args (if (Value.int x).category = 2 then i + 2 else i + 1) (vs.map (x_tr a))
    rw [if_neg (show ¬ (Value.int x).category = 2 from (by decide : ¬ (1 : Nat) = 2))]
    rcases List.mem_cons.mp h with h | h
    · exact List.mem_cons.mpr (Or.inl h)
    · exact List.mem_cons_of_mem _ (x_lv_entry a vs (n - 1) (i + 1) q h)
  | .inr (.inl x) :: vs, n, i, q, h => by
    have h : q ∈ (i, x_tr a (.inr (.inl x))) :: x_lv a (i + 1 + 1) (x_args vs (n - 2)) := h
    show q ∈ (i, Value.long x) :: lv_args (if (Value.long x).category = 2 then i + 2 else i + 1) (vs.map (x_tr a))
    rw [if_pos (by rfl)]
    rcases List.mem_cons.mp h with h | h
    · exact List.mem_cons.mpr (Or.inl h)
    · exact List.mem_cons_of_mem _ (x_lv_entry a vs (n - 2) (i + 2) q h)
  | .inr (.inr x) :: vs, n, i, q, h => by
    have h : q ∈ (i, x_tr a (.inr (.inr x))) :: x_lv a (i + 1) (x_args vs (n - 1)) := h
    show q ∈ (i, x_tr a (.inr (.inr x))) :: lv_args (if (x_tr a (.inr (.inr x))).category = 2 then i + 2 else i + 1) (vs.map (x_tr a))
    rw [if_neg (show ¬ (x_tr a (.inr (.inr x))).category = 2 by rw [x_cat_tr]; exact (by decide : ¬ (1 : Nat) = 2))]
    rcases List.mem_cons.mp h with h | h
    · exact List.mem_cons.mpr (Or.inl h)
    · exact List.mem_cons_of_mem _ (x_lv_entry a vs (n - 1) (i + 1) q h)
theorem x_cs_tr (a : Nat → Nat) (S : List xV) : ((S.map (x_tr a)).map fun v => v.category).sum = x_cs S := by
  induction S with
  | nil => rfl
  | cons v S ih => simp only [List.map_cons, List.sum_cons, x_cs, ih, x_cat_tr]
