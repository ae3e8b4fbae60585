/-! the run's limit: a road taken as long as it needs -/
def x_D (φ : (Nat → xF) → Option xR) : Prop := (∃ (pc : Nat) (L : xL) (S : List xV) (σ : xS), ∀ k, φ k = k pc L S σ) ∨ ∃ R : Option xR, ∀ k, φ k = R
theorem x_D_c (R : Option xR) : x_D (fun _ => R) := Or.inr ⟨R, fun _ => rfl⟩
theorem x_D_if {c : Prop} {hc : Decidable c} {A B : (Nat → xF) → Option xR} (ha : x_D A) (hb : x_D B) : x_D (fun k => @ite _ c hc (A k) (B k)) := by
  by_cases h : c
  · simp only [if_pos h]; exact ha
  · simp only [if_neg h]; exact hb
theorem x_D_b (c : Bool) {A B : (Nat → xF) → Option xR} (ha : x_D A) (hb : x_D B) : x_D (fun k => bif c then A k else B k) := by
  cases c
  · exact hb
  · exact ha
theorem x_D_der (q : Option Nat) {K : (Nat → xF) → Nat → Option xR} (h : ∀ a, x_D (fun k => K k a)) : x_D (fun k => x_der q (K k)) := by
  cases q with
  | none => exact x_D_c none
  | some a => exact h a
theorem x_D_nul (q : Option Nat) {A B : (Nat → xF) → Option xR} (ha : x_D A) (hb : x_D B) : x_D (fun k => x_nul q (A k) (B k)) := by
  cases q with
  | none => exact ha
  | some a => exact hb
theorem x_D_ck (σ : xS) (a c : Nat) {A : (Nat → xF) → Option xR} (ha : x_D A) : x_D (fun k => x_ck σ a c (A k)) := x_D_b _ ha (x_D_c none)
theorem x_D_ak (σ : xS) (a c : Nat) {A : (Nat → xF) → Nat → Option xR} (ha : ∀ n, x_D (fun k => A k n)) : x_D (fun k => x_ak σ a c (A k)) := x_D_b _ (ha _) (x_D_c none)
theorem x_D_aq (σ : xS) (a : Nat) {A : (Nat → xF) → Nat → Option xR} (ha : ∀ n, x_D (fun k => A k n)) : x_D (fun k => x_aq σ a (A k)) := x_D_b _ (ha _) (x_D_c none)
theorem x_D_aa (σ : xS) (a : Nat) {A : (Nat → xF) → Nat → Option xR} (ha : ∀ n, x_D (fun k => A k n)) : x_D (fun k => x_aa σ a (A k)) := x_D_b _ (ha _) (x_D_c none)
theorem x_D_ix (i : Int32) (n : Nat) {A : (Nat → xF) → Option xR} (ha : x_D A) : x_D (fun k => x_ix i n (A k)) := x_D_if (x_D_c none) ha
theorem x_D_bl (x : Int32) {A : (Nat → xF) → Option xR} (ha : x_D A) : x_D (fun k => x_bl x (A k)) := x_D_if ha (x_D_c none)
theorem x_D_icmp (c : Jvm.ClassFile.Cond) (x y : Int32) {A B : (Nat → xF) → Option xR} (ha : x_D A) (hb : x_D B) : x_D (fun k => x_icmp c x y (A k) (B k)) := by
  cases c
  · exact x_D_if ha hb
  · exact x_D_if hb ha
  · exact x_D_if ha hb
  · exact x_D_if ha hb
  · exact x_D_if ha hb
  · exact x_D_if ha hb
theorem x_D_sw (x : Int32) {K : (Nat → xF) → Nat → Option xR} {D : (Nat → xF) → Option xR} (hK : ∀ t, x_D (fun k => K k t)) (hD : x_D D) : ∀ l : List (Int32 × Nat), x_D (fun k => x_sw x (K k) (D k) l)
  | [] => hD
  | (c, t) :: l => x_D_if (hK t) (x_D_sw x hK hD l)
theorem x_D_cv (o : Option xR) {K : (Nat → xF) → xS → Option xR} (h : ∀ σ, x_D (fun k => K k σ)) : x_D (fun k => x_cv o (K k)) := by
  match o with
  | none => exact x_D_c none
  | some (none, σ) => exact h σ
  | some (some _, σ) => exact x_D_c none
theorem x_D_ci (o : Option xR) {K : (Nat → xF) → Int32 → xS → Option xR} (h : ∀ x σ, x_D (fun k => K k x σ)) : x_D (fun k => x_ci o (K k)) := by
  match o with
  | none => exact x_D_c none
  | some (none, σ) => exact x_D_c none
  | some (some (.inl x), σ) => exact h x σ
  | some (some (.inr _), σ) => exact x_D_c none
theorem x_D_cl (o : Option xR) {K : (Nat → xF) → Int64 → xS → Option xR} (h : ∀ x σ, x_D (fun k => K k x σ)) : x_D (fun k => x_cl o (K k)) := by
  match o with
  | none => exact x_D_c none
  | some (none, σ) => exact x_D_c none
  | some (some (.inl x), σ) => exact x_D_c none
  | some (some (.inr (.inl x)), σ) => exact h x σ
  | some (some (.inr (.inr _)), σ) => exact x_D_c none
theorem x_D_cr (o : Option xR) {K : (Nat → xF) → Option Nat → xS → Option xR} (h : ∀ x σ, x_D (fun k => K k x σ)) : x_D (fun k => x_cr o (K k)) := by
  match o with
  | none => exact x_D_c none
  | some (none, σ) => exact x_D_c none
  | some (some (.inl x), σ) => exact x_D_c none
  | some (some (.inr (.inl x)), σ) => exact x_D_c none
  | some (some (.inr (.inr q)), σ) => exact h q σ
theorem x_D_call (o : Option xR) (v : Nat) {K : (Nat → xF) → xF} (h : ∀ L S σ, x_D (fun k => K k L S σ)) (L : xL) (S : List xV) : x_D (fun k => x_call o v (K k) L S) := by
  refine x_D_b _ ?_ (x_D_c none)
  match v with
  | 0 => exact x_D_cv o fun σ => h L S σ
  | 1 => exact x_D_ci o fun x σ => h L (.inl x :: S) σ
  | 2 => exact x_D_cl o fun x σ => h L (.inr (.inl x) :: S) σ
  | v + 3 => exact x_D_cr o fun x σ => h L (.inr (.inr x) :: S) σ
theorem x_D_rv (args : List xV) (σ : xS) (z : Nat) {A : (Nat → xF) → Option xR} (ha : x_D A) : x_D (fun k => x_rv args σ z (A k)) := by
  match args with
  | [] => exact x_D_c none
  | .inl _ :: _ => exact x_D_c none
  | .inr (.inl _) :: _ => exact x_D_c none
  | .inr (.inr q) :: _ => exact x_D_der q fun a => x_D_ck σ a z ha
theorem x_D_go {bf : (Nat → xF) → List xRow → xF} (h : ∀ r L S σ, x_D (fun k => bf k r L S σ)) (r : List xRow) (L : xL) (S : List xV) (σ : xS) : x_D (fun k => x_go k (bf k) r L S σ) := by
  match r with
  | [] => exact x_D_c none
  | (pc, ins, len, [], y) :: r => exact h _ L S σ
  | (pc, ins, len, b :: bs, y) :: r => exact Or.inl ⟨pc, x_mask (b :: bs) L, S, σ, fun _ => rfl⟩
set_option maxHeartbeats 4000000 in
theorem x_D_pure {K : (Nat → xF) → xL → List xV → Option xR} {N : (Nat → xF) → Option xR} (h : ∀ L S, x_D (fun k => K k L S)) (hN : x_D N) (ins : Instr) (cv : xV) (L : xL) (S : List xV) : x_D (fun k => x_pure ins cv L S (K k) (N k)) := by
  cases ins
  case iload i =>
    show x_D (fun k => match x_at L i with
      | some (.inl x) => K k L (.inl x :: S)
      | _ => none)
    rcases x_at L i with _ | (x | x | x) <;> first | exact x_D_c none | exact h _ _
  case iload_n i =>
    show x_D (fun k => match x_at L i.val with
      | some (.inl x) => K k L (.inl x :: S)
      | _ => none)
    rcases x_at L i.val with _ | (x | x | x) <;> first | exact x_D_c none | exact h _ _
  case lload i =>
    show x_D (fun k => match x_at L i with
      | some (.inr (.inl x)) => K k L (.inr (.inl x) :: S)
      | _ => none)
    rcases x_at L i with _ | (x | x | x) <;> first | exact x_D_c none | exact h _ _
  case lload_n i =>
    show x_D (fun k => match x_at L i.val with
      | some (.inr (.inl x)) => K k L (.inr (.inl x) :: S)
      | _ => none)
    rcases x_at L i.val with _ | (x | x | x) <;> first | exact x_D_c none | exact h _ _
  case aload i =>
    show x_D (fun k => match x_at L i with
      | some (.inr (.inr q)) => K k L (.inr (.inr q) :: S)
      | _ => none)
    rcases x_at L i with _ | (x | x | x) <;> first | exact x_D_c none | exact h _ _
  case aload_n i =>
    show x_D (fun k => match x_at L i.val with
      | some (.inr (.inr q)) => K k L (.inr (.inr q) :: S)
      | _ => none)
    rcases x_at L i.val with _ | (x | x | x) <;> first | exact x_D_c none | exact h _ _
  case iinc i n =>
    show x_D (fun k => match x_at L i, cv with
      | some (.inl x), .inl y => K k (x_put (x_clr L i) i (some (.inl (x + y)))) S
      | _, _ => none)
    rcases x_at L i with _ | (x | x | x) <;> rcases cv with y | y <;> first | exact x_D_c none | exact h _ _
  all_goals first
    | exact hN
    | exact h _ _
    | (rcases S with _ | ⟨x | x | x, S⟩ <;> first
        | exact x_D_c none
        | exact h _ _
        | (rcases S with _ | ⟨y | y | y, S⟩ <;> first
            | exact x_D_c none
            | exact h _ _))
set_option maxHeartbeats 4000000 in
theorem x_D_i {O : Nat → List xV → xS → Option xR} {X : Nat × (Nat → Int32)} {TX : Nat → List Int32} {C : List xRow} {bf : (Nat → xF) → List xRow → xF} (h0 : ∀ r L S σ, x_D (fun k => bf k r L S σ)) (ins : Instr) (sw : List (Int32 × Nat)) (t u v w z : Nat) (r : List xRow) (L : xL) (S : List xV) (σ : xS) : x_D (fun k => x_i O X TX C k (bf k) ins sw t u v w z r L S σ) := by
  have h := fun r L S σ => x_D_go h0 r L S σ
  cases ins
  case goto => exact h _ _ _ _
  case ifCond c _ =>
    rcases S with _ | ⟨x | x, S⟩ <;> try exact x_D_c none
    exact x_D_icmp c _ _ (h _ _ _ _) (h _ _ _ _)
  case if_icmp c _ =>
    rcases S with _ | ⟨y | y, _ | ⟨x | x, S⟩⟩ <;> try exact x_D_c none
    exact x_D_icmp c _ _ (h _ _ _ _) (h _ _ _ _)
  case ifnull =>
    rcases S with _ | ⟨x | x | q, S⟩ <;> try exact x_D_c none
    exact x_D_nul q (h _ _ _ _) (h _ _ _ _)
  case ifnonnull =>
    rcases S with _ | ⟨x | x | q, S⟩ <;> try exact x_D_c none
    exact x_D_nul q (h _ _ _ _) (h _ _ _ _)
  case tableswitch =>
    rcases S with _ | ⟨x | x, S⟩ <;> try exact x_D_c none
    exact x_D_sw x (fun t => h _ _ _ _) (h _ _ _ _) sw
  case idiv =>
    rcases S with _ | ⟨y | y, _ | ⟨x | x, S⟩⟩ <;> try exact x_D_c none
    exact x_D_if (x_D_c none) (h _ _ _ _)
  case irem =>
    rcases S with _ | ⟨y | y, _ | ⟨x | x, S⟩⟩ <;> try exact x_D_c none
    exact x_D_if (x_D_c none) (h _ _ _ _)
  case ldiv =>
    rcases S with _ | ⟨y | y | y, _ | ⟨x | x | x, S⟩⟩ <;> try exact x_D_c none
    exact x_D_if (x_D_c none) (h _ _ _ _)
  case lrem =>
    rcases S with _ | ⟨y | y | y, _ | ⟨x | x | x, S⟩⟩ <;> try exact x_D_c none
    exact x_D_if (x_D_c none) (h _ _ _ _)
  case getfield =>
    rcases S with _ | ⟨x | x | q, S⟩ <;> try exact x_D_c none
    exact x_D_der q fun a => x_D_ck σ a t (h _ _ _ _)
  case putfield =>
    rcases S with _ | ⟨y | y | y, _ | ⟨x | x | q, S⟩⟩ <;> try exact x_D_c none
    · refine x_D_der q fun a => x_D_ck σ a t ?_
      match v with
      | 0 => exact h _ _ _ _
      | 1 => exact x_D_c none
      | 2 => exact x_D_c none
      | 3 => exact x_D_bl _ (h _ _ _ _)
      | v + 4 => exact x_D_c none
    · refine x_D_der q fun a => x_D_ck σ a t ?_
      match v with
      | 0 => exact x_D_c none
      | 1 => exact h _ _ _ _
      | v + 2 => exact x_D_c none
    · refine x_D_der q fun a => x_D_ck σ a t ?_
      match v with
      | 0 => exact x_D_c none
      | 1 => exact x_D_c none
      | 2 => exact h _ _ _ _
      | v + 3 => exact x_D_c none
  case iaload =>
    rcases S with _ | ⟨y | y | y, _ | ⟨x | x | q, S⟩⟩ <;> try exact x_D_c none
    refine x_D_der q fun a => ?_
    match v with
    | 0 => exact x_D_ak σ a 11 fun n => x_D_ix _ _ (h _ _ _ _)
    | 1 => exact x_D_b _ (x_D_ix _ _ (h _ _ _ _)) (x_D_c none)
    | v + 2 => exact x_D_ak σ a 11 fun n => x_D_ix _ _ (h _ _ _ _)
  case laload =>
    rcases S with _ | ⟨y | y | y, _ | ⟨x | x | q, S⟩⟩ <;> try exact x_D_c none
    exact x_D_der q fun a => x_D_ak σ a 12 fun n => x_D_ix _ _ (h _ _ _ _)
  case aaload =>
    rcases S with _ | ⟨y | y | y, _ | ⟨x | x | q, S⟩⟩ <;> try exact x_D_c none
    exact x_D_der q fun a => x_D_aq σ a fun n => x_D_ix _ _ (h _ _ _ _)
  case iastore =>
    rcases S with _ | ⟨x | x | x, _ | ⟨y | y | y, _ | ⟨z | z | q, S⟩⟩⟩ <;> try exact x_D_c none
    exact x_D_der q fun a => x_D_ak σ a 11 fun n => x_D_ix _ _ (h _ _ _ _)
  case lastore =>
    rcases S with _ | ⟨x | x | x, _ | ⟨y | y | y, _ | ⟨z | z | q, S⟩⟩⟩ <;> try exact x_D_c none
    exact x_D_der q fun a => x_D_ak σ a 12 fun n => x_D_ix _ _ (h _ _ _ _)
  case aastore =>
    rcases S with _ | ⟨x | x | x, _ | ⟨y | y | y, _ | ⟨z | z | q, S⟩⟩⟩ <;> try exact x_D_c none
    exact x_D_der q fun a => x_D_aq σ a fun n => x_D_ix _ _ (x_D_der x fun b => x_D_ck σ b _ (h _ _ _ _))
  case arraylength =>
    rcases S with _ | ⟨x | x | q, S⟩ <;> try exact x_D_c none
    refine x_D_der q fun a => ?_
    match v with
    | 0 => exact x_D_aa σ a fun n => h _ _ _ _
    | 1 => exact x_D_b _ (h _ _ _ _) (x_D_c none)
    | v + 2 => exact x_D_aa σ a fun n => h _ _ _ _
  case new => exact x_D_b _ (h _ _ _ _) (x_D_c none)
  case newarray =>
    rcases S with _ | ⟨x | x, S⟩ <;> try exact x_D_c none
    exact x_D_b _ (x_D_if (x_D_c none) (h _ _ _ _)) (x_D_c none)
  case anewarray =>
    rcases S with _ | ⟨x | x, S⟩ <;> try exact x_D_c none
    exact x_D_b _ (x_D_if (x_D_c none) (h _ _ _ _)) (x_D_c none)
  case invokestatic =>
    match w with
    | 0 =>
      show x_D (fun k => match x_pop u S [] with
        | some (args, S) => x_call (O t args σ) v (x_go k (bf k) r) L S
        | none => none)
      cases x_pop u S [] with
      | none => exact x_D_c none
      | some q => exact x_D_call _ v (fun L S σ => h r L S σ) L q.2
    | 1 =>
      rcases S with _ | ⟨y | y, _ | ⟨x | x, S⟩⟩ <;> try exact x_D_c none
      exact x_D_b _ (h _ _ _ _) (x_D_c none)
    | 2 =>
      rcases S with _ | ⟨y | y, _ | ⟨x | x, S⟩⟩ <;> try exact x_D_c none
      exact x_D_b _ (h _ _ _ _) (x_D_c none)
    | 3 =>
      rcases S with _ | ⟨y | y, S⟩ <;> try exact x_D_c none
      exact x_D_b _ (h _ _ _ _) (x_D_c none)
    | w + 4 =>
      rcases S with _ | ⟨n | n, _ | ⟨dp | dp, _ | ⟨q1 | q1 | q1, _ | ⟨sp | sp, _ | ⟨q0 | q0 | q0, S⟩⟩⟩⟩⟩ <;> try exact x_D_c none
      exact x_D_b _ (x_D_der q0 fun a0 => x_D_der q1 fun a1 => x_D_ak σ a0 11 fun n0 => x_D_ak σ a1 11 fun n1 => x_D_if (x_D_c none) (x_D_if (h _ _ _ _) (x_D_c none))) (x_D_c none)
  case invokevirtual =>
    match w with
    | 0 =>
      show x_D (fun k => match x_pop u S [] with
        | some (args, S) => x_rv args σ z (x_call (O t args σ) v (x_go k (bf k) r) L S)
        | none => none)
      cases x_pop u S [] with
      | none => exact x_D_c none
      | some q => exact x_D_rv q.1 σ z (x_D_call _ v (fun L S σ => h r L S σ) L q.2)
    | 5 =>
      rcases S with _ | ⟨x | x | q, S⟩ <;> try exact x_D_c none
      exact x_D_b _ (x_D_der q fun a => x_D_b _ (h _ _ _ _) (x_D_c none)) (x_D_c none)
    | 1 | 2 | 3 | 4 | w + 6 =>
      rcases S with _ | ⟨x | x | q, _ | ⟨y | y | q, S⟩⟩ <;> try exact x_D_c none
      exact x_D_b _ (x_D_der q fun a => x_D_b _ (x_D_ix _ _ (h _ _ _ _)) (x_D_c none)) (x_D_c none)
  case invokespecial =>
    match w with
    | 0 =>
      show x_D (fun k => match x_pop u S [] with
        | some (args, S) => (match args with
          | .inr (.inr (some _)) :: _ => x_call (O t args σ) v (x_go k (bf k) r) L S
          | _ => none)
        | none => none)
      cases x_pop u S [] with
      | none => exact x_D_c none
      | some q =>
        rcases q with ⟨_ | ⟨x | x | _ | x, as⟩, S2⟩ <;> try exact x_D_c none
        exact x_D_call _ v (fun L S σ => h r L S σ) L S2
    | w + 1 =>
      rcases S with _ | ⟨x | x | q, S⟩ <;> try exact x_D_c none
      exact x_D_b _ (x_D_der q fun a => h _ _ _ _) (x_D_c none)
  all_goals exact x_D_c _
theorem x_D_bb {O : Nat → List xV → xS → Option xR} {X : Nat × (Nat → Int32)} {TX : Nat → List Int32} {C : List xRow} : ∀ (f : Nat) (r : List xRow) (L : xL) (S : List xV) (σ : xS), x_D (fun k => x_b O X TX C k f r L S σ)
  | 0, _, _, _, _ => x_D_c none
  | f + 1, [], _, _, _ => x_D_c none
  | f + 1, q :: r, L, S, σ => by
    have ih := x_D_bb (O := O) (X := X) (TX := TX) (C := C) f
    exact x_D_pure (fun L S => x_D_go ih r L S σ) (x_D_i ih _ _ _ _ _ _ _ r L S σ) _ _ L S
noncomputable def x_lim (f : Nat → Option xR) : Option xR := @dite _ (∃ n, (f n).isSome = true) (Classical.propDecidable _) (fun h => f (Classical.choose h)) (fun _ => none)
theorem x_lim_some {f : Nat → Option xR} (hm : ∀ n r, f n = some r → f (n + 1) = some r) {r : xR} : x_lim f = some r ↔ ∃ n, f n = some r := by
  have up : ∀ (k n : Nat) (r : xR), f n = some r → f (n + k) = some r := by
    intro k
    induction k with
    | zero => exact fun n r h => h
    | succ k ih => exact fun n r h => hm _ _ (ih n r h)
  constructor
  · intro h
    unfold x_lim at h
    split at h
    next h1 => exact ⟨_, h⟩
    next => cases h
  · rintro ⟨n, hn⟩
    have h1 : ∃ n, (f n).isSome = true := ⟨n, by rw [hn]; rfl⟩
    unfold x_lim
    rw [dif_pos h1]
    obtain ⟨r2, h2⟩ := Option.isSome_iff_exists.mp (Classical.choose_spec h1)
    rw [h2]
    have e1 := up (Classical.choose h1) n r hn
    have e2 := up n (Classical.choose h1) r2 h2
    rw [Nat.add_comm] at e2
    rw [e1] at e2
    rw [Option.some.inj e2]
theorem x_m_up {O : Nat → List xV → xS → Option xR} {X : Nat × (Nat → Int32)} {TX : Nat → List Int32} {C : List xRow} : ∀ (n pc : Nat) (L : xL) (S : List xV) (σ : xS) (r : xR), x_m O X TX C n pc L S σ = some r → x_m O X TX C (n + 1) pc L S σ = some r
  | 0, _, _, _, _, _, h => by cases h
  | n + 1, pc, L, S, σ, r, h => by
    rcases x_D_bb (O := O) (X := X) (TX := TX) (C := C) 3000 (x_suf C pc) L S σ with ⟨pc2, L2, S2, σ2, e⟩ | ⟨R, e⟩
    · have h1 : x_m O X TX C n pc2 L2 S2 σ2 = some r := (e _).symm.trans h
      exact (e _).trans (x_m_up n pc2 L2 S2 σ2 r h1)
    · exact ((e _).trans (e _).symm).trans h
noncomputable def x_F (O : Nat → List xV → xS → Option xR) (X : Nat × (Nat → Int32)) (TX : Nat → List Int32) (C : List xRow) : Nat → xF := fun pc L S σ => x_lim fun n => x_m O X TX C n pc L S σ
theorem x_F_some {O : Nat → List xV → xS → Option xR} {X : Nat × (Nat → Int32)} {TX : Nat → List Int32} {C : List xRow} {pc : Nat} {L : xL} {S : List xV} {σ : xS} {r : xR} : x_F O X TX C pc L S σ = some r ↔ ∃ n, x_m O X TX C n pc L S σ = some r := x_lim_some fun n r h => x_m_up n pc L S σ r h
theorem x_F_eq (O : Nat → List xV → xS → Option xR) (X : Nat × (Nat → Int32)) (TX : Nat → List Int32) (C : List xRow) (pc : Nat) (L : xL) (S : List xV) (σ : xS) : x_F O X TX C pc L S σ = x_b O X TX C (x_F O X TX C) 3000 (x_suf C pc) L S σ := by
  have key : ∀ r, x_F O X TX C pc L S σ = some r ↔ x_b O X TX C (x_F O X TX C) 3000 (x_suf C pc) L S σ = some r := by
    intro r
    rw [x_F_some]
    rcases x_D_bb (O := O) (X := X) (TX := TX) (C := C) 3000 (x_suf C pc) L S σ with ⟨pc2, L2, S2, σ2, e⟩ | ⟨R, e⟩
    · have e' : x_b O X TX C (x_F O X TX C) 3000 (x_suf C pc) L S σ = x_F O X TX C pc2 L2 S2 σ2 := e _
      rw [e', x_F_some]
      constructor
      · rintro ⟨n, hn⟩
        cases n with
        | zero => cases hn
        | succ n => exact ⟨n, (e _).symm.trans hn⟩
      · rintro ⟨n, hn⟩
        exact ⟨n + 1, (e _).trans hn⟩
    · have e' : x_b O X TX C (x_F O X TX C) 3000 (x_suf C pc) L S σ = R := e _
      rw [e']
      constructor
      · rintro ⟨n, hn⟩
        cases n with
        | zero => cases hn
        | succ n => exact (e _).symm.trans hn
      · intro h
        exact ⟨1, (e _).trans h⟩
  cases h1 : x_F O X TX C pc L S σ with
  | some r => exact ((key r).mp h1).symm
  | none =>
    cases h2 : x_b O X TX C (x_F O X TX C) 3000 (x_suf C pc) L S σ with
    | none => rfl
    | some r => rw [(key r).mpr h2] at h1; cases h1
