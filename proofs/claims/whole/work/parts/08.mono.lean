/-! cells are made, none goes -/
def x_pf (σ τ : xS) : Prop := ∃ K, τ.1 = σ.1 ++ K
theorem x_pf_rf (σ : xS) : x_pf σ σ := ⟨[], (List.append_nil _).symm⟩
theorem x_pf_tr {σ τ υ : xS} (h1 : x_pf σ τ) (h2 : x_pf τ υ) : x_pf σ υ := by
  obtain ⟨K, e⟩ := h1
  obtain ⟨K2, e2⟩ := h2
  exact ⟨K ++ K2, by rw [e2, e, List.append_assoc]⟩
theorem x_pf_new (σ : xS) (c n : Nat) : x_pf σ (x_new σ c n) := ⟨[(c, n)], rfl⟩
theorem x_sz_app2 (l r : List (Nat × Nat)) : x_sz (l ++ r) = x_sz l + x_sz r := by
  induction l with
  | nil => simp [x_sz]
  | cons b l ih => simp only [List.cons_append, x_sz, ih]; omega
theorem x_pf_len {σ τ : xS} (h : x_pf σ τ) : σ.1.length ≤ τ.1.length ∧ x_sz σ.1 ≤ x_sz τ.1 := by
  obtain ⟨K, e⟩ := h
  rw [e, List.length_append, x_sz_app2]
  omega
def x_M (σ : xS) (o : Option xR) : Prop := ∀ r, o = some r → x_pf σ r.2
theorem x_M_n (σ : xS) : x_M σ none := fun _ h => by cases h
theorem x_M_s (σ : xS) (v : Option xV) : x_M σ (some (v, σ)) := fun _ h => by cases h; exact x_pf_rf σ
theorem x_M_tr {σ τ : xS} {o : Option xR} (h : x_pf σ τ) (h2 : x_M τ o) : x_M σ o := fun r e => x_pf_tr h (h2 r e)
theorem x_M_if {σ : xS} {c : Prop} {hc : Decidable c} {A B : Option xR} (ha : x_M σ A) (hb : x_M σ B) : x_M σ (@ite _ c hc A B) := by
  by_cases h : c
  · rw [if_pos h]; exact ha
  · rw [if_neg h]; exact hb
theorem x_M_b {σ : xS} (c : Bool) {A B : Option xR} (ha : x_M σ A) (hb : x_M σ B) : x_M σ (bif c then A else B) := by
  cases c
  · exact hb
  · exact ha
theorem x_M_der {σ : xS} (q : Option Nat) {K : Nat → Option xR} (h : ∀ a, x_M σ (K a)) : x_M σ (x_der q K) := by
  cases q with
  | none => exact x_M_n σ
  | some a => exact h a
theorem x_M_nul {σ : xS} (q : Option Nat) {A B : Option xR} (ha : x_M σ A) (hb : x_M σ B) : x_M σ (x_nul q A B) := by
  cases q with
  | none => exact ha
  | some a => exact hb
theorem x_M_ck {σ : xS} (τ : xS) (a c : Nat) {A : Option xR} (ha : x_M σ A) : x_M σ (x_ck τ a c A) := x_M_b _ ha (x_M_n σ)
theorem x_M_ak {σ : xS} (τ : xS) (a c : Nat) {A : Nat → Option xR} (ha : ∀ n, x_M σ (A n)) : x_M σ (x_ak τ a c A) := x_M_b _ (ha _) (x_M_n σ)
theorem x_M_aq {σ : xS} (τ : xS) (a : Nat) {A : Nat → Option xR} (ha : ∀ n, x_M σ (A n)) : x_M σ (x_aq τ a A) := x_M_b _ (ha _) (x_M_n σ)
theorem x_M_aa {σ : xS} (τ : xS) (a : Nat) {A : Nat → Option xR} (ha : ∀ n, x_M σ (A n)) : x_M σ (x_aa τ a A) := x_M_b _ (ha _) (x_M_n σ)
theorem x_M_ix {σ : xS} (i : Int32) (n : Nat) {A : Option xR} (ha : x_M σ A) : x_M σ (x_ix i n A) := x_M_if (x_M_n σ) ha
theorem x_M_bl {σ : xS} (x : Int32) {A : Option xR} (ha : x_M σ A) : x_M σ (x_bl x A) := x_M_if ha (x_M_n σ)
theorem x_M_icmp {σ : xS} (c : Jvm.ClassFile.Cond) (x y : Int32) {A B : Option xR} (ha : x_M σ A) (hb : x_M σ B) : x_M σ (x_icmp c x y A B) := by
  cases c
  · exact x_M_if ha hb
  · exact x_M_if hb ha
  · exact x_M_if ha hb
  · exact x_M_if ha hb
  · exact x_M_if ha hb
  · exact x_M_if ha hb
theorem x_M_sw {σ : xS} (x : Int32) {K : Nat → Option xR} {D : Option xR} (hK : ∀ t, x_M σ (K t)) (hD : x_M σ D) : ∀ l : List (Int32 × Nat), x_M σ (x_sw x K D l)
  | [] => hD
  | (c, t) :: l => x_M_if (hK t) (x_M_sw x hK hD l)
theorem x_M_call {σ : xS} {o : Option xR} (ho : x_M σ o) (v : Nat) {K : xF} (h : ∀ L S τ, x_M τ (K L S τ)) (L : xL) (S : List xV) : x_M σ (x_call o v K L S) := by
  refine x_M_b _ ?_ (x_M_n σ)
  match o, ho with
  | none, _ =>
    match v with
    | 0 => exact x_M_n σ
    | 1 => exact x_M_n σ
    | 2 => exact x_M_n σ
    | v + 3 => exact x_M_n σ
  | some (none, τ), ho =>
    match v with
    | 0 => exact x_M_tr (ho _ rfl) (h L S τ)
    | 1 => exact x_M_n σ
    | 2 => exact x_M_n σ
    | v + 3 => exact x_M_n σ
  | some (some (.inl x), τ), ho =>
    match v with
    | 0 => exact x_M_n σ
    | 1 => exact x_M_tr (ho _ rfl) (h L _ τ)
    | 2 => exact x_M_n σ
    | v + 3 => exact x_M_n σ
  | some (some (.inr (.inl x)), τ), ho =>
    match v with
    | 0 => exact x_M_n σ
    | 1 => exact x_M_n σ
    | 2 => exact x_M_tr (ho _ rfl) (h L _ τ)
    | v + 3 => exact x_M_n σ
  | some (some (.inr (.inr x)), τ), ho =>
    match v with
    | 0 => exact x_M_n σ
    | 1 => exact x_M_n σ
    | 2 => exact x_M_n σ
    | v + 3 => exact x_M_tr (ho _ rfl) (h L _ τ)
theorem x_M_rv {σ : xS} (args : List xV) (τ : xS) (z : Nat) {A : Option xR} (ha : x_M σ A) : x_M σ (x_rv args τ z A) := by
  match args with
  | [] => exact x_M_n σ
  | .inl _ :: _ => exact x_M_n σ
  | .inr (.inl _) :: _ => exact x_M_n σ
  | .inr (.inr q) :: _ => exact x_M_der q fun a => x_M_ck τ a z ha
theorem x_M_go {k : Nat → xF} {bf : List xRow → xF} (hk : ∀ pc L S σ, x_M σ (k pc L S σ)) (h : ∀ r L S σ, x_M σ (bf r L S σ)) (r : List xRow) (L : xL) (S : List xV) (σ : xS) : x_M σ (x_go k bf r L S σ) := by
  match r with
  | [] => exact x_M_n σ
  | (pc, ins, len, [], y) :: r => exact h _ L S σ
  | (pc, ins, len, b :: bs, y) :: r => exact hk pc _ S σ
set_option maxHeartbeats 4000000 in
theorem x_M_pure {σ : xS} {K : xL → List xV → Option xR} {N : Option xR} (h : ∀ L S, x_M σ (K L S)) (hN : x_M σ N) (ins : Instr) (cv : xV) (L : xL) (S : List xV) : x_M σ (x_pure ins cv L S K N) := by
  have hD := x_D_pure (K := fun kk L S => kk 0 L S σ) (N := fun kk => kk 1 [] [] σ) (fun L S => Or.inl ⟨0, L, S, σ, fun _ => rfl⟩) (Or.inl ⟨1, [], [], σ, fun _ => rfl⟩) ins cv L S
  rcases hD with ⟨pc, L2, S2, σ2, hk⟩ | ⟨R, hk⟩
  · have e2 : x_pure ins cv L S K N = if pc = 0 then K L2 S2 else N := hk (fun (i : Nat) (L : xL) (S : List xV) (_ : xS) => if i = 0 then K L S else N)
    rw [e2]
    exact x_M_if (h _ _) hN
  · have h1 := hk (fun (i : Nat) (L : xL) (S : List xV) (_ : xS) => none)
    have h2 : x_pure ins cv L S K N = R := hk (fun (i : Nat) (L : xL) (S : List xV) (_ : xS) => if i = 0 then K L S else N)
    rw [h2]
    cases R with
    | none => exact x_M_n σ
    | some R =>
      exfalso
      have h3 : ∀ (ins : Instr), x_pure ins cv L S (fun _ _ => none) none = none := by
        intro ins
        cases ins
        case iload i => show (match x_at L i with | some (.inl x) => none | _ => none) = none; split <;> rfl
        case iload_n i => show (match x_at L i.val with | some (.inl x) => none | _ => none) = none; split <;> rfl
        case lload i => show (match x_at L i with | some (.inr (.inl x)) => none | _ => none) = none; split <;> rfl
        case lload_n i => show (match x_at L i.val with | some (.inr (.inl x)) => none | _ => none) = none; split <;> rfl
        case aload i => show (match x_at L i with | some (.inr (.inr x)) => none | _ => none) = none; split <;> rfl
        case aload_n i => show (match x_at L i.val with | some (.inr (.inr x)) => none | _ => none) = none; split <;> rfl
        case iinc i n => show (match x_at L i, cv with | some (.inl x), .inl y => none | _, _ => none) = none; split <;> rfl
        all_goals first
          | rfl
          | (rcases S with _ | ⟨x | x | x, S⟩ <;> first
              | rfl
              | (rcases S with _ | ⟨y | y | y, S⟩ <;> rfl))
      exact absurd ((h3 ins).symm.trans h1) (by simp)
set_option maxHeartbeats 4000000 in
theorem x_M_i {O : Nat → List xV → xS → Option xR} (hO : ∀ j args σ, x_M σ (O j args σ)) {X : Nat × (Nat → Int32)} {TX : Nat → List Int32} {C : List xRow} {k : Nat → xF} {bf : List xRow → xF} (hk : ∀ pc L S σ, x_M σ (k pc L S σ)) (h0 : ∀ r L S σ, x_M σ (bf r L S σ)) (ins : Instr) (sw : List (Int32 × Nat)) (t u v w z : Nat) (r : List xRow) (L : xL) (S : List xV) (σ : xS) : x_M σ (x_i O X TX C k bf ins sw t u v w z r L S σ) := by
  have h := fun r L S σ => x_M_go hk h0 r L S σ
  cases ins
  case goto => exact h _ _ _ _
  case ifCond c _ =>
    rcases S with _ | ⟨x | x, S⟩ <;> try exact x_M_n σ
    exact x_M_icmp c _ _ (h _ _ _ _) (h _ _ _ _)
  case if_icmp c _ =>
    rcases S with _ | ⟨y | y, _ | ⟨x | x, S⟩⟩ <;> try exact x_M_n σ
    exact x_M_icmp c _ _ (h _ _ _ _) (h _ _ _ _)
  case ifnull =>
    rcases S with _ | ⟨x | x | q, S⟩ <;> try exact x_M_n σ
    exact x_M_nul q (h _ _ _ _) (h _ _ _ _)
  case ifnonnull =>
    rcases S with _ | ⟨x | x | q, S⟩ <;> try exact x_M_n σ
    exact x_M_nul q (h _ _ _ _) (h _ _ _ _)
  case tableswitch =>
    rcases S with _ | ⟨x | x, S⟩ <;> try exact x_M_n σ
    exact x_M_sw x (fun t => h _ _ _ _) (h _ _ _ _) sw
  case idiv =>
    rcases S with _ | ⟨y | y, _ | ⟨x | x, S⟩⟩ <;> try exact x_M_n σ
    exact x_M_if (x_M_n σ) (h _ _ _ _)
  case irem =>
    rcases S with _ | ⟨y | y, _ | ⟨x | x, S⟩⟩ <;> try exact x_M_n σ
    exact x_M_if (x_M_n σ) (h _ _ _ _)
  case ldiv =>
    rcases S with _ | ⟨y | y | y, _ | ⟨x | x | x, S⟩⟩ <;> try exact x_M_n σ
    exact x_M_if (x_M_n σ) (h _ _ _ _)
  case lrem =>
    rcases S with _ | ⟨y | y | y, _ | ⟨x | x | x, S⟩⟩ <;> try exact x_M_n σ
    exact x_M_if (x_M_n σ) (h _ _ _ _)
  case getfield =>
    rcases S with _ | ⟨x | x | q, S⟩ <;> try exact x_M_n σ
    exact x_M_der q fun a => x_M_ck σ a t (h _ _ _ _)
  case putfield =>
    rcases S with _ | ⟨y | y | y, _ | ⟨x | x | q, S⟩⟩ <;> try exact x_M_n σ
    · refine x_M_der q fun a => x_M_ck σ a t ?_
      match v with
      | 0 => exact h _ _ _ (x_si σ a u y)
      | 1 => exact x_M_n σ
      | 2 => exact x_M_n σ
      | 3 => exact x_M_bl _ (h _ _ _ (x_si σ a u y))
      | v + 4 => exact x_M_n σ
    · refine x_M_der q fun a => x_M_ck σ a t ?_
      match v with
      | 0 => exact x_M_n σ
      | 1 => exact h _ _ _ (x_sl σ a u y)
      | v + 2 => exact x_M_n σ
    · refine x_M_der q fun a => x_M_ck σ a t ?_
      match v with
      | 0 => exact x_M_n σ
      | 1 => exact x_M_n σ
      | 2 => exact h _ _ _ (x_sr σ a u y)
      | v + 3 => exact x_M_n σ
  case iaload =>
    rcases S with _ | ⟨y | y | y, _ | ⟨x | x | q, S⟩⟩ <;> try exact x_M_n σ
    refine x_M_der q fun a => ?_
    match v with
    | 0 => exact x_M_ak σ a 11 fun n => x_M_ix _ _ (h _ _ _ _)
    | 1 => exact x_M_b _ (x_M_ix _ _ (h _ _ _ _)) (x_M_n σ)
    | v + 2 => exact x_M_ak σ a 11 fun n => x_M_ix _ _ (h _ _ _ _)
  case laload =>
    rcases S with _ | ⟨y | y | y, _ | ⟨x | x | q, S⟩⟩ <;> try exact x_M_n σ
    exact x_M_der q fun a => x_M_ak σ a 12 fun n => x_M_ix _ _ (h _ _ _ _)
  case aaload =>
    rcases S with _ | ⟨y | y | y, _ | ⟨x | x | q, S⟩⟩ <;> try exact x_M_n σ
    exact x_M_der q fun a => x_M_aq σ a fun n => x_M_ix _ _ (h _ _ _ _)
  case iastore =>
    rcases S with _ | ⟨x | x | x, _ | ⟨y | y | y, _ | ⟨z | z | q, S⟩⟩⟩ <;> try exact x_M_n σ
    exact x_M_der q fun a => x_M_ak σ a 11 fun n => x_M_ix _ _ (h _ _ _ (x_si σ a _ x))
  case lastore =>
    rcases S with _ | ⟨x | x | x, _ | ⟨y | y | y, _ | ⟨z | z | q, S⟩⟩⟩ <;> try exact x_M_n σ
    exact x_M_der q fun a => x_M_ak σ a 12 fun n => x_M_ix _ _ (h _ _ _ (x_sl σ a _ x))
  case aastore =>
    rcases S with _ | ⟨x | x | x, _ | ⟨y | y | y, _ | ⟨z | z | q, S⟩⟩⟩ <;> try exact x_M_n σ
    exact x_M_der q fun a => x_M_aq σ a fun n => x_M_ix _ _ (x_M_der x fun b => x_M_ck σ b _ (h _ _ _ (x_sr σ a _ (some b))))
  case arraylength =>
    rcases S with _ | ⟨x | x | q, S⟩ <;> try exact x_M_n σ
    refine x_M_der q fun a => ?_
    match v with
    | 0 => exact x_M_aa σ a fun n => h _ _ _ _
    | 1 => exact x_M_b _ (h _ _ _ _) (x_M_n σ)
    | v + 2 => exact x_M_aa σ a fun n => h _ _ _ _
  case new => exact x_M_b _ (x_M_tr (x_pf_new σ t 0) (h _ _ _ _)) (x_M_n σ)
  case newarray =>
    rcases S with _ | ⟨x | x, S⟩ <;> try exact x_M_n σ
    exact x_M_b _ (x_M_if (x_M_n σ) (x_M_tr (x_pf_new σ t _) (h _ _ _ _))) (x_M_n σ)
  case anewarray =>
    rcases S with _ | ⟨x | x, S⟩ <;> try exact x_M_n σ
    exact x_M_b _ (x_M_if (x_M_n σ) (x_M_tr (x_pf_new σ t _) (h _ _ _ _))) (x_M_n σ)
  case invokestatic =>
    match w with
    | 0 =>
      show x_M σ (match x_pop u S [] with
        | some (args, S) => x_call (O t args σ) v (x_go k bf r) L S
        | none => none)
      cases x_pop u S [] with
      | none => exact x_M_n σ
      | some q => exact x_M_call (hO _ _ _) v (fun L S σ => h r L S σ) L q.2
    | 1 =>
      rcases S with _ | ⟨y | y, _ | ⟨x | x, S⟩⟩ <;> try exact x_M_n σ
      exact x_M_b _ (h _ _ _ _) (x_M_n σ)
    | 2 =>
      rcases S with _ | ⟨y | y, _ | ⟨x | x, S⟩⟩ <;> try exact x_M_n σ
      exact x_M_b _ (h _ _ _ _) (x_M_n σ)
    | 3 =>
      rcases S with _ | ⟨y | y, S⟩ <;> try exact x_M_n σ
      exact x_M_b _ (h _ _ _ _) (x_M_n σ)
    | w + 4 =>
      rcases S with _ | ⟨n | n, _ | ⟨dp | dp, _ | ⟨q1 | q1 | q1, _ | ⟨sp | sp, _ | ⟨q0 | q0 | q0, S⟩⟩⟩⟩⟩ <;> try exact x_M_n σ
      exact x_M_b _ (x_M_der q0 fun a0 => x_M_der q1 fun a1 => x_M_ak σ a0 11 fun n0 => x_M_ak σ a1 11 fun n1 => x_M_if (x_M_n σ) (x_M_if (h _ _ _ (x_cp σ a0 a1 _ _ _)) (x_M_n σ))) (x_M_n σ)
  case invokevirtual =>
    match w with
    | 0 =>
      show x_M σ (match x_pop u S [] with
        | some (args, S) => x_rv args σ z (x_call (O t args σ) v (x_go k bf r) L S)
        | none => none)
      cases x_pop u S [] with
      | none => exact x_M_n σ
      | some q => exact x_M_rv q.1 σ z (x_M_call (hO _ _ _) v (fun L S σ => h r L S σ) L q.2)
    | 5 =>
      rcases S with _ | ⟨x | x | q, S⟩ <;> try exact x_M_n σ
      exact x_M_b _ (x_M_der q fun a => x_M_b _ (h _ _ _ _) (x_M_n σ)) (x_M_n σ)
    | 1 | 2 | 3 | 4 | w + 6 =>
      rcases S with _ | ⟨x | x | q, _ | ⟨y | y | q, S⟩⟩ <;> try exact x_M_n σ
      exact x_M_b _ (x_M_der q fun a => x_M_b _ (x_M_ix _ _ (h _ _ _ _)) (x_M_n σ)) (x_M_n σ)
  case invokespecial =>
    match w with
    | 0 =>
      show x_M σ (match x_pop u S [] with
        | some (args, S) => (match args with
          | .inr (.inr (some _)) :: _ => x_call (O t args σ) v (x_go k bf r) L S
          | _ => none)
        | none => none)
      cases x_pop u S [] with
      | none => exact x_M_n σ
      | some q =>
        rcases q with ⟨_ | ⟨x | x | _ | x, as⟩, S2⟩ <;> try exact x_M_n σ
        exact x_M_call (hO _ _ _) v (fun L S σ => h r L S σ) L S2
    | w + 1 =>
      rcases S with _ | ⟨x | x | q, S⟩ <;> try exact x_M_n σ
      exact x_M_b _ (x_M_der q fun a => h _ _ _ _) (x_M_n σ)
  case ireturn =>
    rcases S with _ | ⟨x | x, _ | ⟨y, S⟩⟩ <;> try exact x_M_n σ
    match u with
    | 0 => exact x_M_s σ _
    | u + 1 => exact x_M_bl x (x_M_s σ _)
  case lreturn =>
    rcases S with _ | ⟨x | x | x, _ | ⟨y, S⟩⟩ <;> try exact x_M_n σ
    exact x_M_s σ _
  case areturn =>
    rcases S with _ | ⟨x | x | x, _ | ⟨y, S⟩⟩ <;> try exact x_M_n σ
    exact x_M_s σ _
  case return_ =>
    rcases S with _ | ⟨x, S⟩
    · exact x_M_s σ _
    · exact x_M_n σ
  all_goals exact x_M_n σ
theorem x_M_bb {O : Nat → List xV → xS → Option xR} (hO : ∀ j args σ, x_M σ (O j args σ)) {X : Nat × (Nat → Int32)} {TX : Nat → List Int32} {C : List xRow} {k : Nat → xF} (hk : ∀ pc L S σ, x_M σ (k pc L S σ)) : ∀ (f : Nat) (r : List xRow) (L : xL) (S : List xV) (σ : xS), x_M σ (x_b O X TX C k f r L S σ)
  | 0, _, _, _, σ => x_M_n σ
  | f + 1, [], _, _, σ => x_M_n σ
  | f + 1, q :: r, L, S, σ => by
    have ih := x_M_bb hO (X := X) (TX := TX) (C := C) hk f
    exact x_M_pure (fun L S => x_M_go hk ih r L S σ) (x_M_i hO hk ih _ _ _ _ _ _ _ r L S σ) _ _ L S
theorem x_M_m {O : Nat → List xV → xS → Option xR} (hO : ∀ j args σ, x_M σ (O j args σ)) {X : Nat × (Nat → Int32)} {TX : Nat → List Int32} {C : List xRow} : ∀ (n pc : Nat) (L : xL) (S : List xV) (σ : xS), x_M σ (x_m O X TX C n pc L S σ)
  | 0, _, _, _, σ => x_M_n σ
  | n + 1, pc, L, S, σ => x_M_bb hO (x_M_m hO n) 3000 _ L S σ
theorem x_M_F {O : Nat → List xV → xS → Option xR} (hO : ∀ j args σ, x_M σ (O j args σ)) {X : Nat × (Nat → Int32)} {TX : Nat → List Int32} {C : List xRow} (pc : Nat) (L : xL) (S : List xV) (σ : xS) : x_M σ (x_F O X TX C pc L S σ) := by
  intro r h
  obtain ⟨n, hn⟩ := x_F_some.mp h
  exact x_M_m hO n pc L S σ r hn
theorem x_M_run : ∀ (d j : Nat) (args : List xV) (σ : xS), x_M σ (x_run d j args σ)
  | 0, _, _, σ => x_M_n σ
  | d + 1, j, args, σ => x_M_b _ (x_M_F (x_M_run d) 0 _ _ σ) (x_M_n σ)
