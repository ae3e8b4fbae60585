/-! a runner that the kernel can run (wip/whole/gen21.py) -/
def x_E (φ : Bool → Option xR) : Prop := ∀ r, φ false = some r → φ true = some r
theorem x_E_c (R : Option xR) : x_E (fun _ => R) := fun _ h => h
theorem x_E_if {c : Prop} {hc : Decidable c} {A B : Bool → Option xR} (ha : x_E A) (hb : x_E B) : x_E (fun k => @ite _ c hc (A k) (B k)) := by
  by_cases h : c
  · simp only [if_pos h]; exact ha
  · simp only [if_neg h]; exact hb
theorem x_E_b (c : Bool) {A B : Bool → Option xR} (ha : x_E A) (hb : x_E B) : x_E (fun k => bif c then A k else B k) := by
  cases c
  · exact hb
  · exact ha
theorem x_E_der (q : Option Nat) {K : Bool → Nat → Option xR} (h : ∀ a, x_E (fun k => K k a)) : x_E (fun k => x_der q (K k)) := by
  cases q with
  | none => exact x_E_c none
  | some a => exact h a
theorem x_E_nul (q : Option Nat) {A B : Bool → Option xR} (ha : x_E A) (hb : x_E B) : x_E (fun k => x_nul q (A k) (B k)) := by
  cases q with
  | none => exact ha
  | some a => exact hb
theorem x_E_ck (σ : xS) (a c : Nat) {A : Bool → Option xR} (ha : x_E A) : x_E (fun k => x_ck σ a c (A k)) := x_E_b _ ha (x_E_c none)
theorem x_E_ak (σ : xS) (a c : Nat) {A : Bool → Nat → Option xR} (ha : ∀ n, x_E (fun k => A k n)) : x_E (fun k => x_ak σ a c (A k)) := x_E_b _ (ha _) (x_E_c none)
theorem x_E_aq (σ : xS) (a : Nat) {A : Bool → Nat → Option xR} (ha : ∀ n, x_E (fun k => A k n)) : x_E (fun k => x_aq σ a (A k)) := x_E_b _ (ha _) (x_E_c none)
theorem x_E_aa (σ : xS) (a : Nat) {A : Bool → Nat → Option xR} (ha : ∀ n, x_E (fun k => A k n)) : x_E (fun k => x_aa σ a (A k)) := x_E_b _ (ha _) (x_E_c none)
theorem x_E_ix (i : Int32) (n : Nat) {A : Bool → Option xR} (ha : x_E A) : x_E (fun k => x_ix i n (A k)) := x_E_if (x_E_c none) ha
theorem x_E_bl (x : Int32) {A : Bool → Option xR} (ha : x_E A) : x_E (fun k => x_bl x (A k)) := x_E_if ha (x_E_c none)
theorem x_E_icmp (c : Jvm.ClassFile.Cond) (x y : Int32) {A B : Bool → Option xR} (ha : x_E A) (hb : x_E B) : x_E (fun k => x_icmp c x y (A k) (B k)) := by
  cases c
  · exact x_E_if ha hb
  · exact x_E_if hb ha
  · exact x_E_if ha hb
  · exact x_E_if ha hb
  · exact x_E_if ha hb
  · exact x_E_if ha hb
theorem x_E_sw (x : Int32) {K : Bool → Nat → Option xR} {D : Bool → Option xR} (hK : ∀ t, x_E (fun k => K k t)) (hD : x_E D) : ∀ l : List (Int32 × Nat), x_E (fun k => x_sw x (K k) (D k) l)
  | [] => hD
  | (c, t) :: l => x_E_if (hK t) (x_E_sw x hK hD l)
theorem x_E_cv {o : Bool → Option xR} (ho : x_E o) {K : Bool → xS → Option xR} (h : ∀ σ, x_E (fun k => K k σ)) : x_E (fun k => x_cv (o k) (K k)) := by
  intro r hr
  replace hr : x_cv (o false) (K false) = some r := hr
  show x_cv (o true) (K true) = some r
  cases h0 : o false with
  | none => rw [h0] at hr; cases hr
  | some q =>
    rw [h0] at hr
    rw [ho q h0]
    match q with
    | (none, σ) => exact h σ r hr
    | (some _, σ) => cases hr
theorem x_E_ci {o : Bool → Option xR} (ho : x_E o) {K : Bool → Int32 → xS → Option xR} (h : ∀ x σ, x_E (fun k => K k x σ)) : x_E (fun k => x_ci (o k) (K k)) := by
  intro r hr
  replace hr : x_ci (o false) (K false) = some r := hr
  show x_ci (o true) (K true) = some r
  cases h0 : o false with
  | none => rw [h0] at hr; cases hr
  | some q =>
    rw [h0] at hr
    rw [ho q h0]
    match q with
    | (none, σ) => cases hr
    | (some (.inl x), σ) => exact h x σ r hr
    | (some (.inr _), σ) => cases hr
theorem x_E_cl {o : Bool → Option xR} (ho : x_E o) {K : Bool → Int64 → xS → Option xR} (h : ∀ x σ, x_E (fun k => K k x σ)) : x_E (fun k => x_cl (o k) (K k)) := by
  intro r hr
  replace hr : x_cl (o false) (K false) = some r := hr
  show x_cl (o true) (K true) = some r
  cases h0 : o false with
  | none => rw [h0] at hr; cases hr
  | some q =>
    rw [h0] at hr
    rw [ho q h0]
    match q with
    | (none, σ) => cases hr
    | (some (.inl x), σ) => cases hr
    | (some (.inr (.inl x)), σ) => exact h x σ r hr
    | (some (.inr (.inr _)), σ) => cases hr
theorem x_E_cr {o : Bool → Option xR} (ho : x_E o) {K : Bool → Option Nat → xS → Option xR} (h : ∀ x σ, x_E (fun k => K k x σ)) : x_E (fun k => x_cr (o k) (K k)) := by
  intro r hr
  replace hr : x_cr (o false) (K false) = some r := hr
  show x_cr (o true) (K true) = some r
  cases h0 : o false with
  | none => rw [h0] at hr; cases hr
  | some q =>
    rw [h0] at hr
    rw [ho q h0]
    match q with
    | (none, σ) => cases hr
    | (some (.inl x), σ) => cases hr
    | (some (.inr (.inl x)), σ) => cases hr
    | (some (.inr (.inr q)), σ) => exact h q σ r hr
theorem x_E_call {o : Bool → Option xR} (ho : x_E o) (v : Nat) {K : Bool → xF} (h : ∀ L S σ, x_E (fun k => K k L S σ)) (L : xL) (S : List xV) : x_E (fun k => x_call (o k) v (K k) L S) := by
  refine x_E_b _ ?_ (x_E_c none)
  match v with
  | 0 => exact x_E_cv ho fun σ => h L S σ
  | 1 => exact x_E_ci ho fun x σ => h L (.inl x :: S) σ
  | 2 => exact x_E_cl ho fun x σ => h L (.inr (.inl x) :: S) σ
  | v + 3 => exact x_E_cr ho fun x σ => h L (.inr (.inr x) :: S) σ
theorem x_E_rv (args : List xV) (σ : xS) (z : Nat) {A : Bool → Option xR} (ha : x_E A) : x_E (fun k => x_rv args σ z (A k)) := by
  match args with
  | [] => exact x_E_c none
  | .inl _ :: _ => exact x_E_c none
  | .inr (.inl _) :: _ => exact x_E_c none
  | .inr (.inr q) :: _ => exact x_E_der q fun a => x_E_ck σ a z ha
theorem x_E_go {kk : Bool → Nat → xF} (hk : ∀ pc L S σ, x_E (fun k => kk k pc L S σ)) {bf : Bool → List xRow → xF} (h : ∀ r L S σ, x_E (fun k => bf k r L S σ)) (r : List xRow) (L : xL) (S : List xV) (σ : xS) : x_E (fun k => x_go (kk k) (bf k) r L S σ) := by
  match r with
  | [] => exact x_E_c none
  | (pc, ins, len, [], y) :: r => exact h _ L S σ
  | (pc, ins, len, b :: bs, y) :: r => exact hk pc (x_mask (b :: bs) L) S σ
set_option maxHeartbeats 4000000 in
theorem x_E_pure {K : Bool → xL → List xV → Option xR} {N : Bool → Option xR} (h : ∀ L S, x_E (fun k => K k L S)) (hN : x_E N) (ins : Instr) (cv : xV) (L : xL) (S : List xV) : x_E (fun k => x_pure ins cv L S (K k) (N k)) := by
  cases ins
  case iload i =>
    show x_E (fun k => match x_at L i with
      | some (.inl x) => K k L (.inl x :: S)
      | _ => none)
    rcases x_at L i with _ | (x | x | x) <;> first | exact x_E_c none | exact h _ _
  case iload_n i =>
    show x_E (fun k => match x_at L i.val with
      | some (.inl x) => K k L (.inl x :: S)
      | _ => none)
    rcases x_at L i.val with _ | (x | x | x) <;> first | exact x_E_c none | exact h _ _
  case lload i =>
    show x_E (fun k => match x_at L i with
      | some (.inr (.inl x)) => K k L (.inr (.inl x) :: S)
      | _ => none)
    rcases x_at L i with _ | (x | x | x) <;> first | exact x_E_c none | exact h _ _
  case lload_n i =>
    show x_E (fun k => match x_at L i.val with
      | some (.inr (.inl x)) => K k L (.inr (.inl x) :: S)
      | _ => none)
    rcases x_at L i.val with _ | (x | x | x) <;> first | exact x_E_c none | exact h _ _
  case aload i =>
    show x_E (fun k => match x_at L i with
      | some (.inr (.inr q)) => K k L (.inr (.inr q) :: S)
      | _ => none)
    rcases x_at L i with _ | (x | x | x) <;> first | exact x_E_c none | exact h _ _
  case aload_n i =>
    show x_E (fun k => match x_at L i.val with
      | some (.inr (.inr q)) => K k L (.inr (.inr q) :: S)
      | _ => none)
    rcases x_at L i.val with _ | (x | x | x) <;> first | exact x_E_c none | exact h _ _
  case iinc i n =>
    show x_E (fun k => match x_at L i, cv with
      | some (.inl x), .inl y => K k (x_put (x_clr L i) i (some (.inl (x + y)))) S
      | _, _ => none)
    rcases x_at L i with _ | (x | x | x) <;> rcases cv with y | y <;> first | exact x_E_c none | exact h _ _
  all_goals first
    | exact hN
    | exact h _ _
    | (rcases S with _ | ⟨x | x | x, S⟩ <;> first
        | exact x_E_c none
        | exact h _ _
        | (rcases S with _ | ⟨y | y | y, S⟩ <;> first
            | exact x_E_c none
            | exact h _ _))
set_option maxHeartbeats 4000000 in
theorem x_E_i {O : Bool → Nat → List xV → xS → Option xR} (hO : ∀ j av σ, x_E (fun k => O k j av σ)) {kk : Bool → Nat → xF} (hk : ∀ pc L S σ, x_E (fun k => kk k pc L S σ)) {X : Nat × (Nat → Int32)} {TX : Nat → List Int32} {C : List xRow} {bf : Bool → List xRow → xF} (h0 : ∀ r L S σ, x_E (fun k => bf k r L S σ)) (ins : Instr) (sw : List (Int32 × Nat)) (t u v w z : Nat) (r : List xRow) (L : xL) (S : List xV) (σ : xS) : x_E (fun k => x_i (O k) X TX C (kk k) (bf k) ins sw t u v w z r L S σ) := by
  have h := fun r L S σ => x_E_go hk h0 r L S σ
  cases ins
  case goto => exact h _ _ _ _
  case ifCond c _ =>
    rcases S with _ | ⟨x | x, S⟩ <;> try exact x_E_c none
    exact x_E_icmp c _ _ (h _ _ _ _) (h _ _ _ _)
  case if_icmp c _ =>
    rcases S with _ | ⟨y | y, _ | ⟨x | x, S⟩⟩ <;> try exact x_E_c none
    exact x_E_icmp c _ _ (h _ _ _ _) (h _ _ _ _)
  case ifnull =>
    rcases S with _ | ⟨x | x | q, S⟩ <;> try exact x_E_c none
    exact x_E_nul q (h _ _ _ _) (h _ _ _ _)
  case ifnonnull =>
    rcases S with _ | ⟨x | x | q, S⟩ <;> try exact x_E_c none
    exact x_E_nul q (h _ _ _ _) (h _ _ _ _)
  case tableswitch =>
    rcases S with _ | ⟨x | x, S⟩ <;> try exact x_E_c none
    exact x_E_sw x (fun t => h _ _ _ _) (h _ _ _ _) sw
  case idiv =>
    rcases S with _ | ⟨y | y, _ | ⟨x | x, S⟩⟩ <;> try exact x_E_c none
    exact x_E_if (x_E_c none) (h _ _ _ _)
  case irem =>
    rcases S with _ | ⟨y | y, _ | ⟨x | x, S⟩⟩ <;> try exact x_E_c none
    exact x_E_if (x_E_c none) (h _ _ _ _)
  case ldiv =>
    rcases S with _ | ⟨y | y | y, _ | ⟨x | x | x, S⟩⟩ <;> try exact x_E_c none
    exact x_E_if (x_E_c none) (h _ _ _ _)
  case lrem =>
    rcases S with _ | ⟨y | y | y, _ | ⟨x | x | x, S⟩⟩ <;> try exact x_E_c none
    exact x_E_if (x_E_c none) (h _ _ _ _)
  case getfield =>
    rcases S with _ | ⟨x | x | q, S⟩ <;> try exact x_E_c none
    exact x_E_der q fun a => x_E_ck σ a t (h _ _ _ _)
  case putfield =>
    rcases S with _ | ⟨y | y | y, _ | ⟨x | x | q, S⟩⟩ <;> try exact x_E_c none
    · refine x_E_der q fun a => x_E_ck σ a t ?_
      match v with
      | 0 => exact h _ _ _ _
      | 1 => exact x_E_c none
      | 2 => exact x_E_c none
      | 3 => exact x_E_bl _ (h _ _ _ _)
      | v + 4 => exact x_E_c none
    · refine x_E_der q fun a => x_E_ck σ a t ?_
      match v with
      | 0 => exact x_E_c none
      | 1 => exact h _ _ _ _
      | v + 2 => exact x_E_c none
    · refine x_E_der q fun a => x_E_ck σ a t ?_
      match v with
      | 0 => exact x_E_c none
      | 1 => exact x_E_c none
      | 2 => exact h _ _ _ _
      | v + 3 => exact x_E_c none
  case iaload =>
    rcases S with _ | ⟨y | y | y, _ | ⟨x | x | q, S⟩⟩ <;> try exact x_E_c none
    refine x_E_der q fun a => ?_
    match v with
    | 0 => exact x_E_ak σ a 11 fun n => x_E_ix _ _ (h _ _ _ _)
    | 1 => exact x_E_b _ (x_E_ix _ _ (h _ _ _ _)) (x_E_c none)
    | v + 2 => exact x_E_ak σ a 11 fun n => x_E_ix _ _ (h _ _ _ _)
  case laload =>
    rcases S with _ | ⟨y | y | y, _ | ⟨x | x | q, S⟩⟩ <;> try exact x_E_c none
    exact x_E_der q fun a => x_E_ak σ a 12 fun n => x_E_ix _ _ (h _ _ _ _)
  case aaload =>
    rcases S with _ | ⟨y | y | y, _ | ⟨x | x | q, S⟩⟩ <;> try exact x_E_c none
    exact x_E_der q fun a => x_E_aq σ a fun n => x_E_ix _ _ (h _ _ _ _)
  case iastore =>
    rcases S with _ | ⟨x | x | x, _ | ⟨y | y | y, _ | ⟨z | z | q, S⟩⟩⟩ <;> try exact x_E_c none
    exact x_E_der q fun a => x_E_ak σ a 11 fun n => x_E_ix _ _ (h _ _ _ _)
  case lastore =>
    rcases S with _ | ⟨x | x | x, _ | ⟨y | y | y, _ | ⟨z | z | q, S⟩⟩⟩ <;> try exact x_E_c none
    exact x_E_der q fun a => x_E_ak σ a 12 fun n => x_E_ix _ _ (h _ _ _ _)
  case aastore =>
    rcases S with _ | ⟨x | x | x, _ | ⟨y | y | y, _ | ⟨z | z | q, S⟩⟩⟩ <;> try exact x_E_c none
    exact x_E_der q fun a => x_E_aq σ a fun n => x_E_ix _ _ (x_E_der x fun b => x_E_ck σ b _ (h _ _ _ _))
  case arraylength =>
    rcases S with _ | ⟨x | x | q, S⟩ <;> try exact x_E_c none
    refine x_E_der q fun a => ?_
    match v with
    | 0 => exact x_E_aa σ a fun n => h _ _ _ _
    | 1 => exact x_E_b _ (h _ _ _ _) (x_E_c none)
    | v + 2 => exact x_E_aa σ a fun n => h _ _ _ _
  case new => exact x_E_b _ (h _ _ _ _) (x_E_c none)
  case newarray =>
    rcases S with _ | ⟨x | x, S⟩ <;> try exact x_E_c none
    exact x_E_b _ (x_E_if (x_E_c none) (h _ _ _ _)) (x_E_c none)
  case anewarray =>
    rcases S with _ | ⟨x | x, S⟩ <;> try exact x_E_c none
    exact x_E_b _ (x_E_if (x_E_c none) (h _ _ _ _)) (x_E_c none)
  case invokestatic =>
    match w with
    | 0 =>
      show x_E (fun k => match x_pop u S [] with
        | some (args, S) => x_call (O k t args σ) v (x_go (kk k) (bf k) r) L S
        | none => none)
      cases x_pop u S [] with
      | none => exact x_E_c none
      | some q => exact x_E_call (hO _ _ _) v (fun L S σ => h r L S σ) L q.2
    | 1 =>
      rcases S with _ | ⟨y | y, _ | ⟨x | x, S⟩⟩ <;> try exact x_E_c none
      exact x_E_b _ (h _ _ _ _) (x_E_c none)
    | 2 =>
      rcases S with _ | ⟨y | y, _ | ⟨x | x, S⟩⟩ <;> try exact x_E_c none
      exact x_E_b _ (h _ _ _ _) (x_E_c none)
    | 3 =>
      rcases S with _ | ⟨y | y, S⟩ <;> try exact x_E_c none
      exact x_E_b _ (h _ _ _ _) (x_E_c none)
    | w + 4 =>
      rcases S with _ | ⟨n | n, _ | ⟨dp | dp, _ | ⟨q1 | q1 | q1, _ | ⟨sp | sp, _ | ⟨q0 | q0 | q0, S⟩⟩⟩⟩⟩ <;> try exact x_E_c none
      exact x_E_b _ (x_E_der q0 fun a0 => x_E_der q1 fun a1 => x_E_ak σ a0 11 fun n0 => x_E_ak σ a1 11 fun n1 => x_E_if (x_E_c none) (x_E_if (h _ _ _ _) (x_E_c none))) (x_E_c none)
  case invokevirtual =>
    match w with
    | 0 =>
      show x_E (fun k => match x_pop u S [] with
        | some (args, S) => x_rv args σ z (x_call (O k t args σ) v (x_go (kk k) (bf k) r) L S)
        | none => none)
      cases x_pop u S [] with
      | none => exact x_E_c none
      | some q => exact x_E_rv q.1 σ z (x_E_call (hO _ _ _) v (fun L S σ => h r L S σ) L q.2)
    | 5 =>
      rcases S with _ | ⟨x | x | q, S⟩ <;> try exact x_E_c none
      exact x_E_b _ (x_E_der q fun a => x_E_b _ (h _ _ _ _) (x_E_c none)) (x_E_c none)
    | 1 | 2 | 3 | 4 | w + 6 =>
      rcases S with _ | ⟨x | x | q, _ | ⟨y | y | q, S⟩⟩ <;> try exact x_E_c none
      exact x_E_b _ (x_E_der q fun a => x_E_b _ (x_E_ix _ _ (h _ _ _ _)) (x_E_c none)) (x_E_c none)
  case invokespecial =>
    match w with
    | 0 =>
      show x_E (fun k => match x_pop u S [] with
        | some (args, S) => (match args with
          | .inr (.inr (some _)) :: _ => x_call (O k t args σ) v (x_go (kk k) (bf k) r) L S
          | _ => none)
        | none => none)
      cases x_pop u S [] with
      | none => exact x_E_c none
      | some q =>
        rcases q with ⟨_ | ⟨x | x | _ | x, as⟩, S2⟩ <;> try exact x_E_c none
        exact x_E_call (hO _ _ _) v (fun L S σ => h r L S σ) L S2
    | w + 1 =>
      rcases S with _ | ⟨x | x | q, S⟩ <;> try exact x_E_c none
      exact x_E_b _ (x_E_der q fun a => h _ _ _ _) (x_E_c none)
  all_goals exact x_E_c _
theorem x_E_bb {O : Bool → Nat → List xV → xS → Option xR} (hO : ∀ j av σ, x_E (fun k => O k j av σ)) {kk : Bool → Nat → xF} (hk : ∀ pc L S σ, x_E (fun k => kk k pc L S σ)) {X : Nat × (Nat → Int32)} {TX : Nat → List Int32} {C : List xRow} : ∀ (f : Nat) (r : List xRow) (L : xL) (S : List xV) (σ : xS), x_E (fun k => x_b (O k) X TX C (kk k) f r L S σ)
  | 0, _, _, _, _ => x_E_c none
  | f + 1, [], _, _, _ => x_E_c none
  | f + 1, q :: r, L, S, σ => by
    have ih := x_E_bb hO hk (X := X) (TX := TX) (C := C) f
    exact x_E_pure (fun L S => x_E_go hk ih r L S σ) (x_E_i hO hk ih _ _ _ _ _ _ _ r L S σ) _ _ L S

theorem x_E_m {O : Bool → Nat → List xV → xS → Option xR} (hO : ∀ j av σ, x_E (fun k => O k j av σ)) {X : Nat × (Nat → Int32)} {TX : Nat → List Int32} {C : List xRow} : ∀ (n pc : Nat) (L : xL) (S : List xV) (σ : xS), x_E (fun k => x_m (O k) X TX C n pc L S σ)
  | 0, _, _, _, _ => fun _ h => by cases h
  | n + 1, pc, L, S, σ => by
    have ih := x_E_m hO (X := X) (TX := TX) (C := C) n
    have := x_E_bb hO (kk := fun k => x_m (O k) X TX C n) ih (X := X) (TX := TX) (C := C) 3000 (x_suf C pc) L S σ
    simp only [x_m_succ]
    exact this
/-- method j, at most d calls deep, each at most f pieces long -/
def x_rn (f : Nat) : Nat → Nat → List xV → xS → Option xR
  | 0 => fun _ _ _ => none
  | d + 1 => fun j args σ => bif Nat.ble (x_cs args) (x_ml j) then x_m (x_rn f d) x_X0 x_TX (x_C j) f 0 (x_args args (x_ml j)) [] σ else none
theorem x_rn_run (f : Nat) : ∀ (d j : Nat) (av : List xV) (σ : xS) (r : xR), x_rn f d j av σ = some r → x_run d j av σ = some r
  | 0, _, _, _, _, h => by cases h
  | d + 1, j, av, σ, r, h => by
    have ih := x_rn_run f d
    have h : (bif Nat.ble (x_cs av) (x_ml j) then x_m (x_rn f d) x_X0 x_TX (x_C j) f 0 (x_args av (x_ml j)) [] σ else none) = some r := h
    rw [x_run_f]
    cases hb : Nat.ble (x_cs av) (x_ml j) with
    | false => rw [hb] at h; cases h
    | true =>
      rw [hb] at h
      have h : x_m (x_rn f d) x_X0 x_TX (x_C j) f 0 (x_args av (x_ml j)) [] σ = some r := h
      have h2 := x_E_m (O := fun k => bif k then x_run d else x_rn f d) (fun j av σ r h => ih j av σ r h) (X := x_X0) (TX := x_TX) (C := x_C j) f 0 (x_args av (x_ml j)) [] σ r h
      exact x_F_some.mpr ⟨f, h2⟩
