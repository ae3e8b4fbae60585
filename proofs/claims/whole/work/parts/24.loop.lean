/-! the law's loop (wip/whole/gen24.py) -/
def x_ops : List (Nat × Nat × Nat × Bool) := [(76, 136, 1, false), (77, 137, 2, false), (78, 139, 6, false), (79, 150, 0, false), (80, 153, 1, false), (81, 155, 4, false), (82, 156, 3, false), (83, 158, 3, false), (84, 159, 2, false), (85, 165, 2, false), (86, 166, 2, false), (87, 170, 3, true), (88, 171, 3, true), (89, 172, 4, true), (90, 173, 2, true), (91, 174, 3, false), (92, 175, 2, false), (93, 178, 3, true), (94, 179, 2, false), (95, 180, 4, true), (96, 186, 3, false), (97, 187, 1, false), (98, 190, 2, false), (99, 192, 1, false), (100, 194, 1, false), (101, 195, 0, false), (102, 197, 1, false), (103, 199, 3, false), (104, 200, 3, true), (105, 205, 2, false), (106, 207, 2, true), (107, 208, 3, true), (108, 209, 2, true), (109, 210, 3, true), (110, 212, 2, false), (111, 213, 4, false), (112, 214, 0, false), (113, 215, 0, false), (114, 216, 3, false), (115, 217, 3, false), (116, 218, 5, false), (117, 219, 4, false), (118, 222, 2, false)]
def x_isv (lg : Bool) (v : xV) : Prop := match lg with
  | true => ∃ x : Int64, v = .inr (.inl x)
  | false => ∃ x : Int32, v = .inl x
/-- a call on both: the same answer, and what ties them ties them again -/
def x_stp (D : Nat) (R : xS → Prop) (lg : Bool) (j j' : Nat) (as : List Int32) (σ : xS) : Prop := ∃ (v : xV) (σ1 τ : xS), x_isv lg v ∧ x_run D j (.inr (.inr (some 0)) :: as.map .inl) σ = some (some v, σ1) ∧ σ1.1 = x_K ∧ x_run D j' (.inr (.inr (some 78)) :: as.map .inl) σ1 = some (some v, τ) ∧ R τ
def x_Steps (D : Nat) (R : xS → Prop) : Prop := ∀ q ∈ x_ops, ∀ (σ : xS) (as : List Int32), as.length = q.2.2.1 → R σ → x_stp D R q.2.2.2 q.1 q.2.1 as σ
theorem x_der_s (a : Nat) (f : Nat → Option xR) : x_der (some a) f = f a := rfl
theorem x_ci_s (x : Int32) (σ : xS) (K : Int32 → xS → Option xR) : x_ci (some (some (.inl x), σ)) K = K x σ := rfl
theorem x_cl_s (x : Int64) (σ : xS) (K : Int64 → xS → Option xR) : x_cl (some (some (.inr (.inl x)), σ)) K = K x σ := rfl
theorem x_cv_s (σ : xS) (K : xS → Option xR) : x_cv (some (none, σ)) K = K σ := rfl
theorem x_ck9 {σ : xS} (h : σ.1 = x_K) (K : Option xR) : x_ck σ 0 9 K = K := by unfold x_ck; rw [h]; rfl
theorem x_ck10 {σ : xS} (h : σ.1 = x_K) (K : Option xR) : x_ck σ 78 10 K = K := by unfold x_ck; rw [h]; rfl
theorem x_lg (x : Int64) : lg_cmp x x = 0 := by simp [lg_cmp]
theorem x_add {i c : Nat} : Int32.ofNat i + Int32.ofNat c = Int32.ofNat (i + c) := (Int32.ofNat_add i c).symm
theorem x_ixk {i N : Nat} (h : i < N) (hN : N ≤ 3584) (K : Option xR) : x_ix (Int32.ofNat i) N K = K := by
  unfold x_ix
  have h1 : (Int32.ofNat i).toInt = (i : Int) := Int32.toInt_ofNat_of_lt (by omega)
  have h2 : (Int32.ofNat i).toNatClampNeg = i := by
    show (Int32.ofNat i).toInt.toNat = i
    rw [h1]; rfl
  have h3 : ¬ Int32.ofNat i < 0 := by
    rw [Int32.lt_iff_toInt_lt, h1]
    show ¬ ((i : Int) < 0)
    omega
  rw [if_neg]
  rintro (h | h)
  · exact h3 h
  · rw [h2] at h
    omega
theorem x_ix1 {i N : Nat} (h : i + 7 ≤ N) (hN : N ≤ 3584) (K : Option xR) : x_ix (Int32.ofNat i + 1) N K = K := by
  rw [show (1 : Int32) = Int32.ofNat 1 from rfl, x_add]
  exact x_ixk (by omega) hN K
theorem x_ix2 {i N : Nat} (h : i + 7 ≤ N) (hN : N ≤ 3584) (K : Option xR) : x_ix (Int32.ofNat i + 2) N K = K := by
  rw [show (2 : Int32) = Int32.ofNat 2 from rfl, x_add]
  exact x_ixk (by omega) hN K
theorem x_ix3 {i N : Nat} (h : i + 7 ≤ N) (hN : N ≤ 3584) (K : Option xR) : x_ix (Int32.ofNat i + 3) N K = K := by
  rw [show (3 : Int32) = Int32.ofNat 3 from rfl, x_add]
  exact x_ixk (by omega) hN K
theorem x_ix4 {i N : Nat} (h : i + 7 ≤ N) (hN : N ≤ 3584) (K : Option xR) : x_ix (Int32.ofNat i + 4) N K = K := by
  rw [show (4 : Int32) = Int32.ofNat 4 from rfl, x_add]
  exact x_ixk (by omega) hN K
theorem x_ix5 {i N : Nat} (h : i + 7 ≤ N) (hN : N ≤ 3584) (K : Option xR) : x_ix (Int32.ofNat i + 5) N K = K := by
  rw [show (5 : Int32) = Int32.ofNat 5 from rfl, x_add]
  exact x_ixk (by omega) hN K
theorem x_ix6 {i N : Nat} (h : i + 7 ≤ N) (hN : N ≤ 3584) (K : Option xR) : x_ix (Int32.ofNat i + 6) N K = K := by
  rw [show (6 : Int32) = Int32.ofNat 6 from rfl, x_add]
  exact x_ixk (by omega) hN K
theorem x_subk {N : Nat} (hN : N ≤ 3584) : (Int32.ofNat N - 7).toInt = (N : Int) - 7 := by
  rw [Int32.toInt_sub, Int32.toInt_ofNat_of_lt (by omega), show (7 : Int32).toInt = 7 from rfl]
  have h : ((N : Int) - 7).bmod (2 ^ 32) = (N : Int) - 7 := by
    rw [Int.bmod_def]
    split <;> omega
  exact h
theorem x_endk {i N : Nat} (hN : N ≤ 3584) (hi : i ≤ 4000) : (Int32.ofNat N - 7 < Int32.ofNat i) ↔ N < i + 7 := by
  rw [Int32.lt_iff_toInt_lt, x_subk hN, Int32.toInt_ofNat_of_lt (by omega)]
  omega
theorem x_ite {P : Option xR → Prop} {c : Prop} {hc : Decidable c} {a b : Option xR} (h1 : P a) (h2 : P b) : P (@ite _ c hc a b) := by
  by_cases h : c
  · rw [if_pos h]; exact h1
  · rw [if_neg h]; exact h2
def x_Lw (i : Nat) : xL := [some (.inr (.inr (some 2000))), some (.inr (.inr (some 0))), some (.inr (.inr (some 78))), some (.inl (Int32.ofNat i))]

theorem x_cs_220 {D : Nat} {R : xS → Prop} (hK : ∀ σ, R σ → σ.1 = x_K) (hS : x_Steps D R) {N : Nat} (hN : N ≤ 3584) (xs : Nat → Int32) {i : Nat} (hi : i + 7 ≤ N) {σ : xS} (hR : R σ) : ∃ τ, R τ ∧ x_F (x_run D) (N, xs) x_TX x_lc 220 (x_Lw i) [] σ = x_F (x_run D) (N, xs) x_TX x_lc 1812 (x_Lw i) [] τ := by
  obtain ⟨v, σ1, τ, ⟨x, rfl⟩, h1, h2, h3, h4⟩ := hS (76, 136, 1, false) (by decide) σ [xs (Int32.ofNat i + 1).toNatClampNeg] rfl hR
  refine ⟨τ, h4, ?_⟩
  have h1 : x_run D 76 [.inr (.inr (some 0)), .inl (xs (Int32.ofNat i + 1).toNatClampNeg)] σ = some (some (.inl x), σ1) := h1
  have h3 : x_run D 136 [.inr (.inr (some 78)), .inl (xs (Int32.ofNat i + 1).toNatClampNeg)] σ1 = some (some (.inl x), τ) := h3
  unfold x_Lw
  rw [x_F_eq (pc := 220), eL_220]
  simp only [x_der_s, x_ix1 hi hN, x_ck9 (hK σ hR), h1, x_ci_s, x_ck10 h2, h3, x_lg, if_true]
theorem x_cs_243 {D : Nat} {R : xS → Prop} (hK : ∀ σ, R σ → σ.1 = x_K) (hS : x_Steps D R) {N : Nat} (hN : N ≤ 3584) (xs : Nat → Int32) {i : Nat} (hi : i + 7 ≤ N) {σ : xS} (hR : R σ) : ∃ τ, R τ ∧ x_F (x_run D) (N, xs) x_TX x_lc 243 (x_Lw i) [] σ = x_F (x_run D) (N, xs) x_TX x_lc 1812 (x_Lw i) [] τ := by
  obtain ⟨v, σ1, τ, ⟨x, rfl⟩, h1, h2, h3, h4⟩ := hS (77, 137, 2, false) (by decide) σ [xs (Int32.ofNat i + 1).toNatClampNeg, xs (Int32.ofNat i + 2).toNatClampNeg] rfl hR
  refine ⟨τ, h4, ?_⟩
  have h1 : x_run D 77 [.inr (.inr (some 0)), .inl (xs (Int32.ofNat i + 1).toNatClampNeg), .inl (xs (Int32.ofNat i + 2).toNatClampNeg)] σ = some (some (.inl x), σ1) := h1
  have h3 : x_run D 137 [.inr (.inr (some 78)), .inl (xs (Int32.ofNat i + 1).toNatClampNeg), .inl (xs (Int32.ofNat i + 2).toNatClampNeg)] σ1 = some (some (.inl x), τ) := h3
  unfold x_Lw
  rw [x_F_eq (pc := 243), eL_243]
  simp only [x_der_s, x_ix1 hi hN, x_ix2 hi hN, x_ck9 (hK σ hR), h1, x_ci_s, x_ck10 h2, h3, x_lg, if_true]
theorem x_cs_276 {D : Nat} {R : xS → Prop} (hK : ∀ σ, R σ → σ.1 = x_K) (hS : x_Steps D R) {N : Nat} (hN : N ≤ 3584) (xs : Nat → Int32) {i : Nat} (hi : i + 7 ≤ N) {σ : xS} (hR : R σ) : ∃ τ, R τ ∧ x_F (x_run D) (N, xs) x_TX x_lc 276 (x_Lw i) [] σ = x_F (x_run D) (N, xs) x_TX x_lc 1812 (x_Lw i) [] τ := by
  obtain ⟨v, σ1, τ, ⟨x, rfl⟩, h1, h2, h3, h4⟩ := hS (78, 139, 6, false) (by decide) σ [xs (Int32.ofNat i + 1).toNatClampNeg, xs (Int32.ofNat i + 2).toNatClampNeg, xs (Int32.ofNat i + 3).toNatClampNeg, xs (Int32.ofNat i + 4).toNatClampNeg, xs (Int32.ofNat i + 5).toNatClampNeg, xs (Int32.ofNat i + 6).toNatClampNeg] rfl hR
  refine ⟨τ, h4, ?_⟩
  have h1 : x_run D 78 [.inr (.inr (some 0)), .inl (xs (Int32.ofNat i + 1).toNatClampNeg), .inl (xs (Int32.ofNat i + 2).toNatClampNeg), .inl (xs (Int32.ofNat i + 3).toNatClampNeg), .inl (xs (Int32.ofNat i + 4).toNatClampNeg), .inl (xs (Int32.ofNat i + 5).toNatClampNeg), .inl (xs (Int32.ofNat i + 6).toNatClampNeg)] σ = some (some (.inl x), σ1) := h1
  have h3 : x_run D 139 [.inr (.inr (some 78)), .inl (xs (Int32.ofNat i + 1).toNatClampNeg), .inl (xs (Int32.ofNat i + 2).toNatClampNeg), .inl (xs (Int32.ofNat i + 3).toNatClampNeg), .inl (xs (Int32.ofNat i + 4).toNatClampNeg), .inl (xs (Int32.ofNat i + 5).toNatClampNeg), .inl (xs (Int32.ofNat i + 6).toNatClampNeg)] σ1 = some (some (.inl x), τ) := h3
  unfold x_Lw
  rw [x_F_eq (pc := 276), eL_276]
  simp only [x_der_s, x_ix1 hi hN, x_ix2 hi hN, x_ix3 hi hN, x_ix4 hi hN, x_ix5 hi hN, x_ix6 hi hN, x_ck9 (hK σ hR), h1, x_ci_s, x_ck10 h2, h3, x_lg, if_true]
theorem x_cs_351 {D : Nat} {R : xS → Prop} (hK : ∀ σ, R σ → σ.1 = x_K) (hS : x_Steps D R) {N : Nat} (hN : N ≤ 3584) (xs : Nat → Int32) {i : Nat} (hi : i + 7 ≤ N) {σ : xS} (hR : R σ) : ∃ τ, R τ ∧ x_F (x_run D) (N, xs) x_TX x_lc 351 (x_Lw i) [] σ = x_F (x_run D) (N, xs) x_TX x_lc 1812 (x_Lw i) [] τ := by
  obtain ⟨v, σ1, τ, ⟨x, rfl⟩, h1, h2, h3, h4⟩ := hS (79, 150, 0, false) (by decide) σ [] rfl hR
  refine ⟨τ, h4, ?_⟩
  have h1 : x_run D 79 [.inr (.inr (some 0))] σ = some (some (.inl x), σ1) := h1
  have h3 : x_run D 150 [.inr (.inr (some 78))] σ1 = some (some (.inl x), τ) := h3
  unfold x_Lw
  rw [x_F_eq (pc := 351), eL_351]
  simp only [x_der_s, x_ck9 (hK σ hR), h1, x_ci_s, x_ck10 h2, h3, x_lg, if_true]
theorem x_cs_364 {D : Nat} {R : xS → Prop} (hK : ∀ σ, R σ → σ.1 = x_K) (hS : x_Steps D R) {N : Nat} (hN : N ≤ 3584) (xs : Nat → Int32) {i : Nat} (hi : i + 7 ≤ N) {σ : xS} (hR : R σ) : ∃ τ, R τ ∧ x_F (x_run D) (N, xs) x_TX x_lc 364 (x_Lw i) [] σ = x_F (x_run D) (N, xs) x_TX x_lc 1812 (x_Lw i) [] τ := by
  obtain ⟨v, σ1, τ, ⟨x, rfl⟩, h1, h2, h3, h4⟩ := hS (80, 153, 1, false) (by decide) σ [xs (Int32.ofNat i + 1).toNatClampNeg] rfl hR
  refine ⟨τ, h4, ?_⟩
  have h1 : x_run D 80 [.inr (.inr (some 0)), .inl (xs (Int32.ofNat i + 1).toNatClampNeg)] σ = some (some (.inl x), σ1) := h1
  have h3 : x_run D 153 [.inr (.inr (some 78)), .inl (xs (Int32.ofNat i + 1).toNatClampNeg)] σ1 = some (some (.inl x), τ) := h3
  unfold x_Lw
  rw [x_F_eq (pc := 364), eL_364]
  simp only [x_der_s, x_ix1 hi hN, x_ck9 (hK σ hR), h1, x_ci_s, x_ck10 h2, h3, x_lg, if_true]
theorem x_cs_387 {D : Nat} {R : xS → Prop} (hK : ∀ σ, R σ → σ.1 = x_K) (hS : x_Steps D R) {N : Nat} (hN : N ≤ 3584) (xs : Nat → Int32) {i : Nat} (hi : i + 7 ≤ N) {σ : xS} (hR : R σ) : ∃ τ, R τ ∧ x_F (x_run D) (N, xs) x_TX x_lc 387 (x_Lw i) [] σ = x_F (x_run D) (N, xs) x_TX x_lc 1812 (x_Lw i) [] τ := by
  obtain ⟨v, σ1, τ, ⟨x, rfl⟩, h1, h2, h3, h4⟩ := hS (81, 155, 4, false) (by decide) σ [xs (Int32.ofNat i + 1).toNatClampNeg, xs (Int32.ofNat i + 2).toNatClampNeg, xs (Int32.ofNat i + 3).toNatClampNeg, xs (Int32.ofNat i + 4).toNatClampNeg] rfl hR
  refine ⟨τ, h4, ?_⟩
  have h1 : x_run D 81 [.inr (.inr (some 0)), .inl (xs (Int32.ofNat i + 1).toNatClampNeg), .inl (xs (Int32.ofNat i + 2).toNatClampNeg), .inl (xs (Int32.ofNat i + 3).toNatClampNeg), .inl (xs (Int32.ofNat i + 4).toNatClampNeg)] σ = some (some (.inl x), σ1) := h1
  have h3 : x_run D 155 [.inr (.inr (some 78)), .inl (xs (Int32.ofNat i + 1).toNatClampNeg), .inl (xs (Int32.ofNat i + 2).toNatClampNeg), .inl (xs (Int32.ofNat i + 3).toNatClampNeg), .inl (xs (Int32.ofNat i + 4).toNatClampNeg)] σ1 = some (some (.inl x), τ) := h3
  unfold x_Lw
  rw [x_F_eq (pc := 387), eL_387]
  simp only [x_der_s, x_ix1 hi hN, x_ix2 hi hN, x_ix3 hi hN, x_ix4 hi hN, x_ck9 (hK σ hR), h1, x_ci_s, x_ck10 h2, h3, x_lg, if_true]
theorem x_cs_440 {D : Nat} {R : xS → Prop} (hK : ∀ σ, R σ → σ.1 = x_K) (hS : x_Steps D R) {N : Nat} (hN : N ≤ 3584) (xs : Nat → Int32) {i : Nat} (hi : i + 7 ≤ N) {σ : xS} (hR : R σ) : ∃ τ, R τ ∧ x_F (x_run D) (N, xs) x_TX x_lc 440 (x_Lw i) [] σ = x_F (x_run D) (N, xs) x_TX x_lc 1812 (x_Lw i) [] τ := by
  obtain ⟨v, σ1, τ, ⟨x, rfl⟩, h1, h2, h3, h4⟩ := hS (82, 156, 3, false) (by decide) σ [xs (Int32.ofNat i + 1).toNatClampNeg, xs (Int32.ofNat i + 2).toNatClampNeg, xs (Int32.ofNat i + 3).toNatClampNeg] rfl hR
  refine ⟨τ, h4, ?_⟩
  have h1 : x_run D 82 [.inr (.inr (some 0)), .inl (xs (Int32.ofNat i + 1).toNatClampNeg), .inl (xs (Int32.ofNat i + 2).toNatClampNeg), .inl (xs (Int32.ofNat i + 3).toNatClampNeg)] σ = some (some (.inl x), σ1) := h1
  have h3 : x_run D 156 [.inr (.inr (some 78)), .inl (xs (Int32.ofNat i + 1).toNatClampNeg), .inl (xs (Int32.ofNat i + 2).toNatClampNeg), .inl (xs (Int32.ofNat i + 3).toNatClampNeg)] σ1 = some (some (.inl x), τ) := h3
  unfold x_Lw
  rw [x_F_eq (pc := 440), eL_440]
  simp only [x_der_s, x_ix1 hi hN, x_ix2 hi hN, x_ix3 hi hN, x_ck9 (hK σ hR), h1, x_ci_s, x_ck10 h2, h3, x_lg, if_true]
theorem x_cs_483 {D : Nat} {R : xS → Prop} (hK : ∀ σ, R σ → σ.1 = x_K) (hS : x_Steps D R) {N : Nat} (hN : N ≤ 3584) (xs : Nat → Int32) {i : Nat} (hi : i + 7 ≤ N) {σ : xS} (hR : R σ) : ∃ τ, R τ ∧ x_F (x_run D) (N, xs) x_TX x_lc 483 (x_Lw i) [] σ = x_F (x_run D) (N, xs) x_TX x_lc 1812 (x_Lw i) [] τ := by
  obtain ⟨v, σ1, τ, ⟨x, rfl⟩, h1, h2, h3, h4⟩ := hS (83, 158, 3, false) (by decide) σ [xs (Int32.ofNat i + 1).toNatClampNeg, xs (Int32.ofNat i + 2).toNatClampNeg, xs (Int32.ofNat i + 3).toNatClampNeg] rfl hR
  refine ⟨τ, h4, ?_⟩
  have h1 : x_run D 83 [.inr (.inr (some 0)), .inl (xs (Int32.ofNat i + 1).toNatClampNeg), .inl (xs (Int32.ofNat i + 2).toNatClampNeg), .inl (xs (Int32.ofNat i + 3).toNatClampNeg)] σ = some (some (.inl x), σ1) := h1
  have h3 : x_run D 158 [.inr (.inr (some 78)), .inl (xs (Int32.ofNat i + 1).toNatClampNeg), .inl (xs (Int32.ofNat i + 2).toNatClampNeg), .inl (xs (Int32.ofNat i + 3).toNatClampNeg)] σ1 = some (some (.inl x), τ) := h3
  unfold x_Lw
  rw [x_F_eq (pc := 483), eL_483]
  simp only [x_der_s, x_ix1 hi hN, x_ix2 hi hN, x_ix3 hi hN, x_ck9 (hK σ hR), h1, x_ci_s, x_ck10 h2, h3, x_lg, if_true]
theorem x_cs_526 {D : Nat} {R : xS → Prop} (hK : ∀ σ, R σ → σ.1 = x_K) (hS : x_Steps D R) {N : Nat} (hN : N ≤ 3584) (xs : Nat → Int32) {i : Nat} (hi : i + 7 ≤ N) {σ : xS} (hR : R σ) : ∃ τ, R τ ∧ x_F (x_run D) (N, xs) x_TX x_lc 526 (x_Lw i) [] σ = x_F (x_run D) (N, xs) x_TX x_lc 1812 (x_Lw i) [] τ := by
  obtain ⟨v, σ1, τ, ⟨x, rfl⟩, h1, h2, h3, h4⟩ := hS (84, 159, 2, false) (by decide) σ [xs (Int32.ofNat i + 1).toNatClampNeg, xs (Int32.ofNat i + 2).toNatClampNeg] rfl hR
  refine ⟨τ, h4, ?_⟩
  have h1 : x_run D 84 [.inr (.inr (some 0)), .inl (xs (Int32.ofNat i + 1).toNatClampNeg), .inl (xs (Int32.ofNat i + 2).toNatClampNeg)] σ = some (some (.inl x), σ1) := h1
  have h3 : x_run D 159 [.inr (.inr (some 78)), .inl (xs (Int32.ofNat i + 1).toNatClampNeg), .inl (xs (Int32.ofNat i + 2).toNatClampNeg)] σ1 = some (some (.inl x), τ) := h3
  unfold x_Lw
  rw [x_F_eq (pc := 526), eL_526]
  simp only [x_der_s, x_ix1 hi hN, x_ix2 hi hN, x_ck9 (hK σ hR), h1, x_ci_s, x_ck10 h2, h3, x_lg, if_true]
theorem x_cs_559 {D : Nat} {R : xS → Prop} (hK : ∀ σ, R σ → σ.1 = x_K) (hS : x_Steps D R) {N : Nat} (hN : N ≤ 3584) (xs : Nat → Int32) {i : Nat} (hi : i + 7 ≤ N) {σ : xS} (hR : R σ) : ∃ τ, R τ ∧ x_F (x_run D) (N, xs) x_TX x_lc 559 (x_Lw i) [] σ = x_F (x_run D) (N, xs) x_TX x_lc 1812 (x_Lw i) [] τ := by
  obtain ⟨v, σ1, τ, ⟨x, rfl⟩, h1, h2, h3, h4⟩ := hS (85, 165, 2, false) (by decide) σ [xs (Int32.ofNat i + 1).toNatClampNeg, xs (Int32.ofNat i + 2).toNatClampNeg] rfl hR
  refine ⟨τ, h4, ?_⟩
  have h1 : x_run D 85 [.inr (.inr (some 0)), .inl (xs (Int32.ofNat i + 1).toNatClampNeg), .inl (xs (Int32.ofNat i + 2).toNatClampNeg)] σ = some (some (.inl x), σ1) := h1
  have h3 : x_run D 165 [.inr (.inr (some 78)), .inl (xs (Int32.ofNat i + 1).toNatClampNeg), .inl (xs (Int32.ofNat i + 2).toNatClampNeg)] σ1 = some (some (.inl x), τ) := h3
  unfold x_Lw
  rw [x_F_eq (pc := 559), eL_559]
  simp only [x_der_s, x_ix1 hi hN, x_ix2 hi hN, x_ck9 (hK σ hR), h1, x_ci_s, x_ck10 h2, h3, x_lg, if_true]
theorem x_cs_592 {D : Nat} {R : xS → Prop} (hK : ∀ σ, R σ → σ.1 = x_K) (hS : x_Steps D R) {N : Nat} (hN : N ≤ 3584) (xs : Nat → Int32) {i : Nat} (hi : i + 7 ≤ N) {σ : xS} (hR : R σ) : ∃ τ, R τ ∧ x_F (x_run D) (N, xs) x_TX x_lc 592 (x_Lw i) [] σ = x_F (x_run D) (N, xs) x_TX x_lc 1812 (x_Lw i) [] τ := by
  obtain ⟨v, σ1, τ, ⟨x, rfl⟩, h1, h2, h3, h4⟩ := hS (86, 166, 2, false) (by decide) σ [xs (Int32.ofNat i + 1).toNatClampNeg, xs (Int32.ofNat i + 2).toNatClampNeg] rfl hR
  refine ⟨τ, h4, ?_⟩
  have h1 : x_run D 86 [.inr (.inr (some 0)), .inl (xs (Int32.ofNat i + 1).toNatClampNeg), .inl (xs (Int32.ofNat i + 2).toNatClampNeg)] σ = some (some (.inl x), σ1) := h1
  have h3 : x_run D 166 [.inr (.inr (some 78)), .inl (xs (Int32.ofNat i + 1).toNatClampNeg), .inl (xs (Int32.ofNat i + 2).toNatClampNeg)] σ1 = some (some (.inl x), τ) := h3
  unfold x_Lw
  rw [x_F_eq (pc := 592), eL_592]
  simp only [x_der_s, x_ix1 hi hN, x_ix2 hi hN, x_ck9 (hK σ hR), h1, x_ci_s, x_ck10 h2, h3, x_lg, if_true]
theorem x_cs_625 {D : Nat} {R : xS → Prop} (hK : ∀ σ, R σ → σ.1 = x_K) (hS : x_Steps D R) {N : Nat} (hN : N ≤ 3584) (xs : Nat → Int32) {i : Nat} (hi : i + 7 ≤ N) {σ : xS} (hR : R σ) : ∃ τ, R τ ∧ x_F (x_run D) (N, xs) x_TX x_lc 625 (x_Lw i) [] σ = x_F (x_run D) (N, xs) x_TX x_lc 1812 (x_Lw i) [] τ := by
  obtain ⟨v, σ1, τ, ⟨x, rfl⟩, h1, h2, h3, h4⟩ := hS (87, 170, 3, true) (by decide) σ [xs (Int32.ofNat i + 1).toNatClampNeg, xs (Int32.ofNat i + 2).toNatClampNeg, xs (Int32.ofNat i + 3).toNatClampNeg] rfl hR
  refine ⟨τ, h4, ?_⟩
  have h1 : x_run D 87 [.inr (.inr (some 0)), .inl (xs (Int32.ofNat i + 1).toNatClampNeg), .inl (xs (Int32.ofNat i + 2).toNatClampNeg), .inl (xs (Int32.ofNat i + 3).toNatClampNeg)] σ = some (some (.inr (.inl x)), σ1) := h1
  have h3 : x_run D 170 [.inr (.inr (some 78)), .inl (xs (Int32.ofNat i + 1).toNatClampNeg), .inl (xs (Int32.ofNat i + 2).toNatClampNeg), .inl (xs (Int32.ofNat i + 3).toNatClampNeg)] σ1 = some (some (.inr (.inl x)), τ) := h3
  unfold x_Lw
  rw [x_F_eq (pc := 625), eL_625]
  simp only [x_der_s, x_ix1 hi hN, x_ix2 hi hN, x_ix3 hi hN, x_ck9 (hK σ hR), h1, x_cl_s, x_ck10 h2, h3, x_lg, if_true]
theorem x_cs_669 {D : Nat} {R : xS → Prop} (hK : ∀ σ, R σ → σ.1 = x_K) (hS : x_Steps D R) {N : Nat} (hN : N ≤ 3584) (xs : Nat → Int32) {i : Nat} (hi : i + 7 ≤ N) {σ : xS} (hR : R σ) : ∃ τ, R τ ∧ x_F (x_run D) (N, xs) x_TX x_lc 669 (x_Lw i) [] σ = x_F (x_run D) (N, xs) x_TX x_lc 1812 (x_Lw i) [] τ := by
  obtain ⟨v, σ1, τ, ⟨x, rfl⟩, h1, h2, h3, h4⟩ := hS (88, 171, 3, true) (by decide) σ [xs (Int32.ofNat i + 1).toNatClampNeg, xs (Int32.ofNat i + 2).toNatClampNeg, xs (Int32.ofNat i + 3).toNatClampNeg] rfl hR
  refine ⟨τ, h4, ?_⟩
  have h1 : x_run D 88 [.inr (.inr (some 0)), .inl (xs (Int32.ofNat i + 1).toNatClampNeg), .inl (xs (Int32.ofNat i + 2).toNatClampNeg), .inl (xs (Int32.ofNat i + 3).toNatClampNeg)] σ = some (some (.inr (.inl x)), σ1) := h1
  have h3 : x_run D 171 [.inr (.inr (some 78)), .inl (xs (Int32.ofNat i + 1).toNatClampNeg), .inl (xs (Int32.ofNat i + 2).toNatClampNeg), .inl (xs (Int32.ofNat i + 3).toNatClampNeg)] σ1 = some (some (.inr (.inl x)), τ) := h3
  unfold x_Lw
  rw [x_F_eq (pc := 669), eL_669]
  simp only [x_der_s, x_ix1 hi hN, x_ix2 hi hN, x_ix3 hi hN, x_ck9 (hK σ hR), h1, x_cl_s, x_ck10 h2, h3, x_lg, if_true]
theorem x_cs_713 {D : Nat} {R : xS → Prop} (hK : ∀ σ, R σ → σ.1 = x_K) (hS : x_Steps D R) {N : Nat} (hN : N ≤ 3584) (xs : Nat → Int32) {i : Nat} (hi : i + 7 ≤ N) {σ : xS} (hR : R σ) : ∃ τ, R τ ∧ x_F (x_run D) (N, xs) x_TX x_lc 713 (x_Lw i) [] σ = x_F (x_run D) (N, xs) x_TX x_lc 1812 (x_Lw i) [] τ := by
  obtain ⟨v, σ1, τ, ⟨x, rfl⟩, h1, h2, h3, h4⟩ := hS (89, 172, 4, true) (by decide) σ [xs (Int32.ofNat i + 1).toNatClampNeg, xs (Int32.ofNat i + 2).toNatClampNeg, xs (Int32.ofNat i + 3).toNatClampNeg, xs (Int32.ofNat i + 4).toNatClampNeg] rfl hR
  refine ⟨τ, h4, ?_⟩
  have h1 : x_run D 89 [.inr (.inr (some 0)), .inl (xs (Int32.ofNat i + 1).toNatClampNeg), .inl (xs (Int32.ofNat i + 2).toNatClampNeg), .inl (xs (Int32.ofNat i + 3).toNatClampNeg), .inl (xs (Int32.ofNat i + 4).toNatClampNeg)] σ = some (some (.inr (.inl x)), σ1) := h1
  have h3 : x_run D 172 [.inr (.inr (some 78)), .inl (xs (Int32.ofNat i + 1).toNatClampNeg), .inl (xs (Int32.ofNat i + 2).toNatClampNeg), .inl (xs (Int32.ofNat i + 3).toNatClampNeg), .inl (xs (Int32.ofNat i + 4).toNatClampNeg)] σ1 = some (some (.inr (.inl x)), τ) := h3
  unfold x_Lw
  rw [x_F_eq (pc := 713), eL_713]
  simp only [x_der_s, x_ix1 hi hN, x_ix2 hi hN, x_ix3 hi hN, x_ix4 hi hN, x_ck9 (hK σ hR), h1, x_cl_s, x_ck10 h2, h3, x_lg, if_true]
theorem x_cs_767 {D : Nat} {R : xS → Prop} (hK : ∀ σ, R σ → σ.1 = x_K) (hS : x_Steps D R) {N : Nat} (hN : N ≤ 3584) (xs : Nat → Int32) {i : Nat} (hi : i + 7 ≤ N) {σ : xS} (hR : R σ) : ∃ τ, R τ ∧ x_F (x_run D) (N, xs) x_TX x_lc 767 (x_Lw i) [] σ = x_F (x_run D) (N, xs) x_TX x_lc 1812 (x_Lw i) [] τ := by
  obtain ⟨v, σ1, τ, ⟨x, rfl⟩, h1, h2, h3, h4⟩ := hS (90, 173, 2, true) (by decide) σ [xs (Int32.ofNat i + 1).toNatClampNeg, xs (Int32.ofNat i + 2).toNatClampNeg] rfl hR
  refine ⟨τ, h4, ?_⟩
  have h1 : x_run D 90 [.inr (.inr (some 0)), .inl (xs (Int32.ofNat i + 1).toNatClampNeg), .inl (xs (Int32.ofNat i + 2).toNatClampNeg)] σ = some (some (.inr (.inl x)), σ1) := h1
  have h3 : x_run D 173 [.inr (.inr (some 78)), .inl (xs (Int32.ofNat i + 1).toNatClampNeg), .inl (xs (Int32.ofNat i + 2).toNatClampNeg)] σ1 = some (some (.inr (.inl x)), τ) := h3
  unfold x_Lw
  rw [x_F_eq (pc := 767), eL_767]
  simp only [x_der_s, x_ix1 hi hN, x_ix2 hi hN, x_ck9 (hK σ hR), h1, x_cl_s, x_ck10 h2, h3, x_lg, if_true]
theorem x_cs_801 {D : Nat} {R : xS → Prop} (hK : ∀ σ, R σ → σ.1 = x_K) (hS : x_Steps D R) {N : Nat} (hN : N ≤ 3584) (xs : Nat → Int32) {i : Nat} (hi : i + 7 ≤ N) {σ : xS} (hR : R σ) : ∃ τ, R τ ∧ x_F (x_run D) (N, xs) x_TX x_lc 801 (x_Lw i) [] σ = x_F (x_run D) (N, xs) x_TX x_lc 1812 (x_Lw i) [] τ := by
  obtain ⟨v, σ1, τ, ⟨x, rfl⟩, h1, h2, h3, h4⟩ := hS (91, 174, 3, false) (by decide) σ [xs (Int32.ofNat i + 1).toNatClampNeg, xs (Int32.ofNat i + 2).toNatClampNeg, xs (Int32.ofNat i + 3).toNatClampNeg] rfl hR
  refine ⟨τ, h4, ?_⟩
  have h1 : x_run D 91 [.inr (.inr (some 0)), .inl (xs (Int32.ofNat i + 1).toNatClampNeg), .inl (xs (Int32.ofNat i + 2).toNatClampNeg), .inl (xs (Int32.ofNat i + 3).toNatClampNeg)] σ = some (some (.inl x), σ1) := h1
  have h3 : x_run D 174 [.inr (.inr (some 78)), .inl (xs (Int32.ofNat i + 1).toNatClampNeg), .inl (xs (Int32.ofNat i + 2).toNatClampNeg), .inl (xs (Int32.ofNat i + 3).toNatClampNeg)] σ1 = some (some (.inl x), τ) := h3
  unfold x_Lw
  rw [x_F_eq (pc := 801), eL_801]
  simp only [x_der_s, x_ix1 hi hN, x_ix2 hi hN, x_ix3 hi hN, x_ck9 (hK σ hR), h1, x_ci_s, x_ck10 h2, h3, x_lg, if_true]
theorem x_cs_844 {D : Nat} {R : xS → Prop} (hK : ∀ σ, R σ → σ.1 = x_K) (hS : x_Steps D R) {N : Nat} (hN : N ≤ 3584) (xs : Nat → Int32) {i : Nat} (hi : i + 7 ≤ N) {σ : xS} (hR : R σ) : ∃ τ, R τ ∧ x_F (x_run D) (N, xs) x_TX x_lc 844 (x_Lw i) [] σ = x_F (x_run D) (N, xs) x_TX x_lc 1812 (x_Lw i) [] τ := by
  obtain ⟨v, σ1, τ, ⟨x, rfl⟩, h1, h2, h3, h4⟩ := hS (92, 175, 2, false) (by decide) σ [xs (Int32.ofNat i + 1).toNatClampNeg, xs (Int32.ofNat i + 2).toNatClampNeg] rfl hR
  refine ⟨τ, h4, ?_⟩
  have h1 : x_run D 92 [.inr (.inr (some 0)), .inl (xs (Int32.ofNat i + 1).toNatClampNeg), .inl (xs (Int32.ofNat i + 2).toNatClampNeg)] σ = some (some (.inl x), σ1) := h1
  have h3 : x_run D 175 [.inr (.inr (some 78)), .inl (xs (Int32.ofNat i + 1).toNatClampNeg), .inl (xs (Int32.ofNat i + 2).toNatClampNeg)] σ1 = some (some (.inl x), τ) := h3
  unfold x_Lw
  rw [x_F_eq (pc := 844), eL_844]
  simp only [x_der_s, x_ix1 hi hN, x_ix2 hi hN, x_ck9 (hK σ hR), h1, x_ci_s, x_ck10 h2, h3, x_lg, if_true]
theorem x_cs_877 {D : Nat} {R : xS → Prop} (hK : ∀ σ, R σ → σ.1 = x_K) (hS : x_Steps D R) {N : Nat} (hN : N ≤ 3584) (xs : Nat → Int32) {i : Nat} (hi : i + 7 ≤ N) {σ : xS} (hR : R σ) : ∃ τ, R τ ∧ x_F (x_run D) (N, xs) x_TX x_lc 877 (x_Lw i) [] σ = x_F (x_run D) (N, xs) x_TX x_lc 1812 (x_Lw i) [] τ := by
  obtain ⟨v, σ1, τ, ⟨x, rfl⟩, h1, h2, h3, h4⟩ := hS (93, 178, 3, true) (by decide) σ [xs (Int32.ofNat i + 1).toNatClampNeg, xs (Int32.ofNat i + 2).toNatClampNeg, xs (Int32.ofNat i + 3).toNatClampNeg] rfl hR
  refine ⟨τ, h4, ?_⟩
  have h1 : x_run D 93 [.inr (.inr (some 0)), .inl (xs (Int32.ofNat i + 1).toNatClampNeg), .inl (xs (Int32.ofNat i + 2).toNatClampNeg), .inl (xs (Int32.ofNat i + 3).toNatClampNeg)] σ = some (some (.inr (.inl x)), σ1) := h1
  have h3 : x_run D 178 [.inr (.inr (some 78)), .inl (xs (Int32.ofNat i + 1).toNatClampNeg), .inl (xs (Int32.ofNat i + 2).toNatClampNeg), .inl (xs (Int32.ofNat i + 3).toNatClampNeg)] σ1 = some (some (.inr (.inl x)), τ) := h3
  unfold x_Lw
  rw [x_F_eq (pc := 877), eL_877]
  simp only [x_der_s, x_ix1 hi hN, x_ix2 hi hN, x_ix3 hi hN, x_ck9 (hK σ hR), h1, x_cl_s, x_ck10 h2, h3, x_lg, if_true]
theorem x_cs_921 {D : Nat} {R : xS → Prop} (hK : ∀ σ, R σ → σ.1 = x_K) (hS : x_Steps D R) {N : Nat} (hN : N ≤ 3584) (xs : Nat → Int32) {i : Nat} (hi : i + 7 ≤ N) {σ : xS} (hR : R σ) : ∃ τ, R τ ∧ x_F (x_run D) (N, xs) x_TX x_lc 921 (x_Lw i) [] σ = x_F (x_run D) (N, xs) x_TX x_lc 1812 (x_Lw i) [] τ := by
  obtain ⟨v, σ1, τ, ⟨x, rfl⟩, h1, h2, h3, h4⟩ := hS (94, 179, 2, false) (by decide) σ [xs (Int32.ofNat i + 1).toNatClampNeg, xs (Int32.ofNat i + 2).toNatClampNeg] rfl hR
  refine ⟨τ, h4, ?_⟩
  have h1 : x_run D 94 [.inr (.inr (some 0)), .inl (xs (Int32.ofNat i + 1).toNatClampNeg), .inl (xs (Int32.ofNat i + 2).toNatClampNeg)] σ = some (some (.inl x), σ1) := h1
  have h3 : x_run D 179 [.inr (.inr (some 78)), .inl (xs (Int32.ofNat i + 1).toNatClampNeg), .inl (xs (Int32.ofNat i + 2).toNatClampNeg)] σ1 = some (some (.inl x), τ) := h3
  unfold x_Lw
  rw [x_F_eq (pc := 921), eL_921]
  simp only [x_der_s, x_ix1 hi hN, x_ix2 hi hN, x_ck9 (hK σ hR), h1, x_ci_s, x_ck10 h2, h3, x_lg, if_true]
theorem x_cs_954 {D : Nat} {R : xS → Prop} (hK : ∀ σ, R σ → σ.1 = x_K) (hS : x_Steps D R) {N : Nat} (hN : N ≤ 3584) (xs : Nat → Int32) {i : Nat} (hi : i + 7 ≤ N) {σ : xS} (hR : R σ) : ∃ τ, R τ ∧ x_F (x_run D) (N, xs) x_TX x_lc 954 (x_Lw i) [] σ = x_F (x_run D) (N, xs) x_TX x_lc 1812 (x_Lw i) [] τ := by
  obtain ⟨v, σ1, τ, ⟨x, rfl⟩, h1, h2, h3, h4⟩ := hS (95, 180, 4, true) (by decide) σ [xs (Int32.ofNat i + 1).toNatClampNeg, xs (Int32.ofNat i + 2).toNatClampNeg, xs (Int32.ofNat i + 3).toNatClampNeg, xs (Int32.ofNat i + 4).toNatClampNeg] rfl hR
  refine ⟨τ, h4, ?_⟩
  have h1 : x_run D 95 [.inr (.inr (some 0)), .inl (xs (Int32.ofNat i + 1).toNatClampNeg), .inl (xs (Int32.ofNat i + 2).toNatClampNeg), .inl (xs (Int32.ofNat i + 3).toNatClampNeg), .inl (xs (Int32.ofNat i + 4).toNatClampNeg)] σ = some (some (.inr (.inl x)), σ1) := h1
  have h3 : x_run D 180 [.inr (.inr (some 78)), .inl (xs (Int32.ofNat i + 1).toNatClampNeg), .inl (xs (Int32.ofNat i + 2).toNatClampNeg), .inl (xs (Int32.ofNat i + 3).toNatClampNeg), .inl (xs (Int32.ofNat i + 4).toNatClampNeg)] σ1 = some (some (.inr (.inl x)), τ) := h3
  unfold x_Lw
  rw [x_F_eq (pc := 954), eL_954]
  simp only [x_der_s, x_ix1 hi hN, x_ix2 hi hN, x_ix3 hi hN, x_ix4 hi hN, x_ck9 (hK σ hR), h1, x_cl_s, x_ck10 h2, h3, x_lg, if_true]
theorem x_cs_1008 {D : Nat} {R : xS → Prop} (hK : ∀ σ, R σ → σ.1 = x_K) (hS : x_Steps D R) {N : Nat} (hN : N ≤ 3584) (xs : Nat → Int32) {i : Nat} (hi : i + 7 ≤ N) {σ : xS} (hR : R σ) : ∃ τ, R τ ∧ x_F (x_run D) (N, xs) x_TX x_lc 1008 (x_Lw i) [] σ = x_F (x_run D) (N, xs) x_TX x_lc 1812 (x_Lw i) [] τ := by
  obtain ⟨v, σ1, τ, ⟨x, rfl⟩, h1, h2, h3, h4⟩ := hS (96, 186, 3, false) (by decide) σ [xs (Int32.ofNat i + 1).toNatClampNeg, xs (Int32.ofNat i + 2).toNatClampNeg, xs (Int32.ofNat i + 3).toNatClampNeg] rfl hR
  refine ⟨τ, h4, ?_⟩
  have h1 : x_run D 96 [.inr (.inr (some 0)), .inl (xs (Int32.ofNat i + 1).toNatClampNeg), .inl (xs (Int32.ofNat i + 2).toNatClampNeg), .inl (xs (Int32.ofNat i + 3).toNatClampNeg)] σ = some (some (.inl x), σ1) := h1
  have h3 : x_run D 186 [.inr (.inr (some 78)), .inl (xs (Int32.ofNat i + 1).toNatClampNeg), .inl (xs (Int32.ofNat i + 2).toNatClampNeg), .inl (xs (Int32.ofNat i + 3).toNatClampNeg)] σ1 = some (some (.inl x), τ) := h3
  unfold x_Lw
  rw [x_F_eq (pc := 1008), eL_1008]
  simp only [x_der_s, x_ix1 hi hN, x_ix2 hi hN, x_ix3 hi hN, x_ck9 (hK σ hR), h1, x_ci_s, x_ck10 h2, h3, x_lg, if_true]
theorem x_cs_1051 {D : Nat} {R : xS → Prop} (hK : ∀ σ, R σ → σ.1 = x_K) (hS : x_Steps D R) {N : Nat} (hN : N ≤ 3584) (xs : Nat → Int32) {i : Nat} (hi : i + 7 ≤ N) {σ : xS} (hR : R σ) : ∃ τ, R τ ∧ x_F (x_run D) (N, xs) x_TX x_lc 1051 (x_Lw i) [] σ = x_F (x_run D) (N, xs) x_TX x_lc 1812 (x_Lw i) [] τ := by
  obtain ⟨v, σ1, τ, ⟨x, rfl⟩, h1, h2, h3, h4⟩ := hS (97, 187, 1, false) (by decide) σ [xs (Int32.ofNat i + 1).toNatClampNeg] rfl hR
  refine ⟨τ, h4, ?_⟩
  have h1 : x_run D 97 [.inr (.inr (some 0)), .inl (xs (Int32.ofNat i + 1).toNatClampNeg)] σ = some (some (.inl x), σ1) := h1
  have h3 : x_run D 187 [.inr (.inr (some 78)), .inl (xs (Int32.ofNat i + 1).toNatClampNeg)] σ1 = some (some (.inl x), τ) := h3
  unfold x_Lw
  rw [x_F_eq (pc := 1051), eL_1051]
  simp only [x_der_s, x_ix1 hi hN, x_ck9 (hK σ hR), h1, x_ci_s, x_ck10 h2, h3, x_lg, if_true]
theorem x_cs_1074 {D : Nat} {R : xS → Prop} (hK : ∀ σ, R σ → σ.1 = x_K) (hS : x_Steps D R) {N : Nat} (hN : N ≤ 3584) (xs : Nat → Int32) {i : Nat} (hi : i + 7 ≤ N) {σ : xS} (hR : R σ) : ∃ τ, R τ ∧ x_F (x_run D) (N, xs) x_TX x_lc 1074 (x_Lw i) [] σ = x_F (x_run D) (N, xs) x_TX x_lc 1812 (x_Lw i) [] τ := by
  obtain ⟨v, σ1, τ, ⟨x, rfl⟩, h1, h2, h3, h4⟩ := hS (98, 190, 2, false) (by decide) σ [xs (Int32.ofNat i + 1).toNatClampNeg, xs (Int32.ofNat i + 2).toNatClampNeg] rfl hR
  refine ⟨τ, h4, ?_⟩
  have h1 : x_run D 98 [.inr (.inr (some 0)), .inl (xs (Int32.ofNat i + 1).toNatClampNeg), .inl (xs (Int32.ofNat i + 2).toNatClampNeg)] σ = some (some (.inl x), σ1) := h1
  have h3 : x_run D 190 [.inr (.inr (some 78)), .inl (xs (Int32.ofNat i + 1).toNatClampNeg), .inl (xs (Int32.ofNat i + 2).toNatClampNeg)] σ1 = some (some (.inl x), τ) := h3
  unfold x_Lw
  rw [x_F_eq (pc := 1074), eL_1074]
  simp only [x_der_s, x_ix1 hi hN, x_ix2 hi hN, x_ck9 (hK σ hR), h1, x_ci_s, x_ck10 h2, h3, x_lg, if_true]
theorem x_cs_1107 {D : Nat} {R : xS → Prop} (hK : ∀ σ, R σ → σ.1 = x_K) (hS : x_Steps D R) {N : Nat} (hN : N ≤ 3584) (xs : Nat → Int32) {i : Nat} (hi : i + 7 ≤ N) {σ : xS} (hR : R σ) : ∃ τ, R τ ∧ x_F (x_run D) (N, xs) x_TX x_lc 1107 (x_Lw i) [] σ = x_F (x_run D) (N, xs) x_TX x_lc 1812 (x_Lw i) [] τ := by
  obtain ⟨v, σ1, τ, ⟨x, rfl⟩, h1, h2, h3, h4⟩ := hS (99, 192, 1, false) (by decide) σ [xs (Int32.ofNat i + 1).toNatClampNeg] rfl hR
  refine ⟨τ, h4, ?_⟩
  have h1 : x_run D 99 [.inr (.inr (some 0)), .inl (xs (Int32.ofNat i + 1).toNatClampNeg)] σ = some (some (.inl x), σ1) := h1
  have h3 : x_run D 192 [.inr (.inr (some 78)), .inl (xs (Int32.ofNat i + 1).toNatClampNeg)] σ1 = some (some (.inl x), τ) := h3
  unfold x_Lw
  rw [x_F_eq (pc := 1107), eL_1107]
  simp only [x_der_s, x_ix1 hi hN, x_ck9 (hK σ hR), h1, x_ci_s, x_ck10 h2, h3, x_lg, if_true]
theorem x_cs_1130 {D : Nat} {R : xS → Prop} (hK : ∀ σ, R σ → σ.1 = x_K) (hS : x_Steps D R) {N : Nat} (hN : N ≤ 3584) (xs : Nat → Int32) {i : Nat} (hi : i + 7 ≤ N) {σ : xS} (hR : R σ) : ∃ τ, R τ ∧ x_F (x_run D) (N, xs) x_TX x_lc 1130 (x_Lw i) [] σ = x_F (x_run D) (N, xs) x_TX x_lc 1812 (x_Lw i) [] τ := by
  obtain ⟨v, σ1, τ, ⟨x, rfl⟩, h1, h2, h3, h4⟩ := hS (100, 194, 1, false) (by decide) σ [xs (Int32.ofNat i + 1).toNatClampNeg] rfl hR
  refine ⟨τ, h4, ?_⟩
  have h1 : x_run D 100 [.inr (.inr (some 0)), .inl (xs (Int32.ofNat i + 1).toNatClampNeg)] σ = some (some (.inl x), σ1) := h1
  have h3 : x_run D 194 [.inr (.inr (some 78)), .inl (xs (Int32.ofNat i + 1).toNatClampNeg)] σ1 = some (some (.inl x), τ) := h3
  unfold x_Lw
  rw [x_F_eq (pc := 1130), eL_1130]
  simp only [x_der_s, x_ix1 hi hN, x_ck9 (hK σ hR), h1, x_ci_s, x_ck10 h2, h3, x_lg, if_true]
theorem x_cs_1153 {D : Nat} {R : xS → Prop} (hK : ∀ σ, R σ → σ.1 = x_K) (hS : x_Steps D R) {N : Nat} (hN : N ≤ 3584) (xs : Nat → Int32) {i : Nat} (hi : i + 7 ≤ N) {σ : xS} (hR : R σ) : ∃ τ, R τ ∧ x_F (x_run D) (N, xs) x_TX x_lc 1153 (x_Lw i) [] σ = x_F (x_run D) (N, xs) x_TX x_lc 1812 (x_Lw i) [] τ := by
  obtain ⟨v, σ1, τ, ⟨x, rfl⟩, h1, h2, h3, h4⟩ := hS (101, 195, 0, false) (by decide) σ [] rfl hR
  refine ⟨τ, h4, ?_⟩
  have h1 : x_run D 101 [.inr (.inr (some 0))] σ = some (some (.inl x), σ1) := h1
  have h3 : x_run D 195 [.inr (.inr (some 78))] σ1 = some (some (.inl x), τ) := h3
  unfold x_Lw
  rw [x_F_eq (pc := 1153), eL_1153]
  simp only [x_der_s, x_ck9 (hK σ hR), h1, x_ci_s, x_ck10 h2, h3, x_lg, if_true]
theorem x_cs_1166 {D : Nat} {R : xS → Prop} (hK : ∀ σ, R σ → σ.1 = x_K) (hS : x_Steps D R) {N : Nat} (hN : N ≤ 3584) (xs : Nat → Int32) {i : Nat} (hi : i + 7 ≤ N) {σ : xS} (hR : R σ) : ∃ τ, R τ ∧ x_F (x_run D) (N, xs) x_TX x_lc 1166 (x_Lw i) [] σ = x_F (x_run D) (N, xs) x_TX x_lc 1812 (x_Lw i) [] τ := by
  obtain ⟨v, σ1, τ, ⟨x, rfl⟩, h1, h2, h3, h4⟩ := hS (102, 197, 1, false) (by decide) σ [xs (Int32.ofNat i + 1).toNatClampNeg] rfl hR
  refine ⟨τ, h4, ?_⟩
  have h1 : x_run D 102 [.inr (.inr (some 0)), .inl (xs (Int32.ofNat i + 1).toNatClampNeg)] σ = some (some (.inl x), σ1) := h1
  have h3 : x_run D 197 [.inr (.inr (some 78)), .inl (xs (Int32.ofNat i + 1).toNatClampNeg)] σ1 = some (some (.inl x), τ) := h3
  unfold x_Lw
  rw [x_F_eq (pc := 1166), eL_1166]
  simp only [x_der_s, x_ix1 hi hN, x_ck9 (hK σ hR), h1, x_ci_s, x_ck10 h2, h3, x_lg, if_true]
theorem x_cs_1189 {D : Nat} {R : xS → Prop} (hK : ∀ σ, R σ → σ.1 = x_K) (hS : x_Steps D R) {N : Nat} (hN : N ≤ 3584) (xs : Nat → Int32) {i : Nat} (hi : i + 7 ≤ N) {σ : xS} (hR : R σ) : ∃ τ, R τ ∧ x_F (x_run D) (N, xs) x_TX x_lc 1189 (x_Lw i) [] σ = x_F (x_run D) (N, xs) x_TX x_lc 1812 (x_Lw i) [] τ := by
  obtain ⟨v, σ1, τ, ⟨x, rfl⟩, h1, h2, h3, h4⟩ := hS (103, 199, 3, false) (by decide) σ [xs (Int32.ofNat i + 1).toNatClampNeg, xs (Int32.ofNat i + 2).toNatClampNeg, xs (Int32.ofNat i + 3).toNatClampNeg] rfl hR
  refine ⟨τ, h4, ?_⟩
  have h1 : x_run D 103 [.inr (.inr (some 0)), .inl (xs (Int32.ofNat i + 1).toNatClampNeg), .inl (xs (Int32.ofNat i + 2).toNatClampNeg), .inl (xs (Int32.ofNat i + 3).toNatClampNeg)] σ = some (some (.inl x), σ1) := h1
  have h3 : x_run D 199 [.inr (.inr (some 78)), .inl (xs (Int32.ofNat i + 1).toNatClampNeg), .inl (xs (Int32.ofNat i + 2).toNatClampNeg), .inl (xs (Int32.ofNat i + 3).toNatClampNeg)] σ1 = some (some (.inl x), τ) := h3
  unfold x_Lw
  rw [x_F_eq (pc := 1189), eL_1189]
  simp only [x_der_s, x_ix1 hi hN, x_ix2 hi hN, x_ix3 hi hN, x_ck9 (hK σ hR), h1, x_ci_s, x_ck10 h2, h3, x_lg, if_true]
theorem x_cs_1232 {D : Nat} {R : xS → Prop} (hK : ∀ σ, R σ → σ.1 = x_K) (hS : x_Steps D R) {N : Nat} (hN : N ≤ 3584) (xs : Nat → Int32) {i : Nat} (hi : i + 7 ≤ N) {σ : xS} (hR : R σ) : ∃ τ, R τ ∧ x_F (x_run D) (N, xs) x_TX x_lc 1232 (x_Lw i) [] σ = x_F (x_run D) (N, xs) x_TX x_lc 1812 (x_Lw i) [] τ := by
  obtain ⟨v, σ1, τ, ⟨x, rfl⟩, h1, h2, h3, h4⟩ := hS (104, 200, 3, true) (by decide) σ [xs (Int32.ofNat i + 1).toNatClampNeg, xs (Int32.ofNat i + 2).toNatClampNeg, xs (Int32.ofNat i + 3).toNatClampNeg] rfl hR
  refine ⟨τ, h4, ?_⟩
  have h1 : x_run D 104 [.inr (.inr (some 0)), .inl (xs (Int32.ofNat i + 1).toNatClampNeg), .inl (xs (Int32.ofNat i + 2).toNatClampNeg), .inl (xs (Int32.ofNat i + 3).toNatClampNeg)] σ = some (some (.inr (.inl x)), σ1) := h1
  have h3 : x_run D 200 [.inr (.inr (some 78)), .inl (xs (Int32.ofNat i + 1).toNatClampNeg), .inl (xs (Int32.ofNat i + 2).toNatClampNeg), .inl (xs (Int32.ofNat i + 3).toNatClampNeg)] σ1 = some (some (.inr (.inl x)), τ) := h3
  unfold x_Lw
  rw [x_F_eq (pc := 1232), eL_1232]
  simp only [x_der_s, x_ix1 hi hN, x_ix2 hi hN, x_ix3 hi hN, x_ck9 (hK σ hR), h1, x_cl_s, x_ck10 h2, h3, x_lg, if_true]
theorem x_cs_1276 {D : Nat} {R : xS → Prop} (hK : ∀ σ, R σ → σ.1 = x_K) (hS : x_Steps D R) {N : Nat} (hN : N ≤ 3584) (xs : Nat → Int32) {i : Nat} (hi : i + 7 ≤ N) {σ : xS} (hR : R σ) : ∃ τ, R τ ∧ x_F (x_run D) (N, xs) x_TX x_lc 1276 (x_Lw i) [] σ = x_F (x_run D) (N, xs) x_TX x_lc 1812 (x_Lw i) [] τ := by
  obtain ⟨v, σ1, τ, ⟨x, rfl⟩, h1, h2, h3, h4⟩ := hS (105, 205, 2, false) (by decide) σ [xs (Int32.ofNat i + 1).toNatClampNeg, xs (Int32.ofNat i + 2).toNatClampNeg] rfl hR
  refine ⟨τ, h4, ?_⟩
  have h1 : x_run D 105 [.inr (.inr (some 0)), .inl (xs (Int32.ofNat i + 1).toNatClampNeg), .inl (xs (Int32.ofNat i + 2).toNatClampNeg)] σ = some (some (.inl x), σ1) := h1
  have h3 : x_run D 205 [.inr (.inr (some 78)), .inl (xs (Int32.ofNat i + 1).toNatClampNeg), .inl (xs (Int32.ofNat i + 2).toNatClampNeg)] σ1 = some (some (.inl x), τ) := h3
  unfold x_Lw
  rw [x_F_eq (pc := 1276), eL_1276]
  simp only [x_der_s, x_ix1 hi hN, x_ix2 hi hN, x_ck9 (hK σ hR), h1, x_ci_s, x_ck10 h2, h3, x_lg, if_true]
theorem x_cs_1309 {D : Nat} {R : xS → Prop} (hK : ∀ σ, R σ → σ.1 = x_K) (hS : x_Steps D R) {N : Nat} (hN : N ≤ 3584) (xs : Nat → Int32) {i : Nat} (hi : i + 7 ≤ N) {σ : xS} (hR : R σ) : ∃ τ, R τ ∧ x_F (x_run D) (N, xs) x_TX x_lc 1309 (x_Lw i) [] σ = x_F (x_run D) (N, xs) x_TX x_lc 1812 (x_Lw i) [] τ := by
  obtain ⟨v, σ1, τ, ⟨x, rfl⟩, h1, h2, h3, h4⟩ := hS (106, 207, 2, true) (by decide) σ [xs (Int32.ofNat i + 1).toNatClampNeg, xs (Int32.ofNat i + 2).toNatClampNeg] rfl hR
  refine ⟨τ, h4, ?_⟩
  have h1 : x_run D 106 [.inr (.inr (some 0)), .inl (xs (Int32.ofNat i + 1).toNatClampNeg), .inl (xs (Int32.ofNat i + 2).toNatClampNeg)] σ = some (some (.inr (.inl x)), σ1) := h1
  have h3 : x_run D 207 [.inr (.inr (some 78)), .inl (xs (Int32.ofNat i + 1).toNatClampNeg), .inl (xs (Int32.ofNat i + 2).toNatClampNeg)] σ1 = some (some (.inr (.inl x)), τ) := h3
  unfold x_Lw
  rw [x_F_eq (pc := 1309), eL_1309]
  simp only [x_der_s, x_ix1 hi hN, x_ix2 hi hN, x_ck9 (hK σ hR), h1, x_cl_s, x_ck10 h2, h3, x_lg, if_true]
theorem x_cs_1343 {D : Nat} {R : xS → Prop} (hK : ∀ σ, R σ → σ.1 = x_K) (hS : x_Steps D R) {N : Nat} (hN : N ≤ 3584) (xs : Nat → Int32) {i : Nat} (hi : i + 7 ≤ N) {σ : xS} (hR : R σ) : ∃ τ, R τ ∧ x_F (x_run D) (N, xs) x_TX x_lc 1343 (x_Lw i) [] σ = x_F (x_run D) (N, xs) x_TX x_lc 1812 (x_Lw i) [] τ := by
  obtain ⟨v, σ1, τ, ⟨x, rfl⟩, h1, h2, h3, h4⟩ := hS (107, 208, 3, true) (by decide) σ [xs (Int32.ofNat i + 1).toNatClampNeg, xs (Int32.ofNat i + 2).toNatClampNeg, xs (Int32.ofNat i + 3).toNatClampNeg] rfl hR
  refine ⟨τ, h4, ?_⟩
  have h1 : x_run D 107 [.inr (.inr (some 0)), .inl (xs (Int32.ofNat i + 1).toNatClampNeg), .inl (xs (Int32.ofNat i + 2).toNatClampNeg), .inl (xs (Int32.ofNat i + 3).toNatClampNeg)] σ = some (some (.inr (.inl x)), σ1) := h1
  have h3 : x_run D 208 [.inr (.inr (some 78)), .inl (xs (Int32.ofNat i + 1).toNatClampNeg), .inl (xs (Int32.ofNat i + 2).toNatClampNeg), .inl (xs (Int32.ofNat i + 3).toNatClampNeg)] σ1 = some (some (.inr (.inl x)), τ) := h3
  unfold x_Lw
  rw [x_F_eq (pc := 1343), eL_1343]
  simp only [x_der_s, x_ix1 hi hN, x_ix2 hi hN, x_ix3 hi hN, x_ck9 (hK σ hR), h1, x_cl_s, x_ck10 h2, h3, x_lg, if_true]
theorem x_cs_1387 {D : Nat} {R : xS → Prop} (hK : ∀ σ, R σ → σ.1 = x_K) (hS : x_Steps D R) {N : Nat} (hN : N ≤ 3584) (xs : Nat → Int32) {i : Nat} (hi : i + 7 ≤ N) {σ : xS} (hR : R σ) : ∃ τ, R τ ∧ x_F (x_run D) (N, xs) x_TX x_lc 1387 (x_Lw i) [] σ = x_F (x_run D) (N, xs) x_TX x_lc 1812 (x_Lw i) [] τ := by
  obtain ⟨v, σ1, τ, ⟨x, rfl⟩, h1, h2, h3, h4⟩ := hS (108, 209, 2, true) (by decide) σ [xs (Int32.ofNat i + 1).toNatClampNeg, xs (Int32.ofNat i + 2).toNatClampNeg] rfl hR
  refine ⟨τ, h4, ?_⟩
  have h1 : x_run D 108 [.inr (.inr (some 0)), .inl (xs (Int32.ofNat i + 1).toNatClampNeg), .inl (xs (Int32.ofNat i + 2).toNatClampNeg)] σ = some (some (.inr (.inl x)), σ1) := h1
  have h3 : x_run D 209 [.inr (.inr (some 78)), .inl (xs (Int32.ofNat i + 1).toNatClampNeg), .inl (xs (Int32.ofNat i + 2).toNatClampNeg)] σ1 = some (some (.inr (.inl x)), τ) := h3
  unfold x_Lw
  rw [x_F_eq (pc := 1387), eL_1387]
  simp only [x_der_s, x_ix1 hi hN, x_ix2 hi hN, x_ck9 (hK σ hR), h1, x_cl_s, x_ck10 h2, h3, x_lg, if_true]
theorem x_cs_1421 {D : Nat} {R : xS → Prop} (hK : ∀ σ, R σ → σ.1 = x_K) (hS : x_Steps D R) {N : Nat} (hN : N ≤ 3584) (xs : Nat → Int32) {i : Nat} (hi : i + 7 ≤ N) {σ : xS} (hR : R σ) : ∃ τ, R τ ∧ x_F (x_run D) (N, xs) x_TX x_lc 1421 (x_Lw i) [] σ = x_F (x_run D) (N, xs) x_TX x_lc 1812 (x_Lw i) [] τ := by
  obtain ⟨v, σ1, τ, ⟨x, rfl⟩, h1, h2, h3, h4⟩ := hS (109, 210, 3, true) (by decide) σ [xs (Int32.ofNat i + 1).toNatClampNeg, xs (Int32.ofNat i + 2).toNatClampNeg, xs (Int32.ofNat i + 3).toNatClampNeg] rfl hR
  refine ⟨τ, h4, ?_⟩
  have h1 : x_run D 109 [.inr (.inr (some 0)), .inl (xs (Int32.ofNat i + 1).toNatClampNeg), .inl (xs (Int32.ofNat i + 2).toNatClampNeg), .inl (xs (Int32.ofNat i + 3).toNatClampNeg)] σ = some (some (.inr (.inl x)), σ1) := h1
  have h3 : x_run D 210 [.inr (.inr (some 78)), .inl (xs (Int32.ofNat i + 1).toNatClampNeg), .inl (xs (Int32.ofNat i + 2).toNatClampNeg), .inl (xs (Int32.ofNat i + 3).toNatClampNeg)] σ1 = some (some (.inr (.inl x)), τ) := h3
  unfold x_Lw
  rw [x_F_eq (pc := 1421), eL_1421]
  simp only [x_der_s, x_ix1 hi hN, x_ix2 hi hN, x_ix3 hi hN, x_ck9 (hK σ hR), h1, x_cl_s, x_ck10 h2, h3, x_lg, if_true]
theorem x_cs_1465 {D : Nat} {R : xS → Prop} (hK : ∀ σ, R σ → σ.1 = x_K) (hS : x_Steps D R) {N : Nat} (hN : N ≤ 3584) (xs : Nat → Int32) {i : Nat} (hi : i + 7 ≤ N) {σ : xS} (hR : R σ) : ∃ τ, R τ ∧ x_F (x_run D) (N, xs) x_TX x_lc 1465 (x_Lw i) [] σ = x_F (x_run D) (N, xs) x_TX x_lc 1812 (x_Lw i) [] τ := by
  obtain ⟨v, σ1, τ, ⟨x, rfl⟩, h1, h2, h3, h4⟩ := hS (110, 212, 2, false) (by decide) σ [xs (Int32.ofNat i + 1).toNatClampNeg, xs (Int32.ofNat i + 2).toNatClampNeg] rfl hR
  refine ⟨τ, h4, ?_⟩
  have h1 : x_run D 110 [.inr (.inr (some 0)), .inl (xs (Int32.ofNat i + 1).toNatClampNeg), .inl (xs (Int32.ofNat i + 2).toNatClampNeg)] σ = some (some (.inl x), σ1) := h1
  have h3 : x_run D 212 [.inr (.inr (some 78)), .inl (xs (Int32.ofNat i + 1).toNatClampNeg), .inl (xs (Int32.ofNat i + 2).toNatClampNeg)] σ1 = some (some (.inl x), τ) := h3
  unfold x_Lw
  rw [x_F_eq (pc := 1465), eL_1465]
  simp only [x_der_s, x_ix1 hi hN, x_ix2 hi hN, x_ck9 (hK σ hR), h1, x_ci_s, x_ck10 h2, h3, x_lg, if_true]
theorem x_cs_1498 {D : Nat} {R : xS → Prop} (hK : ∀ σ, R σ → σ.1 = x_K) (hS : x_Steps D R) {N : Nat} (hN : N ≤ 3584) (xs : Nat → Int32) {i : Nat} (hi : i + 7 ≤ N) {σ : xS} (hR : R σ) : ∃ τ, R τ ∧ x_F (x_run D) (N, xs) x_TX x_lc 1498 (x_Lw i) [] σ = x_F (x_run D) (N, xs) x_TX x_lc 1812 (x_Lw i) [] τ := by
  obtain ⟨v, σ1, τ, ⟨x, rfl⟩, h1, h2, h3, h4⟩ := hS (111, 213, 4, false) (by decide) σ [xs (Int32.ofNat i + 1).toNatClampNeg, xs (Int32.ofNat i + 2).toNatClampNeg, xs (Int32.ofNat i + 3).toNatClampNeg, xs (Int32.ofNat i + 4).toNatClampNeg] rfl hR
  refine ⟨τ, h4, ?_⟩
  have h1 : x_run D 111 [.inr (.inr (some 0)), .inl (xs (Int32.ofNat i + 1).toNatClampNeg), .inl (xs (Int32.ofNat i + 2).toNatClampNeg), .inl (xs (Int32.ofNat i + 3).toNatClampNeg), .inl (xs (Int32.ofNat i + 4).toNatClampNeg)] σ = some (some (.inl x), σ1) := h1
  have h3 : x_run D 213 [.inr (.inr (some 78)), .inl (xs (Int32.ofNat i + 1).toNatClampNeg), .inl (xs (Int32.ofNat i + 2).toNatClampNeg), .inl (xs (Int32.ofNat i + 3).toNatClampNeg), .inl (xs (Int32.ofNat i + 4).toNatClampNeg)] σ1 = some (some (.inl x), τ) := h3
  unfold x_Lw
  rw [x_F_eq (pc := 1498), eL_1498]
  simp only [x_der_s, x_ix1 hi hN, x_ix2 hi hN, x_ix3 hi hN, x_ix4 hi hN, x_ck9 (hK σ hR), h1, x_ci_s, x_ck10 h2, h3, x_lg, if_true]
theorem x_cs_1551 {D : Nat} {R : xS → Prop} (hK : ∀ σ, R σ → σ.1 = x_K) (hS : x_Steps D R) {N : Nat} (hN : N ≤ 3584) (xs : Nat → Int32) {i : Nat} (hi : i + 7 ≤ N) {σ : xS} (hR : R σ) : ∃ τ, R τ ∧ x_F (x_run D) (N, xs) x_TX x_lc 1551 (x_Lw i) [] σ = x_F (x_run D) (N, xs) x_TX x_lc 1812 (x_Lw i) [] τ := by
  obtain ⟨v, σ1, τ, ⟨x, rfl⟩, h1, h2, h3, h4⟩ := hS (112, 214, 0, false) (by decide) σ [] rfl hR
  refine ⟨τ, h4, ?_⟩
  have h1 : x_run D 112 [.inr (.inr (some 0))] σ = some (some (.inl x), σ1) := h1
  have h3 : x_run D 214 [.inr (.inr (some 78))] σ1 = some (some (.inl x), τ) := h3
  unfold x_Lw
  rw [x_F_eq (pc := 1551), eL_1551]
  simp only [x_der_s, x_ck9 (hK σ hR), h1, x_ci_s, x_ck10 h2, h3, x_lg, if_true]
theorem x_cs_1564 {D : Nat} {R : xS → Prop} (hK : ∀ σ, R σ → σ.1 = x_K) (hS : x_Steps D R) {N : Nat} (hN : N ≤ 3584) (xs : Nat → Int32) {i : Nat} (hi : i + 7 ≤ N) {σ : xS} (hR : R σ) : ∃ τ, R τ ∧ x_F (x_run D) (N, xs) x_TX x_lc 1564 (x_Lw i) [] σ = x_F (x_run D) (N, xs) x_TX x_lc 1812 (x_Lw i) [] τ := by
  obtain ⟨v, σ1, τ, ⟨x, rfl⟩, h1, h2, h3, h4⟩ := hS (113, 215, 0, false) (by decide) σ [] rfl hR
  refine ⟨τ, h4, ?_⟩
  have h1 : x_run D 113 [.inr (.inr (some 0))] σ = some (some (.inl x), σ1) := h1
  have h3 : x_run D 215 [.inr (.inr (some 78))] σ1 = some (some (.inl x), τ) := h3
  unfold x_Lw
  rw [x_F_eq (pc := 1564), eL_1564]
  simp only [x_der_s, x_ck9 (hK σ hR), h1, x_ci_s, x_ck10 h2, h3, x_lg, if_true]
theorem x_cs_1577 {D : Nat} {R : xS → Prop} (hK : ∀ σ, R σ → σ.1 = x_K) (hS : x_Steps D R) {N : Nat} (hN : N ≤ 3584) (xs : Nat → Int32) {i : Nat} (hi : i + 7 ≤ N) {σ : xS} (hR : R σ) : ∃ τ, R τ ∧ x_F (x_run D) (N, xs) x_TX x_lc 1577 (x_Lw i) [] σ = x_F (x_run D) (N, xs) x_TX x_lc 1812 (x_Lw i) [] τ := by
  obtain ⟨v, σ1, τ, ⟨x, rfl⟩, h1, h2, h3, h4⟩ := hS (114, 216, 3, false) (by decide) σ [xs (Int32.ofNat i + 1).toNatClampNeg, xs (Int32.ofNat i + 2).toNatClampNeg, xs (Int32.ofNat i + 3).toNatClampNeg] rfl hR
  refine ⟨τ, h4, ?_⟩
  have h1 : x_run D 114 [.inr (.inr (some 0)), .inl (xs (Int32.ofNat i + 1).toNatClampNeg), .inl (xs (Int32.ofNat i + 2).toNatClampNeg), .inl (xs (Int32.ofNat i + 3).toNatClampNeg)] σ = some (some (.inl x), σ1) := h1
  have h3 : x_run D 216 [.inr (.inr (some 78)), .inl (xs (Int32.ofNat i + 1).toNatClampNeg), .inl (xs (Int32.ofNat i + 2).toNatClampNeg), .inl (xs (Int32.ofNat i + 3).toNatClampNeg)] σ1 = some (some (.inl x), τ) := h3
  unfold x_Lw
  rw [x_F_eq (pc := 1577), eL_1577]
  simp only [x_der_s, x_ix1 hi hN, x_ix2 hi hN, x_ix3 hi hN, x_ck9 (hK σ hR), h1, x_ci_s, x_ck10 h2, h3, x_lg, if_true]
theorem x_cs_1620 {D : Nat} {R : xS → Prop} (hK : ∀ σ, R σ → σ.1 = x_K) (hS : x_Steps D R) {N : Nat} (hN : N ≤ 3584) (xs : Nat → Int32) {i : Nat} (hi : i + 7 ≤ N) {σ : xS} (hR : R σ) : ∃ τ, R τ ∧ x_F (x_run D) (N, xs) x_TX x_lc 1620 (x_Lw i) [] σ = x_F (x_run D) (N, xs) x_TX x_lc 1812 (x_Lw i) [] τ := by
  obtain ⟨v, σ1, τ, ⟨x, rfl⟩, h1, h2, h3, h4⟩ := hS (115, 217, 3, false) (by decide) σ [xs (Int32.ofNat i + 1).toNatClampNeg, xs (Int32.ofNat i + 2).toNatClampNeg, xs (Int32.ofNat i + 3).toNatClampNeg] rfl hR
  refine ⟨τ, h4, ?_⟩
  have h1 : x_run D 115 [.inr (.inr (some 0)), .inl (xs (Int32.ofNat i + 1).toNatClampNeg), .inl (xs (Int32.ofNat i + 2).toNatClampNeg), .inl (xs (Int32.ofNat i + 3).toNatClampNeg)] σ = some (some (.inl x), σ1) := h1
  have h3 : x_run D 217 [.inr (.inr (some 78)), .inl (xs (Int32.ofNat i + 1).toNatClampNeg), .inl (xs (Int32.ofNat i + 2).toNatClampNeg), .inl (xs (Int32.ofNat i + 3).toNatClampNeg)] σ1 = some (some (.inl x), τ) := h3
  unfold x_Lw
  rw [x_F_eq (pc := 1620), eL_1620]
  simp only [x_der_s, x_ix1 hi hN, x_ix2 hi hN, x_ix3 hi hN, x_ck9 (hK σ hR), h1, x_ci_s, x_ck10 h2, h3, x_lg, if_true]
theorem x_cs_1663 {D : Nat} {R : xS → Prop} (hK : ∀ σ, R σ → σ.1 = x_K) (hS : x_Steps D R) {N : Nat} (hN : N ≤ 3584) (xs : Nat → Int32) {i : Nat} (hi : i + 7 ≤ N) {σ : xS} (hR : R σ) : ∃ τ, R τ ∧ x_F (x_run D) (N, xs) x_TX x_lc 1663 (x_Lw i) [] σ = x_F (x_run D) (N, xs) x_TX x_lc 1812 (x_Lw i) [] τ := by
  obtain ⟨v, σ1, τ, ⟨x, rfl⟩, h1, h2, h3, h4⟩ := hS (116, 218, 5, false) (by decide) σ [xs (Int32.ofNat i + 1).toNatClampNeg, xs (Int32.ofNat i + 2).toNatClampNeg, xs (Int32.ofNat i + 3).toNatClampNeg, xs (Int32.ofNat i + 4).toNatClampNeg, xs (Int32.ofNat i + 5).toNatClampNeg] rfl hR
  refine ⟨τ, h4, ?_⟩
  have h1 : x_run D 116 [.inr (.inr (some 0)), .inl (xs (Int32.ofNat i + 1).toNatClampNeg), .inl (xs (Int32.ofNat i + 2).toNatClampNeg), .inl (xs (Int32.ofNat i + 3).toNatClampNeg), .inl (xs (Int32.ofNat i + 4).toNatClampNeg), .inl (xs (Int32.ofNat i + 5).toNatClampNeg)] σ = some (some (.inl x), σ1) := h1
  have h3 : x_run D 218 [.inr (.inr (some 78)), .inl (xs (Int32.ofNat i + 1).toNatClampNeg), .inl (xs (Int32.ofNat i + 2).toNatClampNeg), .inl (xs (Int32.ofNat i + 3).toNatClampNeg), .inl (xs (Int32.ofNat i + 4).toNatClampNeg), .inl (xs (Int32.ofNat i + 5).toNatClampNeg)] σ1 = some (some (.inl x), τ) := h3
  unfold x_Lw
  rw [x_F_eq (pc := 1663), eL_1663]
  simp only [x_der_s, x_ix1 hi hN, x_ix2 hi hN, x_ix3 hi hN, x_ix4 hi hN, x_ix5 hi hN, x_ck9 (hK σ hR), h1, x_ci_s, x_ck10 h2, h3, x_lg, if_true]
theorem x_cs_1726 {D : Nat} {R : xS → Prop} (hK : ∀ σ, R σ → σ.1 = x_K) (hS : x_Steps D R) {N : Nat} (hN : N ≤ 3584) (xs : Nat → Int32) {i : Nat} (hi : i + 7 ≤ N) {σ : xS} (hR : R σ) : ∃ τ, R τ ∧ x_F (x_run D) (N, xs) x_TX x_lc 1726 (x_Lw i) [] σ = x_F (x_run D) (N, xs) x_TX x_lc 1812 (x_Lw i) [] τ := by
  obtain ⟨v, σ1, τ, ⟨x, rfl⟩, h1, h2, h3, h4⟩ := hS (117, 219, 4, false) (by decide) σ [xs (Int32.ofNat i + 1).toNatClampNeg, xs (Int32.ofNat i + 2).toNatClampNeg, xs (Int32.ofNat i + 3).toNatClampNeg, xs (Int32.ofNat i + 4).toNatClampNeg] rfl hR
  refine ⟨τ, h4, ?_⟩
  have h1 : x_run D 117 [.inr (.inr (some 0)), .inl (xs (Int32.ofNat i + 1).toNatClampNeg), .inl (xs (Int32.ofNat i + 2).toNatClampNeg), .inl (xs (Int32.ofNat i + 3).toNatClampNeg), .inl (xs (Int32.ofNat i + 4).toNatClampNeg)] σ = some (some (.inl x), σ1) := h1
  have h3 : x_run D 219 [.inr (.inr (some 78)), .inl (xs (Int32.ofNat i + 1).toNatClampNeg), .inl (xs (Int32.ofNat i + 2).toNatClampNeg), .inl (xs (Int32.ofNat i + 3).toNatClampNeg), .inl (xs (Int32.ofNat i + 4).toNatClampNeg)] σ1 = some (some (.inl x), τ) := h3
  unfold x_Lw
  rw [x_F_eq (pc := 1726), eL_1726]
  simp only [x_der_s, x_ix1 hi hN, x_ix2 hi hN, x_ix3 hi hN, x_ix4 hi hN, x_ck9 (hK σ hR), h1, x_ci_s, x_ck10 h2, h3, x_lg, if_true]
theorem x_cs_1779 {D : Nat} {R : xS → Prop} (hK : ∀ σ, R σ → σ.1 = x_K) (hS : x_Steps D R) {N : Nat} (hN : N ≤ 3584) (xs : Nat → Int32) {i : Nat} (hi : i + 7 ≤ N) {σ : xS} (hR : R σ) : ∃ τ, R τ ∧ x_F (x_run D) (N, xs) x_TX x_lc 1779 (x_Lw i) [] σ = x_F (x_run D) (N, xs) x_TX x_lc 1812 (x_Lw i) [] τ := by
  obtain ⟨v, σ1, τ, ⟨x, rfl⟩, h1, h2, h3, h4⟩ := hS (118, 222, 2, false) (by decide) σ [xs (Int32.ofNat i + 1).toNatClampNeg, xs (Int32.ofNat i + 2).toNatClampNeg] rfl hR
  refine ⟨τ, h4, ?_⟩
  have h1 : x_run D 118 [.inr (.inr (some 0)), .inl (xs (Int32.ofNat i + 1).toNatClampNeg), .inl (xs (Int32.ofNat i + 2).toNatClampNeg)] σ = some (some (.inl x), σ1) := h1
  have h3 : x_run D 222 [.inr (.inr (some 78)), .inl (xs (Int32.ofNat i + 1).toNatClampNeg), .inl (xs (Int32.ofNat i + 2).toNatClampNeg)] σ1 = some (some (.inl x), τ) := h3
  unfold x_Lw
  rw [x_F_eq (pc := 1779), eL_1779]
  simp only [x_der_s, x_ix1 hi hN, x_ix2 hi hN, x_ck9 (hK σ hR), h1, x_ci_s, x_ck10 h2, h3, x_lg, if_true]
theorem x_loop {D : Nat} {R : xS → Prop} (hK : ∀ σ, R σ → σ.1 = x_K) (hS : x_Steps D R) {N : Nat} (hN : N ≤ 3584) (xs : Nat → Int32) : ∀ (n i : Nat) (σ : xS), N < i + 7 * n → i ≤ N → R σ → ∃ τ, R τ ∧ x_F (x_run D) (N, xs) x_TX x_lc 18 (x_Lw i) [] σ = some (some (.inl 1), τ) := by
  intro n
  induction n with
  | zero => exact fun i σ h1 h2 => absurd h1 (by omega)
  | succ n ih =>
    intro i σ h1 h2 hR
    rw [x_F_eq (pc := 18)]
    unfold x_Lw
    rw [eL_18]
    simp only [x_der_s]
    by_cases hi : N < i + 7
    · rw [if_pos ((x_endk hN (by omega)).mpr hi)]
      exact ⟨σ, hR, rfl⟩
    · have hi7 : i + 7 ≤ N := by omega
      rw [if_neg (fun h => hi ((x_endk hN (by omega)).mp h)), x_ixk (by omega) hN]
      have A : ∀ pc, (∃ τ, R τ ∧ x_F (x_run D) (N, xs) x_TX x_lc pc (x_Lw i) [] σ = x_F (x_run D) (N, xs) x_TX x_lc 1812 (x_Lw i) [] τ) → ∃ τ, R τ ∧ x_F (x_run D) (N, xs) x_TX x_lc pc (x_Lw i) [] σ = some (some (.inl 1), τ) := by
        rintro pc ⟨τ, hτ, e⟩
        rw [e, x_F_eq (pc := 1812)]
        unfold x_Lw
        rw [eL_1812, show Int32.ofNat i + 7 = Int32.ofNat (i + 7) from x_add (i := i) (c := 7)]
        exact ih (i + 7) τ (by omega) hi7 hτ
      exact (x_ite (P := fun r => ∃ τ, R τ ∧ r = some (some (.inl 1), τ)) (A 220 (x_cs_220 hK hS hN xs hi7 hR)) (x_ite (P := fun r => ∃ τ, R τ ∧ r = some (some (.inl 1), τ)) (A 243 (x_cs_243 hK hS hN xs hi7 hR)) (x_ite (P := fun r => ∃ τ, R τ ∧ r = some (some (.inl 1), τ)) (A 276 (x_cs_276 hK hS hN xs hi7 hR)) (x_ite (P := fun r => ∃ τ, R τ ∧ r = some (some (.inl 1), τ)) (A 351 (x_cs_351 hK hS hN xs hi7 hR)) (x_ite (P := fun r => ∃ τ, R τ ∧ r = some (some (.inl 1), τ)) (A 364 (x_cs_364 hK hS hN xs hi7 hR)) (x_ite (P := fun r => ∃ τ, R τ ∧ r = some (some (.inl 1), τ)) (A 387 (x_cs_387 hK hS hN xs hi7 hR)) (x_ite (P := fun r => ∃ τ, R τ ∧ r = some (some (.inl 1), τ)) (A 440 (x_cs_440 hK hS hN xs hi7 hR)) (x_ite (P := fun r => ∃ τ, R τ ∧ r = some (some (.inl 1), τ)) (A 483 (x_cs_483 hK hS hN xs hi7 hR)) (x_ite (P := fun r => ∃ τ, R τ ∧ r = some (some (.inl 1), τ)) (A 526 (x_cs_526 hK hS hN xs hi7 hR)) (x_ite (P := fun r => ∃ τ, R τ ∧ r = some (some (.inl 1), τ)) (A 559 (x_cs_559 hK hS hN xs hi7 hR)) (x_ite (P := fun r => ∃ τ, R τ ∧ r = some (some (.inl 1), τ)) (A 592 (x_cs_592 hK hS hN xs hi7 hR)) (x_ite (P := fun r => ∃ τ, R τ ∧ r = some (some (.inl 1), τ)) (A 625 (x_cs_625 hK hS hN xs hi7 hR)) (x_ite (P := fun r => ∃ τ, R τ ∧ r = some (some (.inl 1), τ)) (A 669 (x_cs_669 hK hS hN xs hi7 hR)) (x_ite (P := fun r => ∃ τ, R τ ∧ r = some (some (.inl 1), τ)) (A 713 (x_cs_713 hK hS hN xs hi7 hR)) (x_ite (P := fun r => ∃ τ, R τ ∧ r = some (some (.inl 1), τ)) (A 767 (x_cs_767 hK hS hN xs hi7 hR)) (x_ite (P := fun r => ∃ τ, R τ ∧ r = some (some (.inl 1), τ)) (A 801 (x_cs_801 hK hS hN xs hi7 hR)) (x_ite (P := fun r => ∃ τ, R τ ∧ r = some (some (.inl 1), τ)) (A 844 (x_cs_844 hK hS hN xs hi7 hR)) (x_ite (P := fun r => ∃ τ, R τ ∧ r = some (some (.inl 1), τ)) (A 877 (x_cs_877 hK hS hN xs hi7 hR)) (x_ite (P := fun r => ∃ τ, R τ ∧ r = some (some (.inl 1), τ)) (A 921 (x_cs_921 hK hS hN xs hi7 hR)) (x_ite (P := fun r => ∃ τ, R τ ∧ r = some (some (.inl 1), τ)) (A 954 (x_cs_954 hK hS hN xs hi7 hR)) (x_ite (P := fun r => ∃ τ, R τ ∧ r = some (some (.inl 1), τ)) (A 1008 (x_cs_1008 hK hS hN xs hi7 hR)) (x_ite (P := fun r => ∃ τ, R τ ∧ r = some (some (.inl 1), τ)) (A 1051 (x_cs_1051 hK hS hN xs hi7 hR)) (x_ite (P := fun r => ∃ τ, R τ ∧ r = some (some (.inl 1), τ)) (A 1074 (x_cs_1074 hK hS hN xs hi7 hR)) (x_ite (P := fun r => ∃ τ, R τ ∧ r = some (some (.inl 1), τ)) (A 1107 (x_cs_1107 hK hS hN xs hi7 hR)) (x_ite (P := fun r => ∃ τ, R τ ∧ r = some (some (.inl 1), τ)) (A 1130 (x_cs_1130 hK hS hN xs hi7 hR)) (x_ite (P := fun r => ∃ τ, R τ ∧ r = some (some (.inl 1), τ)) (A 1153 (x_cs_1153 hK hS hN xs hi7 hR)) (x_ite (P := fun r => ∃ τ, R τ ∧ r = some (some (.inl 1), τ)) (A 1166 (x_cs_1166 hK hS hN xs hi7 hR)) (x_ite (P := fun r => ∃ τ, R τ ∧ r = some (some (.inl 1), τ)) (A 1189 (x_cs_1189 hK hS hN xs hi7 hR)) (x_ite (P := fun r => ∃ τ, R τ ∧ r = some (some (.inl 1), τ)) (A 1232 (x_cs_1232 hK hS hN xs hi7 hR)) (x_ite (P := fun r => ∃ τ, R τ ∧ r = some (some (.inl 1), τ)) (A 1276 (x_cs_1276 hK hS hN xs hi7 hR)) (x_ite (P := fun r => ∃ τ, R τ ∧ r = some (some (.inl 1), τ)) (A 1309 (x_cs_1309 hK hS hN xs hi7 hR)) (x_ite (P := fun r => ∃ τ, R τ ∧ r = some (some (.inl 1), τ)) (A 1343 (x_cs_1343 hK hS hN xs hi7 hR)) (x_ite (P := fun r => ∃ τ, R τ ∧ r = some (some (.inl 1), τ)) (A 1387 (x_cs_1387 hK hS hN xs hi7 hR)) (x_ite (P := fun r => ∃ τ, R τ ∧ r = some (some (.inl 1), τ)) (A 1421 (x_cs_1421 hK hS hN xs hi7 hR)) (x_ite (P := fun r => ∃ τ, R τ ∧ r = some (some (.inl 1), τ)) (A 1465 (x_cs_1465 hK hS hN xs hi7 hR)) (x_ite (P := fun r => ∃ τ, R τ ∧ r = some (some (.inl 1), τ)) (A 1498 (x_cs_1498 hK hS hN xs hi7 hR)) (x_ite (P := fun r => ∃ τ, R τ ∧ r = some (some (.inl 1), τ)) (A 1551 (x_cs_1551 hK hS hN xs hi7 hR)) (x_ite (P := fun r => ∃ τ, R τ ∧ r = some (some (.inl 1), τ)) (A 1564 (x_cs_1564 hK hS hN xs hi7 hR)) (x_ite (P := fun r => ∃ τ, R τ ∧ r = some (some (.inl 1), τ)) (A 1577 (x_cs_1577 hK hS hN xs hi7 hR)) (x_ite (P := fun r => ∃ τ, R τ ∧ r = some (some (.inl 1), τ)) (A 1620 (x_cs_1620 hK hS hN xs hi7 hR)) (x_ite (P := fun r => ∃ τ, R τ ∧ r = some (some (.inl 1), τ)) (A 1663 (x_cs_1663 hK hS hN xs hi7 hR)) (x_ite (P := fun r => ∃ τ, R τ ∧ r = some (some (.inl 1), τ)) (A 1726 (x_cs_1726 hK hS hN xs hi7 hR)) (x_ite (P := fun r => ∃ τ, R τ ∧ r = some (some (.inl 1), τ)) (A 1779 (x_cs_1779 hK hS hN xs hi7 hR)) (A 1812 ⟨σ, hR, rfl⟩))))))))))))))))))))))))))))))))))))))))))))
theorem x_run_up : ∀ (d j : Nat) (av : List xV) (σ : xS) (r : xR), x_run d j av σ = some r → x_run (d + 1) j av σ = some r
  | 0, _, _, _, _, h => by cases h
  | d + 1, j, av, σ, r, h => by
    have ih := x_run_up d
    rw [x_run_f] at h ⊢
    cases hb : Nat.ble (x_cs av) (x_ml j) with
    | false => rw [hb] at h; cases h
    | true =>
      rw [hb] at h
      obtain ⟨n, hn⟩ := x_F_some.mp (show x_F (x_run d) x_X0 x_TX (x_C j) 0 (x_args av (x_ml j)) [] σ = some r from h)
      have h2 := x_E_m (O := fun k => bif k then x_run (d + 1) else x_run d) (fun j av σ r h => ih j av σ r h) (X := x_X0) (TX := x_TX) (C := x_C j) n 0 (x_args av (x_ml j)) [] σ r hn
      exact x_F_some.mpr ⟨n, h2⟩
theorem x_run_le {d d' : Nat} (h : d ≤ d') {j : Nat} {av : List xV} {σ : xS} {r : xR} (hr : x_run d j av σ = some r) : x_run d' j av σ = some r := by
  obtain ⟨k, rfl⟩ := Nat.exists_eq_add_of_le h
  clear h
  induction k with
  | zero => exact hr
  | succ k ih => exact x_run_up (d + k) j av σ r ih
/-- what both constructors leave, told of a state -/
def x_St0 (τ : xS) : Prop := τ.1 = x_K ∧ (∀ q ∈ x_Ql, x_Q τ q.1 q.2.1 = q.2.2) ∧ ∀ q ∈ x_Il, x_I τ q.1 q.2.1 = q.2.2
theorem x_law_true {D : Nat} (hD : 40 ≤ D) {R : xS → Prop} (hK : ∀ σ, R σ → σ.1 = x_K) (h0 : ∀ τ, x_St0 τ → R τ) (hS : x_Steps D R) {N : Nat} (hN : N ≤ 3584) (xs : Nat → Int32) : ∃ τ, x_F (x_run D) (N, xs) x_TX x_lc 0 (x_args [.inr (.inr (some 2000))] 4) [] x_s0 = some (some (.inl 1), τ) ∧ x_sz τ.1 ≤ 7302250 ∧ τ.1.length ≤ 900 := by
  obtain ⟨σ, τ0, e1, hlen, e2, e3, e4, e5⟩ := x_start
  have e1 := x_run_le hD e1
  have e2 := x_run_le hD e2
  obtain ⟨τ, hR, e⟩ := x_loop hK hS hN xs (N + 1) 0 τ0 (by omega) (Nat.zero_le _) (h0 τ0 ⟨e3, e4, e5⟩)
  refine ⟨τ, ?_, ?_, ?_⟩
  · rw [x_F_eq (pc := 0), show x_args [.inr (.inr (some 2000))] 4 = [some (.inr (.inr (some 2000))), none, none, none] from rfl, eL_0]
    have e1 : x_run D 75 [.inr (.inr (some x_s0.1.length))] (x_new x_s0 9 0) = some (none, σ) := e1
    have e2 : x_run D 132 [.inr (.inr (some σ.1.length))] (x_new σ 10 0) = some (none, τ0) := by rw [hlen]; exact e2
    rw [show Nat.blt x_s0.1.length 900 = true from rfl, cond_true, e1, x_cv_s, show Nat.blt σ.1.length 900 = true by rw [hlen]; rfl, cond_true, e2, x_cv_s, hlen]
    exact e
  · rw [hK τ hR]; decide
  · rw [hK τ hR]; decide
