/-! the component's round -/
def y_41 (b _ : Nat) : Prop := b = 41
theorem g41 {d : Nat} {σ : xS} (hG : x_G σ) {k : Nat} (hk : k < 5) : x_run (d + 1) 129 [.inr (.inr (some 41)), .inl (Int32.ofNat k)] σ = some (some (.inl (x_I σ 41 k)), σ) := m129 d hG (a := 41) (n := 5) rfl hk (by omega)
theorem g42 {d : Nat} {σ : xS} (hG : x_G σ) {k : Nat} (hk : k < 5) : x_run (d + 1) 129 [.inr (.inr (some 42)), .inl (Int32.ofNat k)] σ = some (some (.inl (x_I σ 42 k)), σ) := m129 d hG (a := 42) (n := 5) rfl hk (by omega)
theorem g43 {d : Nat} {σ : xS} (hG : x_G σ) {k : Nat} (hk : k < 5) : x_run (d + 1) 129 [.inr (.inr (some 43)), .inl (Int32.ofNat k)] σ = some (some (.inl (x_I σ 43 k)), σ) := m129 d hG (a := 43) (n := 5) rfl hk (by omega)
theorem m6 (d : Nat) {n : Nat} (hn : n ≤ 5) {l : List Nat} (hl : y_pm n l) {i j : Nat} (hi : i < n) (hj : j < n) {σ : xS} (hG : x_G σ) (h : y_ct 41 n l σ) : ∃ τ, x_run (d + 2) 6 [.inr (.inr (some 40)), .inl (Int32.ofNat i), .inl (Int32.ofNat j)] σ = some (none, τ) ∧ x_fr y_41 x_w0 σ τ ∧ y_ct 41 n (y_sw l i j) τ := by
  refine ⟨x_si (x_si σ 41 i (Int32.ofNat (y_gd l j))) 41 j (Int32.ofNat (y_gd l i)), ?_, ((x_fr.refl y_41 x_w0 σ).si _ rfl).si _ rfl, y_ct_sw hl.1 hi hj h⟩
  have hG1 : x_G (x_si σ 41 i (Int32.ofNat (y_gd l j))) := hG
  rw [r6, e6_0, x_k40 hG, x_q40_0 hG, g41 hG (by omega), x_ci_s, x_k40 hG, x_k40 hG, x_q40_0 hG, g41 hG (by omega), x_ci_s, h i hi, h j hj, m130 d hG (a := 41) (n := 5) rfl (by omega) (by omega), x_cv_s, x_k40 hG1, x_q40_0 hG1, m130 d hG1 (a := 41) (n := 5) rfl (by omega) (by omega), x_cv_s]
theorem l5c (d : Nat) {n : Nat} (hn : n ≤ 5) : ∀ q a b l σ, b < n → a ≤ n → b ≤ a + q → y_pm n l → x_G σ → y_ct 41 n l σ → ∃ τ, x_f (d + 2) 5 99 [some (.inr (.inr (some 40))), none, none, some (.inl (Int32.ofNat a)), some (.inl (Int32.ofNat b))] [] σ = some (some (.inl 1), τ) ∧ x_fr y_41 x_w0 σ τ ∧ y_ct 41 n (y_rv q l a b) τ
  | 0, a, b, l, σ, hb, ha, hq, hl, hG, h => by
    refine ⟨σ, ?_, x_fr.refl _ _ _, h⟩
    rw [x_feq, e5_99, if_pos ((x_le (by omega) (by omega)).mpr (by omega))]
  | q + 1, a, b, l, σ, hb, ha, hq, hl, hG, h => by
    by_cases c : b ≤ a
    · have e : y_rv (q + 1) l a b = l := if_pos c
      refine ⟨σ, ?_, x_fr.refl _ _ _, by rw [e]; exact h⟩
      rw [x_feq, e5_99, if_pos ((x_le (by omega) (by omega)).mpr c)]
    · have e : y_rv (q + 1) l a b = y_rv q (y_sw l a b) (a + 1) (b - 1) := if_neg c
      obtain ⟨σ1, a1, f1, g1⟩ := m6 d hn hl (i := a) (j := b) (by omega) hb hG h
      obtain ⟨τ, a2, f2, g2⟩ := l5c d hn q (a + 1) (b - 1) (y_sw l a b) σ1 (by omega) (by omega) (by omega) (y_sw_pm (by omega) hb hl) (f1.G hG) g1
      refine ⟨τ, ?_, f1.trans f2, by rw [e]; exact g2⟩
      obtain ⟨b', rfl⟩ : ∃ b', b = b' + 1 := ⟨b - 1, by omega⟩
      rw [x_feq, e5_99, if_neg (fun g => c ((x_le (by omega) (by omega)).mp g)), x_k40 hG, a1, x_cv_s, x_s1, x_pm1]
      exact a2
theorem l5b (d : Nat) {n : Nat} (hn : n ≤ 5) {l : List Nat} (hl : y_pm n l) {i : Nat} (hi : i < n) {σ : xS} (hG : x_G σ) (h : y_ct 41 n l σ) : ∀ j, j < n → x_f (d + 2) 5 51 [some (.inr (.inr (some 40))), some (.inl (Int32.ofNat i)), some (.inl (Int32.ofNat j)), none, none] [] σ = x_f (d + 2) 5 81 [some (.inr (.inr (some 40))), some (.inl (Int32.ofNat i)), some (.inl (Int32.ofNat (y_f2 l i j))), none, none] [] σ
  | 0, hj => by
    rw [x_feq, e5_51, if_pos ((x_le (by omega) (by omega)).mpr (by omega))]
    rfl
  | j + 1, hj => by
    have b1 := hl.2 i hi
    have b2 := hl.2 (j + 1) hj
    by_cases c : j + 1 ≤ i
    · have e : y_f2 l i (j + 1) = j + 1 := if_pos c
      rw [e, x_feq, e5_51, if_pos ((x_le (by omega) (by omega)).mpr c)]
    · by_cases c2 : y_gd l i ≤ y_gd l (j + 1)
      · have e : y_f2 l i (j + 1) = j + 1 := (if_neg c).trans (if_pos c2)
        rw [e, x_feq, e5_51, if_neg (fun g => c ((x_le (by omega) (by omega)).mp g)), x_k40 hG, x_q40_0 hG, g41 hG (by omega), x_ci_s, x_k40 hG, x_q40_0 hG, g41 hG (by omega), x_ci_s, h i hi, h (j + 1) hj, if_pos ((x_le (by omega) (by omega)).mpr c2)]
      · have e : y_f2 l i (j + 1) = y_f2 l i j := (if_neg c).trans (if_neg c2)
        rw [e, x_feq, e5_51, if_neg (fun g => c ((x_le (by omega) (by omega)).mp g)), x_k40 hG, x_q40_0 hG, g41 hG (by omega), x_ci_s, x_k40 hG, x_q40_0 hG, g41 hG (by omega), x_ci_s, h i hi, h (j + 1) hj, if_neg (fun g => c2 ((x_le (by omega) (by omega)).mp g)), x_pm1]
        exact l5b d hn hl hi hG h j (by omega)
theorem l5a (d : Nat) {n : Nat} (hn : n ≤ 5) {l : List Nat} (hl : y_pm n l) {σ : xS} (hG : x_G σ) (h3 : x_I σ 40 3 = Int32.ofNat n) (h : y_ct 41 n l σ) : ∀ k v, k < n → v = Int32.ofNat k + (-1) → x_f (d + 2) 5 7 [some (.inr (.inr (some 40))), some (.inl v), none, none, none] [] σ = (match y_f1 l k with
      | none => some (some (.inl 0), σ)
      | some i => x_f (d + 2) 5 51 [some (.inr (.inr (some 40))), some (.inl (Int32.ofNat i)), some (.inl (Int32.ofNat (n - 1))), none, none] [] σ)
  | 0, v, hk, hv => by
    subst hv
    rw [x_feq, e5_7, if_pos (by decide), if_neg (by decide)]
    rfl
  | k + 1, v, hk, hv => by
    rw [x_pm1] at hv
    subst hv
    have b1 := hl.2 k (by omega)
    have b2 := hl.2 (k + 1) hk
    have n1 : Int32.ofNat n - 1 = Int32.ofNat (n - 1) := by
      obtain ⟨m, rfl⟩ : ∃ m, n = m + 1 := ⟨n - 1, by omega⟩
      rw [x_p1]
      rfl
    have pos : (0 : Int32) ≤ Int32.ofNat k := Int32.not_lt.mp (x_nn0 (by omega))
    rw [x_feq, e5_7, if_neg (x_nn0 (by omega)), x_k40 hG, x_q40_0 hG, g41 hG (by omega), x_ci_s, x_k40 hG, x_q40_0 hG, x_s1, g41 hG (by omega), x_ci_s, h k (by omega), h (k + 1) hk, if_pos pos, x_k40 hG, h3, n1]
    by_cases c : y_gd l k ≤ y_gd l (k + 1)
    · have e : y_f1 l (k + 1) = some k := if_pos c
      rw [if_pos ((x_le (by omega) (by omega)).mpr c), e]
    · have e : y_f1 l (k + 1) = y_f1 l k := if_neg c
      rw [if_neg (fun g => c ((x_le (by omega) (by omega)).mp g)), e]
      exact l5a d hn hl hG h3 h k _ (by omega) rfl
theorem m5 (d : Nat) {n : Nat} (hn : n ≤ 5) {l : List Nat} (hl : y_pm n l) {σ : xS} (hG : x_G σ) (h3 : x_I σ 40 3 = Int32.ofNat n) (h : y_ct 41 n l σ) : match y_nx n l with
      | none => x_run (d + 3) 5 [.inr (.inr (some 40))] σ = some (some (.inl 0), σ)
      | some l' => ∃ τ, x_run (d + 3) 5 [.inr (.inr (some 40))] σ = some (some (.inl 1), τ) ∧ x_fr y_41 x_w0 σ τ ∧ y_ct 41 n l' τ := by
  have st : x_run (d + 3) 5 [.inr (.inr (some 40))] σ = x_f (d + 2) 5 7 [some (.inr (.inr (some 40))), some (.inl (Int32.ofNat n - 2)), none, none, none] [] σ := by
    rw [r5, e5_0, x_k40 hG, h3]
  rw [st]
  unfold y_nx
  rcases (show n = 0 ∨ 0 < n by omega) with rfl | pos
  · show x_f (d + 2) 5 7 _ [] σ = some (some (.inl 0), σ)
    rw [x_feq, e5_7, if_pos (by decide), if_neg (by decide)]
  · have en : Int32.ofNat n - 2 = Int32.ofNat (n - 1) + (-1) := by
      rcases (show n = 1 ∨ n = 2 ∨ n = 3 ∨ n = 4 ∨ n = 5 by omega) with rfl | rfl | rfl | rfl | rfl <;> decide
    rw [l5a d hn hl hG h3 h (n - 1) _ (by omega) en]
    cases c : y_f1 l (n - 1) with
    | none => rfl
    | some i =>
      have h1 := y_f1_lt l _ i c
      have h2 := y_f2_lt l i (n - 1)
      obtain ⟨σ1, a1, f1, g1⟩ := m6 d hn hl (i := i) (j := y_f2 l i (n - 1)) (by omega) (by omega) hG h
      obtain ⟨τ, a2, f2, g2⟩ := l5c d hn 5 (i + 1) (n - 1) (y_sw l i (y_f2 l i (n - 1))) σ1 (by omega) (by omega) (by omega) (y_sw_pm (by omega) (by omega) hl) (f1.G hG) g1
      refine ⟨τ, ?_, f1.trans f2, g2⟩
      have n1 : Int32.ofNat n - 1 = Int32.ofNat (n - 1) := by
        obtain ⟨m, rfl⟩ : ∃ m, n = m + 1 := ⟨n - 1, by omega⟩
        rw [x_p1]
        rfl
      show x_f (d + 2) 5 51 [some (.inr (.inr (some 40))), some (.inl (Int32.ofNat i)), some (.inl (Int32.ofNat (n - 1))), none, none] [] σ = _
      rw [l5b d hn hl (by omega) hG h (n - 1) (by omega), x_feq, e5_81, x_k40 hG, a1, x_cv_s, x_k40 (f1.G hG), (f1.I (by unfold y_41; omega)).trans h3, n1, x_s1]
      exact a2
/-! the way of a round -/
def y_ds (a b : Nat) : Nat := if b ≤ a then (if a - b ≤ 6 then a - b else 12 - (a - b)) else (if b - a ≤ 6 then b - a else 12 - (b - a))
theorem y_ds_le {a b : Nat} (ha : a < 12) (hb : b < 12) : y_ds a b ≤ 6 := by
  unfold y_ds
  split
  · split <;> omega
  · split <;> omega
def y_d3 (i0 i1 : Int32) : Int32 := if (12 - (if 0 ≤ (i0 - i1) then (i0 - i1) else 0 - (i0 - i1))) < (if 0 ≤ (i0 - i1) then (i0 - i1) else 0 - (i0 - i1)) then (12 - (if 0 ≤ (i0 - i1) then (i0 - i1) else 0 - (i0 - i1))) else (if 0 ≤ (i0 - i1) then (i0 - i1) else 0 - (i0 - i1))
theorem y_d3e : ∀ a, a < 12 → ∀ b, b < 12 → y_d3 (Int32.ofNat a) (Int32.ofNat b) = Int32.ofNat (y_ds a b) := by decide +kernel
theorem m3 (d : Nat) {a b : Nat} (ha : a < 12) (hb : b < 12) (σ : xS) : x_run (d + 1) 3 [.inl (Int32.ofNat a), .inl (Int32.ofNat b)] σ = some (some (.inl (Int32.ofNat (y_ds a b))), σ) := by
  rw [← y_d3e a ha b hb, r3, e3_0]
  rfl
theorem m181 (d : Nat) {a b : Nat} (ha : a < 12) (hb : b < 12) (σ : xS) : x_run (d + 1) 181 [.inl (Int32.ofNat a), .inl (Int32.ofNat b)] σ = some (some (.inl (Int32.ofNat (y_ds a b))), σ) := by
  rw [r181, e181_0]
  unfold y_ds
  by_cases c : b ≤ a
  · rw [if_pos ((x_le (by omega) (by omega)).mpr c), if_pos c, x_sb c (by omega)]
    by_cases c2 : a - b ≤ 6
    · rw [if_pos (show Int32.ofNat (a - b) ≤ 6 from (x_le (b := 6) (by omega) (by omega)).mpr c2), if_pos c2]
    · rw [if_neg (show ¬ Int32.ofNat (a - b) ≤ 6 from fun g => c2 ((x_le (b := 6) (by omega) (by omega)).mp g)), if_neg c2, show (12 : Int32) = Int32.ofNat 12 from rfl, x_sb (by omega) (by omega)]
  · rw [if_neg (fun g => c ((x_le (by omega) (by omega)).mp g)), if_neg c, x_sb (by omega) (by omega)]
    by_cases c2 : b - a ≤ 6
    · rw [if_pos (show Int32.ofNat (b - a) ≤ 6 from (x_le (b := 6) (by omega) (by omega)).mpr c2), if_pos c2]
    · rw [if_neg (show ¬ Int32.ofNat (b - a) ≤ 6 from fun g => c2 ((x_le (b := 6) (by omega) (by omega)).mp g)), if_neg c2, show (12 : Int32) = Int32.ofNat 12 from rfl, x_sb (by omega) (by omega)]
/-- steps, cost, hour -/
def y_cs (H T : Nat → Nat) (l : List Nat) (u : Nat) (b : Nat × (Nat × Nat)) : Nat × (Nat × Nat) := (b.1 + y_ds b.2.2 (H (y_gd l u)), b.2.1 + T (y_gd l u) * (b.1 + y_ds b.2.2 (H (y_gd l u))), H (y_gd l u))
theorem y_cs_b (H T : Nat → Nat) {n : Nat} {l : List Nat} (hl : y_pm n l) (hH : ∀ p, p < n → H p < 12) (hT : ∀ p, p < n → T p ≤ 8991) : ∀ q u b, u + q = n → n ≤ 5 → b.2.2 < 12 → b.1 ≤ 6 * u → b.2.1 ≤ u * (8991 * 30) → (x_it (y_cs H T l) u q b).1 ≤ 30 ∧ (x_it (y_cs H T l) u q b).2.1 ≤ 5 * (8991 * 30)
  | 0, u, b, hq, hn, h1, h2, h3 => by
    have : x_it (y_cs H T l) u 0 b = b := rfl
    rw [this]
    omega
  | q + 1, u, b, hq, hn, h1, h2, h3 => by
    have hu : y_gd l u < n := hl.2 u (by omega)
    have d1 := y_ds_le h1 (hH _ hu)
    have t1 := hT _ hu
    refine y_cs_b H T hl hH hT q (u + 1) (y_cs H T l u b) (by omega) hn (hH _ hu) ?_ ?_
    · show b.1 + y_ds b.2.2 (H (y_gd l u)) ≤ _
      omega
    · show b.2.1 + T (y_gd l u) * (b.1 + y_ds b.2.2 (H (y_gd l u))) ≤ _
      have := Nat.mul_le_mul t1 (show b.1 + y_ds b.2.2 (H (y_gd l u)) ≤ 30 by omega)
      rw [Nat.add_mul]
      omega
theorem l2 (d : Nat) (H T : Nat → Nat) {n : Nat} (hn : n ≤ 5) {l : List Nat} (hl : y_pm n l) (hH : ∀ p, p < n → H p < 12) {σ : xS} (hG : x_G σ) (h3 : x_I σ 40 3 = Int32.ofNat n) (h : y_ct 41 n l σ) (h42 : ∀ p, p < n → x_I σ 42 p = Int32.ofNat (H p)) (h43 : ∀ p, p < n → x_I σ 43 p = Int32.ofNat (T p)) (i2 : Int32) : ∀ q u b, u + q = n → b.2.2 < 12 → x_f (d + 1) 2 11 [some (.inr (.inr (some 40))), none, some (.inl i2), some (.inl (Int32.ofNat b.1)), some (.inl (Int32.ofNat b.2.1)), some (.inl (Int32.ofNat b.2.2)), some (.inl (Int32.ofNat u)), none] [] σ = some (some (.inl (Int32.ofNat (if i2 = 0 then (x_it (y_cs H T l) u q b).1 else (x_it (y_cs H T l) u q b).2.1))), σ)
  | 0, u, b, hu, hb => by
    have e0 : x_it (y_cs H T l) u 0 b = b := rfl
    rw [e0, x_feq, e2_11, x_k40 hG, h3, if_pos ((x_le (by omega) (by omega)).mpr (by omega))]
    by_cases z : i2 = 0
    · rw [if_pos z, if_pos z]
    · rw [if_neg z, if_neg z]
  | q + 1, u, b, hu, hb => by
    have hp : y_gd l u < n := hl.2 u (by omega)
    have nxt := l2 d H T hn hl hH hG h3 h h42 h43 i2 q (u + 1) (y_cs H T l u b) (by omega) (hH _ hp)
    rw [x_feq, e2_11, x_k40 hG, h3, if_neg (fun h => absurd ((x_le (by omega) (by omega)).mp h) (by omega)), x_k40 hG, x_q40_0 hG, g41 hG (by omega), x_ci_s, h u (by omega), x_k40 hG, x_q40_1 hG, g42 hG (by omega), x_ci_s, h42 _ hp, m3 d hb (hH _ hp), x_ci_s, x_k40 hG, x_q40_2 hG, g43 hG (by omega), x_ci_s, h43 _ hp, x_k40 hG, x_q40_1 hG, g42 hG (by omega), x_ci_s, h42 _ hp, ← Int32.ofNat_add, ← Int32.ofNat_mul, ← Int32.ofNat_add, x_s1]
    exact nxt
def y_va (H T : Nat → Nat) (n s : Nat) (i2 : Int32) (l : List Nat) : Nat := if i2 = 0 then (x_it (y_cs H T l) 0 n (0, 0, s)).1 else (x_it (y_cs H T l) 0 n (0, 0, s)).2.1
theorem y_va_b (H T : Nat → Nat) {n : Nat} (hn : n ≤ 5) {l : List Nat} (hl : y_pm n l) (hH : ∀ p, p < n → H p < 12) (hT : ∀ p, p < n → T p ≤ 8991) {s : Nat} (hs : s < 12) (i2 : Int32) : y_va H T n s i2 l < 2 ^ 30 := by
  have := y_cs_b H T hl hH hT n 0 (0, 0, s) (by omega) hn hs (Nat.zero_le _) (Nat.zero_le _)
  unfold y_va
  split <;> omega
theorem m2 (d : Nat) (H T : Nat → Nat) {n : Nat} (hn : n ≤ 5) {l : List Nat} (hl : y_pm n l) (hH : ∀ p, p < n → H p < 12) {σ : xS} (hG : x_G σ) (h3 : x_I σ 40 3 = Int32.ofNat n) (h : y_ct 41 n l σ) (h42 : ∀ p, p < n → x_I σ 42 p = Int32.ofNat (H p)) (h43 : ∀ p, p < n → x_I σ 43 p = Int32.ofNat (T p)) (i2 : Int32) {s : Nat} (hs : s < 12) : x_run (d + 2) 2 [.inr (.inr (some 40)), .inl (Int32.ofNat s), .inl i2] σ = some (some (.inl (Int32.ofNat (y_va H T n s i2 l))), σ) := by
  rw [r2, e2_0]
  exact l2 d H T hn hl hH hG h3 h h42 h43 i2 n 0 (0, 0, s) (by omega) hs
def y_cd (l : List Nat) (u c : Nat) : Nat := c * 10 + y_gd l u + 1
theorem l4 (d : Nat) {n : Nat} (hn : n ≤ 5) {l : List Nat} {σ : xS} (hG : x_G σ) (h3 : x_I σ 40 3 = Int32.ofNat n) (h : y_ct 41 n l σ) : ∀ q u c, u + q = n → x_f (d + 1) 4 4 [some (.inr (.inr (some 40))), some (.inl (Int32.ofNat c)), some (.inl (Int32.ofNat u))] [] σ = some (some (.inl (Int32.ofNat (x_it (y_cd l) u q c))), σ)
  | 0, u, c, hu => by
    rw [x_feq, e4_4, x_k40 hG, h3, if_pos ((x_le (by omega) (by omega)).mpr (by omega))]
    rfl
  | q + 1, u, c, hu => by
    have nxt := l4 d hn hG h3 h q (u + 1) (y_cd l u c) (by omega)
    rw [x_feq, e4_4, x_k40 hG, h3, if_neg (fun h => absurd ((x_le (by omega) (by omega)).mp h) (by omega)), x_k40 hG, x_q40_0 hG, g41 hG (by omega), x_ci_s, h u (by omega), show (10 : Int32) = Int32.ofNat 10 from rfl, ← Int32.ofNat_mul, ← Int32.ofNat_add, x_s1, x_s1]
    exact nxt
def y_co (n : Nat) (l : List Nat) : Nat := x_it (y_cd l) 0 n 0
theorem m4 (d : Nat) {n : Nat} (hn : n ≤ 5) {l : List Nat} {σ : xS} (hG : x_G σ) (h3 : x_I σ 40 3 = Int32.ofNat n) (h : y_ct 41 n l σ) : x_run (d + 2) 4 [.inr (.inr (some 40))] σ = some (some (.inl (Int32.ofNat (y_co n l))), σ) := by
  rw [r4, e4_0]
  exact l4 d hn hG h3 h n 0 0 (by omega)
def y_up (V C : List Nat → Nat) (b : Nat × Nat) (l : List Nat) : Nat × Nat := if b.1 ≤ V l then b else (V l, C l)
def y_40 (b u : Nat) : Prop := b = 41 ∨ (b = 40 ∧ (u = 4 ∨ u = 5))
theorem y_124 (d : Nat) (H T : Nat → Nat) {n : Nat} (hn : n ≤ 5) (hH : ∀ p, p < n → H p < 12) (hT : ∀ p, p < n → T p ≤ 8991) (i4 : Int32) {s : Nat} (hs : s < 12) : ∀ q i l b σ, i + q = 120 → y_pm n l → x_G σ → x_I σ 40 3 = Int32.ofNat n → y_ct 41 n l σ → (∀ p, p < n → x_I σ 42 p = Int32.ofNat (H p)) → (∀ p, p < n → x_I σ 43 p = Int32.ofNat (T p)) → b.1 < 2 ^ 30 → x_I σ 40 4 = Int32.ofNat b.1 → x_I σ 40 5 = Int32.ofNat b.2 → ∃ τ, x_f (d + 3) 1 124 [some (.inr (.inr (some 40))), none, none, some (.inl (Int32.ofNat s)), some (.inl i4), some (.inl (Int32.ofNat i)), none] [] σ = some (none, τ) ∧ x_fr y_40 x_w0 σ τ ∧ x_I τ 40 4 = Int32.ofNat ((y_seq n q l).foldl (y_up (y_va H T n s i4) (y_co n)) b).1 ∧ x_I τ 40 5 = Int32.ofNat ((y_seq n q l).foldl (y_up (y_va H T n s i4) (y_co n)) b).2
  | 0, i, l, b, σ, hi, hl, hG, h3, h, h42, h43, hb, h4, h5 => by
    have : i = 120 := by omega
    subst this
    refine ⟨σ, ?_, x_fr.refl _ _ _, h4, h5⟩
    rw [x_feq, e1_124, if_pos (by decide)]
  | q + 1, i, l, b, σ, hi, hl, hG, h3, h, h42, h43, hb, h4, h5 => by
    have ni : ¬ (120 : Int32) ≤ Int32.ofNat i := fun g => absurd ((x_le (a := 120) (by omega) (by omega)).mp g) (by omega)
    have one : ¬ (1 : Int32) = 0 := by decide
    have st := m5 d hn hl hG h3 h
    have us : y_seq n (q + 1) l = (match y_nx n l with
      | none => []
      | some l' => l' :: y_seq n q l') := rfl
    rw [us]
    cases c : y_nx n l with
    | none =>
      rw [c] at st
      refine ⟨σ, ?_, x_fr.refl _ _ _, h4, h5⟩
      rw [x_feq, e1_124, if_neg ni, x_k40 hG, st, x_ci_s, if_pos rfl]
    | some l' =>
      rw [c] at st
      obtain ⟨σ1, a1, f1, g1⟩ := st
      have hl' := y_nx_pm hl c
      have hG1 := f1.G hG
      have F1 : ∀ b u, b ≠ 41 → x_I σ1 b u = x_I σ b u := fun b u h => f1.I h
      have f1' : x_fr y_40 x_w0 σ σ1 := f1.mono (fun _ _ h => Or.inl h) (fun _ _ h => h)
      have h31 := (F1 40 3 (by omega)).trans h3
      have h421 : ∀ p, p < n → x_I σ1 42 p = Int32.ofNat (H p) := fun p hp => (F1 42 p (by omega)).trans (h42 p hp)
      have h431 : ∀ p, p < n → x_I σ1 43 p = Int32.ofNat (T p) := fun p hp => (F1 43 p (by omega)).trans (h43 p hp)
      have a2 := m2 (d + 1) H T hn hl' hH hG1 h31 g1 h421 h431 i4 hs
      have vb := y_va_b H T hn hl' hH hT hs i4
      show ∃ τ, _ ∧ _ ∧ x_I τ 40 4 = Int32.ofNat ((y_seq n q l').foldl (y_up (y_va H T n s i4) (y_co n)) (y_up (y_va H T n s i4) (y_co n) b l')).1 ∧ x_I τ 40 5 = Int32.ofNat ((y_seq n q l').foldl (y_up (y_va H T n s i4) (y_co n)) (y_up (y_va H T n s i4) (y_co n) b l')).2
      by_cases cc : b.1 ≤ y_va H T n s i4 l'
      · have e : y_up (y_va H T n s i4) (y_co n) b l' = b := if_pos cc
        rw [e]
        obtain ⟨τ, a3, f3, p4, p5⟩ := y_124 d H T hn hH hT i4 hs q (i + 1) l' b σ1 (by omega) hl' hG1 h31 g1 h421 h431 hb ((F1 40 4 (by omega)).trans h4) ((F1 40 5 (by omega)).trans h5)
        refine ⟨τ, ?_, f1'.trans f3, p4, p5⟩
        rw [x_feq, e1_124, if_neg ni, x_k40 hG, a1, x_ci_s, if_neg one, x_k40 hG1, a2, x_ci_s, x_k40 hG1, F1 40 4 (by omega), h4, if_pos ((x_le (by omega) (by omega)).mpr cc), x_s1]
        exact a3
      · have e : y_up (y_va H T n s i4) (y_co n) b l' = (y_va H T n s i4 l', y_co n l') := if_neg cc
        rw [e]
        let σ2 := x_si σ1 40 4 (Int32.ofNat (y_va H T n s i4 l'))
        have hG2 : x_G σ2 := hG1
        have I2 : ∀ b u, ¬ (b = 40 ∧ u = 4) → x_I σ2 b u = x_I σ1 b u := fun b u h => (x_Isi _ _ _ _ _ _).trans (if_neg h)
        have g2 : y_ct 41 n l' σ2 := fun u hu => (I2 _ _ (by omega)).trans (g1 u hu)
        have a4 := m4 (d + 1) hn hG2 ((I2 _ _ (by omega)).trans h31) g2
        let σ3 := x_si σ2 40 5 (Int32.ofNat (y_co n l'))
        have hG3 : x_G σ3 := hG1
        have I3 : ∀ b u, ¬ (b = 40 ∧ (u = 4 ∨ u = 5)) → x_I σ3 b u = x_I σ1 b u := fun b u h => (x_Isi _ _ _ _ _ _).trans ((if_neg (by omega)).trans (I2 b u (by omega)))
        have f3' : x_fr y_40 x_w0 σ1 σ3 := ((x_fr.refl y_40 x_w0 σ1).si _ (Or.inr ⟨rfl, Or.inl rfl⟩)).si _ (Or.inr ⟨rfl, Or.inr rfl⟩)
        obtain ⟨τ, a3, f3, p4, p5⟩ := y_124 d H T hn hH hT i4 hs q (i + 1) l' (y_va H T n s i4 l', y_co n l') σ3 (by omega) hl' hG3 ((I3 _ _ (by omega)).trans h31) (fun u hu => (I3 _ _ (by omega)).trans (g1 u hu)) (fun p hp => (I3 _ _ (by omega)).trans (h421 p hp)) (fun p hp => (I3 _ _ (by omega)).trans (h431 p hp)) vb ((x_Isi _ _ _ _ _ _).trans ((if_neg (by omega)).trans ((x_Isi _ _ _ _ _ _).trans (if_pos ⟨rfl, rfl⟩)))) ((x_Isi _ _ _ _ _ _).trans (if_pos ⟨rfl, rfl⟩))
        refine ⟨τ, ?_, (f1'.trans f3').trans f3, p4, p5⟩
        rw [x_feq, e1_124, if_neg ni, x_k40 hG, a1, x_ci_s, if_neg one, x_k40 hG1, a2, x_ci_s, x_k40 hG1, F1 40 4 (by omega), h4, if_neg (fun g => cc ((x_le (by omega) (by omega)).mp g)), x_k40 hG1, x_k40 hG2, a4, x_ci_s, x_k40 hG2, x_s1]
        exact a3
