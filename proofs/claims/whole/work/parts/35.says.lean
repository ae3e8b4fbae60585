/-! what a text says -/
theorem m129 (d : Nat) {σ : xS} (hG : x_G σ) {a n k : Nat} (ha : x_nth x_K a = (11, n)) (hk : k < n) (hn : n ≤ 3584) : x_run (d + 1) 129 [.inr (.inr (some a)), .inl (Int32.ofNat k)] σ = some (some (.inl (x_I σ a k)), σ) := by
  rw [r129, e129_0, if_neg (x_nn0 (by omega)), x_der_s, x_aak hG.1 ha rfl, if_neg (fun h => absurd ((x_le (by omega) (by omega)).mp h) (by omega)), x_der_s, x_akk hG.1 ha, x_ixk hk hn, x_tn (by omega)]
theorem m129_m (d : Nat) (σ : xS) (a : Nat) : x_run (d + 1) 129 [.inr (.inr (some a)), .inl (Int32.ofNat 0 - 1)] σ = some (some (.inl 0), σ) := by
  rw [r129, e129_0, if_pos (by decide)]
theorem m130 (d : Nat) {σ : xS} (hG : x_G σ) {a n k : Nat} (ha : x_nth x_K a = (11, n)) (hk : k < n) (hn : n ≤ 3584) (v : Int32) : x_run (d + 1) 130 [.inr (.inr (some a)), .inl (Int32.ofNat k), .inl v] σ = some (none, x_si σ a k v) := by
  rw [r130, e130_0, if_neg (x_nn0 (by omega)), x_der_s, x_aak hG.1 ha rfl, if_neg (fun h => absurd ((x_le (by omega) (by omega)).mp h) (by omega)), x_der_s, x_akk hG.1 ha, x_ixk hk hn, x_tn (by omega)]
theorem x_p1 (h : Nat) : Int32.ofNat (h + 1) - 1 = Int32.ofNat h := by
  rw [Int32.ofNat_add, show Int32.ofNat 1 = 1 from rfl, Int32.add_sub_cancel]
theorem x_pm1 (h : Nat) : Int32.ofNat (h + 1) + (-1) = Int32.ofNat h := by
  rw [← Int32.sub_eq_add_neg, x_p1]
def x_two (c a b : Int32) : Int32 := if c = 11 then (if a = 0 then (if b = 0 then 0 else 1) else 1) else if c = 12 then (if a = 0 then 0 else if b = 0 then 0 else 1) else if c = 14 then (if b ≤ a then 0 else 1) else if c = 15 then (if a = b then 1 else 0) else if c = 16 then a + b else if c = 17 then a - b else a * b
def x_step (N : Nat → Int32) (c : Int32) (st : List Int32) : List Int32 := if 100000 ≤ c then (c - 100000) :: st else if c < 11 then N c.toNatClampNeg :: st else if c = 13 then (match st with
  | x :: r => (if x = 0 then 1 else 0) :: r
  | [] => []) else if c = 19 then (match st with
  | x :: r => (-x) :: r
  | [] => []) else (match st with
  | b :: a :: r => x_two c a b :: r
  | _ => [])
def x_evl (N : Nat → Int32) : List Int32 → List Int32 → List Int32
  | [], st => st
  | c :: q, st => x_evl N q (x_step N c st)
def x_stk (f : Nat → Int32) : List Int32 → Prop
  | [] => True
  | x :: r => f r.length = x ∧ x_stk f r
theorem x_stk_up {f g : Nat → Int32} : ∀ {r : List Int32}, (∀ k, k < r.length → g k = f k) → x_stk f r → x_stk g r
  | [], _, _ => trivial
  | x :: r, h, ⟨h1, h2⟩ => ⟨(h r.length (Nat.lt_succ_self _)).trans h1, x_stk_up (fun k hk => h k (Nat.lt_succ_of_lt hk)) h2⟩
theorem x_stk_w {σ : xS} {A : Nat} {r : List Int32} (v : Int32) (h : x_stk (x_I σ A) r) : x_stk (x_I (x_si σ A r.length v) A) (v :: r) :=
  ⟨by rw [x_Isi, if_pos ⟨rfl, rfl⟩], x_stk_up (fun k hk => by rw [x_Isi, if_neg (by omega)]) h⟩
theorem x_okc_c {c : Int32} (h : x_okc c = true) : (∃ m : Nat, m ≤ 9999 ∧ c = Int32.ofNat (100000 + m)) ∨ (∃ k : Nat, k < 6 ∧ c = Int32.ofNat k) ∨ c = 13 ∨ c = 19 ∨ (c = 11 ∨ c = 12 ∨ c = 14 ∨ c = 15 ∨ c = 16 ∨ c = 17 ∨ c = 18) := by
  unfold x_okc at h
  simp only [Bool.or_eq_true, Bool.and_eq_true, decide_eq_true_eq, Int32.le_iff_toInt_le] at h
  have e1 : (100000 : Int32).toInt = 100000 := rfl
  have e2 : (109999 : Int32).toInt = 109999 := rfl
  have e3 : (0 : Int32).toInt = 0 := rfl
  have e4 : (5 : Int32).toInt = 5 := rfl
  have e5 : (11 : Int32).toInt = 11 := rfl
  have e6 : (19 : Int32).toInt = 19 := rfl
  rw [e1, e2, e3, e4, e5, e6] at h
  have back : ∀ k : Nat, k < 2 ^ 31 → c.toInt = (k : Int) → c = Int32.ofNat k := fun k hk e => Int32.toInt_inj.mp (e.trans (Int32.toInt_ofNat_of_lt hk).symm)
  rcases h with h | h | h
  · exact Or.inl ⟨(c.toInt - 100000).toNat, by omega, back _ (by omega) (by omega)⟩
  · exact Or.inr (Or.inl ⟨c.toInt.toNat, by omega, back _ (by omega) (by omega)⟩)
  · refine Or.inr (Or.inr ?_)
    rcases (show c.toInt = 13 ∨ c.toInt = 19 ∨ c.toInt = 11 ∨ c.toInt = 12 ∨ c.toInt = 14 ∨ c.toInt = 15 ∨ c.toInt = 16 ∨ c.toInt = 17 ∨ c.toInt = 18 by omega) with h | h | h | h | h | h | h | h | h
    · exact Or.inl (back 13 (by omega) h)
    · exact Or.inr (Or.inl (back 19 (by omega) h))
    · exact Or.inr (Or.inr (Or.inl (back 11 (by omega) h)))
    · exact Or.inr (Or.inr (Or.inr (Or.inl (back 12 (by omega) h))))
    · exact Or.inr (Or.inr (Or.inr (Or.inr (Or.inl (back 14 (by omega) h)))))
    · exact Or.inr (Or.inr (Or.inr (Or.inr (Or.inr (Or.inl (back 15 (by omega) h))))))
    · exact Or.inr (Or.inr (Or.inr (Or.inr (Or.inr (Or.inr (Or.inl (back 16 (by omega) h)))))))
    · exact Or.inr (Or.inr (Or.inr (Or.inr (Or.inr (Or.inr (Or.inr (Or.inl (back 17 (by omega) h))))))))
    · exact Or.inr (Or.inr (Or.inr (Or.inr (Or.inr (Or.inr (Or.inr (Or.inr (back 18 (by omega) h))))))))
theorem m151 (d : Nat) (σ : xS) (c a b : Int32) : x_run (d + 1) 151 [.inl c, .inl a, .inl b] σ = some (some (.inl (x_two c a b)), σ) := by
  rw [r151, e151_0]
  unfold x_two
  by_cases c1 : c = 11
  · rw [if_pos c1, if_pos c1]
    by_cases a1 : a = 0
    · rw [if_pos a1, if_pos a1]
      by_cases b1 : b = 0
      · rw [if_pos b1, if_pos b1]
      · rw [if_neg b1, if_neg b1]
    · rw [if_neg a1, if_neg a1]
  rw [if_neg c1, if_neg c1]
  by_cases c2 : c = 12
  · rw [if_pos c2, if_pos c2]
    by_cases a1 : a = 0
    · rw [if_pos a1, if_pos a1]
    · rw [if_neg a1, if_neg a1]
      by_cases b1 : b = 0
      · rw [if_pos b1, if_pos b1]
      · rw [if_neg b1, if_neg b1]
  rw [if_neg c2, if_neg c2]
  by_cases c3 : c = 13
  · subst c3
    rw [if_pos rfl, if_neg (by decide), if_neg (by decide), if_neg (by decide), if_neg (by decide)]
  rw [if_neg c3]
  by_cases c4 : c = 14
  · rw [if_pos c4, if_pos c4]
    by_cases a1 : b ≤ a
    · rw [if_pos a1, if_pos a1]
    · rw [if_neg a1, if_neg a1]
  rw [if_neg c4, if_neg c4]
  by_cases c5 : c = 15
  · rw [if_pos c5, if_pos c5]
    by_cases a1 : a = b
    · rw [if_pos a1, if_pos a1]
    · rw [if_neg a1, if_neg a1]
  rw [if_neg c5, if_neg c5]
  by_cases c6 : c = 16
  · rw [if_pos c6, if_pos c6]
  rw [if_neg c6, if_neg c6]
  by_cases c7 : c = 17
  · rw [if_pos c7, if_pos c7]
  rw [if_neg c7, if_neg c7]
theorem x_two_c (a b : Int32) : x_two 11 a b = (if a = 0 then (if b = 0 then 0 else 1) else 1) ∧ x_two 12 a b = (if a = 0 then 0 else if b = 0 then 0 else 1) ∧ x_two 14 a b = (if b ≤ a then 0 else 1) ∧ x_two 15 a b = (if a = b then 1 else 0) ∧ x_two 16 a b = a + b ∧ x_two 17 a b = a - b ∧ x_two 18 a b = a * b := ⟨rfl, rfl, rfl, rfl, rfl, rfl, rfl⟩
theorem m63 (d : Nat) (σ : xS) {c : Int32} (hc : c = 11 ∨ c = 12 ∨ c = 14 ∨ c = 15 ∨ c = 16 ∨ c = 17 ∨ c = 18) (a b : Int32) : x_run (d + 1) 63 [.inl (x_enc c), .inl a, .inl b] σ = some (some (.inl (x_two c a b)), σ) := by
  rw [r63, e63_0]
  obtain ⟨w1, w2, w3, w4, w5, w6, w7⟩ := x_two_c a b
  rcases hc with rfl | rfl | rfl | rfl | rfl | rfl | rfl
  · rw [w1, show x_enc 11 = -10 from by decide, if_neg (by decide), if_neg (by decide), if_neg (by decide), if_neg (by decide), if_neg (by decide), if_neg (by decide), if_pos rfl]
    by_cases a1 : a = 0
    · rw [if_pos a1, if_pos a1]
      by_cases b1 : b = 0
      · rw [if_pos b1, if_pos b1]
      · rw [if_neg b1, if_neg b1]
    · rw [if_neg a1, if_neg a1]
  · rw [w2, show x_enc 12 = -11 from by decide, if_neg (by decide), if_neg (by decide), if_neg (by decide), if_neg (by decide), if_neg (by decide), if_pos rfl]
    by_cases a1 : a = 0
    · rw [if_pos a1, if_pos a1]
    · rw [if_neg a1, if_neg a1]
      by_cases b1 : b = 0
      · rw [if_pos b1, if_pos b1]
      · rw [if_neg b1, if_neg b1]
  · rw [w3, show x_enc 14 = -13 from by decide, if_neg (by decide), if_neg (by decide), if_neg (by decide), if_pos rfl]
    by_cases a1 : b ≤ a
    · rw [if_pos a1, if_pos a1]
    · rw [if_neg a1, if_neg a1]
  · rw [w4, show x_enc 15 = -14 from by decide, if_neg (by decide), if_neg (by decide), if_pos rfl]
    by_cases a1 : a = b
    · rw [if_pos a1, if_pos a1]
    · rw [if_neg a1, if_neg a1]
  · rw [w5, show x_enc 16 = -15 from by decide, if_neg (by decide), if_pos rfl]
  · rw [w6, show x_enc 17 = -16 from by decide, if_pos rfl]
  · rw [w7, show x_enc 18 = -17 from by decide, if_neg (by decide), if_neg (by decide), if_neg (by decide), if_neg (by decide), if_neg (by decide), if_neg (by decide), if_neg (by decide)]
/-! a text's cells -/
theorem x_tk7 {σ : xS} (h : x_G σ) {t : Nat} (ht : t < 6) (K : Option xR) : x_ck σ (x_tc t) 7 K = K := x_ckk h.1 (by rcases (show t = 0 ∨ t = 1 ∨ t = 2 ∨ t = 3 ∨ t = 4 ∨ t = 5 by omega) with rfl | rfl | rfl | rfl | rfl | rfl <;> rfl) K
theorem x_tq {σ : xS} (h : x_G σ) {t u : Nat} (ht : t < 6) (hu : u < 4) : x_Q σ (x_tc t) u = some (x_tc t + 1 + u) := by
  rcases (show t = 0 ∨ t = 1 ∨ t = 2 ∨ t = 3 ∨ t = 4 ∨ t = 5 by omega) with rfl | rfl | rfl | rfl | rfl | rfl <;> rcases (show u = 0 ∨ u = 1 ∨ u = 2 ∨ u = 3 by omega) with rfl | rfl | rfl | rfl
  · exact x_q29_0 h
  · exact x_q29_1 h
  · exact x_q29_2 h
  · exact x_q29_3 h
  · exact x_q45_0 h
  · exact x_q45_1 h
  · exact x_q45_2 h
  · exact x_q45_3 h
  · exact x_q50_0 h
  · exact x_q50_1 h
  · exact x_q50_2 h
  · exact x_q50_3 h
  · exact x_q55_0 h
  · exact x_q55_1 h
  · exact x_q55_2 h
  · exact x_q55_3 h
  · exact x_q60_0 h
  · exact x_q60_1 h
  · exact x_q60_2 h
  · exact x_q60_3 h
  · exact x_q65_0 h
  · exact x_q65_1 h
  · exact x_q65_2 h
  · exact x_q65_3 h
theorem x_tq0 {σ : xS} (h : x_G σ) {t : Nat} (ht : t < 6) : x_Q σ (x_tc t) 0 = some (x_tc t + 1) := x_tq h ht (by omega)
theorem x_tq1 {σ : xS} (h : x_G σ) {t : Nat} (ht : t < 6) : x_Q σ (x_tc t) 1 = some (x_tc t + 2) := x_tq h ht (by omega)
theorem x_tq2 {σ : xS} (h : x_G σ) {t : Nat} (ht : t < 6) : x_Q σ (x_tc t) 2 = some (x_tc t + 3) := x_tq h ht (by omega)
theorem x_tq3 {σ : xS} (h : x_G σ) {t : Nat} (ht : t < 6) : x_Q σ (x_tc t) 3 = some (x_tc t + 4) := x_tq h ht (by omega)
theorem x_ta {t : Nat} (ht : t < 6) : x_nth x_K (x_tc t + 1) = (11, 160) ∧ x_nth x_K (x_tc t + 2) = (11, 160) ∧ x_nth x_K (x_tc t + 3) = (11, 3) ∧ x_nth x_K (x_tc t + 4) = (11, 6) := by
  rcases (show t = 0 ∨ t = 1 ∨ t = 2 ∨ t = 3 ∨ t = 4 ∨ t = 5 by omega) with rfl | rfl | rfl | rfl | rfl | rfl <;> exact ⟨rfl, rfl, rfl, rfl⟩
theorem x_en_n {m : Nat} (hm : m ≤ 9999) : x_enc (Int32.ofNat (100000 + m)) = Int32.ofNat m := by
  unfold x_enc
  rw [if_pos (show (100000 : Int32) ≤ Int32.ofNat (100000 + m) from (x_le (a := 100000) (by omega) (by omega)).mpr (by omega)), Int32.ofNat_add, show Int32.ofNat 100000 = 100000 from rfl, Int32.add_comm, Int32.add_sub_cancel]
theorem x_sp_n {m : Nat} (hm : m ≤ 9999) (N : Nat → Int32) (st : List Int32) : x_step N (Int32.ofNat (100000 + m)) st = Int32.ofNat m :: st := by
  unfold x_step
  rw [if_pos (show (100000 : Int32) ≤ Int32.ofNat (100000 + m) from (x_le (a := 100000) (by omega) (by omega)).mpr (by omega)), Int32.ofNat_add, show Int32.ofNat 100000 = 100000 from rfl, Int32.add_comm, Int32.add_sub_cancel]
theorem x_hg_n {m : Nat} (hm : m ≤ 9999) (h : Nat) : x_hg1 (Int32.ofNat (100000 + m)) h = some (h + 1) := by
  unfold x_hg1
  rw [if_pos (show (100000 : Int32) ≤ Int32.ofNat (100000 + m) ∨ Int32.ofNat (100000 + m) < 11 from Or.inl ((x_le (a := 100000) (by omega) (by omega)).mpr (by omega)))]
theorem x_nm_f {k : Nat} (hk : k < 6) : ¬ (100000 : Int32) ≤ Int32.ofNat k ∧ Int32.ofNat k < 11 ∧ ¬ (11 : Int32) ≤ Int32.ofNat k := by
  have h : ¬ (11 : Int32) ≤ Int32.ofNat k := fun h => absurd ((x_le (a := 11) (by omega) (by omega)).mp h) (by omega)
  exact ⟨fun h => absurd ((x_le (a := 100000) (by omega) (by omega)).mp h) (by omega), Int32.not_le.mp h, h⟩
theorem x_en_k {k : Nat} (hk : k < 6) : x_enc (Int32.ofNat k) < 0 ∧ ¬ x_enc (Int32.ofNat k) < -6 ∧ (-1) - x_enc (Int32.ofNat k) = Int32.ofNat k := by
  rcases (show k = 0 ∨ k = 1 ∨ k = 2 ∨ k = 3 ∨ k = 4 ∨ k = 5 by omega) with rfl | rfl | rfl | rfl | rfl | rfl <;> exact ⟨by decide, by decide, by decide⟩
theorem x_sp_k {k : Nat} (hk : k < 6) (N : Nat → Int32) (st : List Int32) : x_step N (Int32.ofNat k) st = N k :: st := by
  unfold x_step
  rw [if_neg (x_nm_f hk).1, if_pos (x_nm_f hk).2.1, x_tn (by omega)]
theorem x_hg_k {k : Nat} (hk : k < 6) (h : Nat) : x_hg1 (Int32.ofNat k) h = some (h + 1) := by
  unfold x_hg1
  rw [if_pos (Or.inr (x_nm_f hk).2.1)]
theorem x_hg_2 {c : Int32} (hc : c = 11 ∨ c = 12 ∨ c = 14 ∨ c = 15 ∨ c = 16 ∨ c = 17 ∨ c = 18) (h : Nat) : x_hg1 c h = (match h with
  | h + 2 => some (h + 1)
  | _ => none) := by
  unfold x_hg1
  rcases hc with rfl | rfl | rfl | rfl | rfl | rfl | rfl <;> (rw [if_neg (by decide), if_neg (by decide)]; rcases h with _ | _ | h <;> rfl)
theorem x_sp_2 {c : Int32} (hc : c = 11 ∨ c = 12 ∨ c = 14 ∨ c = 15 ∨ c = 16 ∨ c = 17 ∨ c = 18) (N : Nat → Int32) (a b : Int32) (r : List Int32) : x_step N c (b :: a :: r) = x_two c a b :: r := by
  unfold x_step
  rcases hc with rfl | rfl | rfl | rfl | rfl | rfl | rfl <;> rw [if_neg (by decide), if_neg (by decide), if_neg (by decide), if_neg (by decide)]
theorem x_en_2 {c : Int32} (hc : c = 11 ∨ c = 12 ∨ c = 14 ∨ c = 15 ∨ c = 16 ∨ c = 17 ∨ c = 18) : x_enc c < -6 ∧ ¬ x_enc c = -12 ∧ ¬ x_enc c = -18 ∧ ¬ (100000 : Int32) ≤ c ∧ (11 : Int32) ≤ c ∧ ¬ c = 13 ∧ ¬ c = 19 := by
  rcases hc with rfl | rfl | rfl | rfl | rfl | rfl | rfl <;> decide
theorem l62 (d : Nat) {t : Nat} (ht : t < 6) (N : Nat → Int32) : ∀ (q : List Int32) (j : Nat) (st : List Int32) (σ : xS), x_G σ → (∀ k c, q[k]? = some c → x_okc c = true ∧ x_I σ (x_tc t + 1) (j + k) = x_enc c) → x_hgt q st.length = some 1 → x_stk (x_I σ (x_tc t + 2)) st → (∀ k, k < 6 → x_I σ (x_tc t + 4) k = N k) → j + q.length ≤ 160 → st.length ≤ j → ∃ τ, x_f (d + 1) 62 31 [some (.inr (.inr (some (x_tc t)))), none, some (.inl (Int32.ofNat st.length)), some (.inl (Int32.ofNat (j + q.length))), some (.inl (Int32.ofNat j)), none, none] [] σ = some (some (.inl ((x_evl N q st).headD 0)), τ) ∧ x_fr (fun b _ => b = x_tc t + 2) x_w0 σ τ
  | [], j, st, σ, hG, hc, hh, hs, hN, hj, hsj => by
    have h1 : st.length = 1 := Option.some.inj hh
    match st, h1 with
    | [x], _ =>
      refine ⟨σ, ?_, x_fr.refl _ _ _⟩
      show x_f (d + 1) 62 31 [some (.inr (.inr (some (x_tc t)))), none, some (.inl (Int32.ofNat (0 + 1))), some (.inl (Int32.ofNat j)), some (.inl (Int32.ofNat j)), none, none] [] σ = _
      rw [x_feq, e62_31, if_pos (Int32.le_refl _), x_tk7 hG ht, x_tq1 hG ht, x_p1, m129 d hG (x_ta ht).2.1 (by omega) (by omega), x_ci_s]
      rw [show x_I σ (x_tc t + 2) 0 = x from hs.1]
      rfl
  | c :: q, j, st, σ, hG, hc, hh, hs, hN, hj, hsj => by
    have hj : j + (q.length + 1) ≤ 160 := hj
    obtain ⟨ok, en⟩ := hc 0 c rfl
    have en : x_I σ (x_tc t + 1) j = x_enc c := en
    have step : ∀ (r : List Int32) (v : Int32), x_step N c st = v :: r → r.length ≤ j → x_hgt q (r.length + 1) = some 1 → x_stk (x_I σ (x_tc t + 2)) r → (x_f (d + 1) 62 31 [some (.inr (.inr (some (x_tc t)))), none, some (.inl (Int32.ofNat st.length)), some (.inl (Int32.ofNat (j + (q.length + 1)))), some (.inl (Int32.ofNat j)), none, none] [] σ = x_f (d + 1) 62 31 [some (.inr (.inr (some (x_tc t)))), none, some (.inl (Int32.ofNat (r.length + 1))), some (.inl (Int32.ofNat (j + (q.length + 1)))), some (.inl (Int32.ofNat (j + 1))), none, none] [] (x_si σ (x_tc t + 2) r.length v)) → ∃ τ, x_f (d + 1) 62 31 [some (.inr (.inr (some (x_tc t)))), none, some (.inl (Int32.ofNat st.length)), some (.inl (Int32.ofNat (j + (q.length + 1)))), some (.inl (Int32.ofNat j)), none, none] [] σ = some (some (.inl ((x_evl N q (x_step N c st)).headD 0)), τ) ∧ x_fr (fun b _ => b = x_tc t + 2) x_w0 σ τ := by
      intro r v e1 h1 h2 h3 h4
      obtain ⟨τ, e, f⟩ := l62 d ht N q (j + 1) (v :: r) (x_si σ (x_tc t + 2) r.length v) hG (fun k c' hk => by
        rw [x_Isi, if_neg (by omega), show j + 1 + k = j + (k + 1) by omega]
        exact hc (k + 1) c' hk) h2 (x_stk_w v h3) (fun k hk => by rw [x_Isi, if_neg (by omega)]; exact hN k hk) (by omega) (by show r.length + 1 ≤ j + 1; omega)
      refine ⟨τ, ?_, ((x_fr.refl (fun b _ => b = x_tc t + 2) x_w0 σ).si v rfl).trans f⟩
      rw [h4, e1, ← e, show j + 1 + q.length = j + (q.length + 1) by omega]
      rfl
    have hlt : ¬ Int32.ofNat (j + (q.length + 1)) ≤ Int32.ofNat j := fun h => absurd ((x_le (by omega) (by omega)).mp h) (by omega)
    have top : ∃ w, x_run (d + 1) 129 [.inr (.inr (some (x_tc t + 2))), .inl (Int32.ofNat st.length - 1)] σ = some (some (.inl w), σ) ∧ ∀ x r, st = x :: r → w = x := by
      match st, hs, hsj with
      | [], _, _ => exact ⟨0, m129_m d σ _, fun x r h => by cases h⟩
      | x :: r, hs, hsj =>
        refine ⟨x, ?_, fun x' r' h => by injection h⟩
        show x_run (d + 1) 129 [.inr (.inr (some (x_tc t + 2))), .inl (Int32.ofNat (r.length + 1) - 1)] σ = _
        have hsj : r.length + 1 ≤ j := hsj
        rw [x_p1, m129 d hG (x_ta ht).2.1 (by omega) (by omega), hs.1]
    obtain ⟨w, ew, hw⟩ := top
    rcases x_okc_c ok with ⟨m, hm, rfl⟩ | ⟨k, hk, rfl⟩ | rfl | rfl | h2
    · refine step st (Int32.ofNat m) (x_sp_n hm N st) hsj ?_ hs ?_
      · rw [show x_hgt (Int32.ofNat (100000 + m) :: q) st.length = (x_hg1 (Int32.ofNat (100000 + m)) st.length).bind (x_hgt q) from rfl, x_hg_n hm] at hh
        exact hh
      · rw [x_feq, e62_31, if_neg hlt, x_tk7 hG ht, x_tq0 hG ht, m129 d hG (x_ta ht).1 (by omega) (by omega), x_ci_s, x_tk7 hG ht, x_tq1 hG ht, ew, x_ci_s, en, x_en_n hm, if_neg (fun h => absurd (Int32.lt_trans h (by decide)) (x_nn0 (by omega))), x_tk7 hG ht, if_neg (x_nn0 (by omega)), x_tq1 hG ht, m130 d hG (x_ta ht).2.1 (by omega) (by omega), x_cv_s, x_s1, x_s1]
    · refine step st (N k) (x_sp_k hk N st) hsj ?_ hs ?_
      · rw [show x_hgt (Int32.ofNat k :: q) st.length = (x_hg1 (Int32.ofNat k) st.length).bind (x_hgt q) from rfl, x_hg_k hk] at hh
        exact hh
      · rw [x_feq, e62_31, if_neg hlt, x_tk7 hG ht, x_tq0 hG ht, m129 d hG (x_ta ht).1 (by omega) (by omega), x_ci_s, x_tk7 hG ht, x_tq1 hG ht, ew, x_ci_s, en, if_neg (x_en_k hk).2.1, x_tk7 hG ht, if_pos (x_en_k hk).1, x_tk7 hG ht, x_tq3 hG ht, (x_en_k hk).2.2, m129 d hG (x_ta ht).2.2.2 hk (by omega), x_ci_s, x_tq1 hG ht, m130 d hG (x_ta ht).2.1 (by omega) (by omega), x_cv_s, x_s1, x_s1, hN k hk]
    · match st, hs, hh, hsj, hw, step with
      | [], _, hh, _, _, _ => cases hh
      | x :: r, hs, hh, hsj, hw, step =>
        have hsj : r.length + 1 ≤ j := hsj
        refine step r (if x = 0 then 1 else 0) rfl (by omega) hh hs.2 ?_
        show x_f (d + 1) 62 31 [some (.inr (.inr (some (x_tc t)))), none, some (.inl (Int32.ofNat (r.length + 1))), some (.inl (Int32.ofNat (j + (q.length + 1)))), some (.inl (Int32.ofNat j)), none, none] [] σ = _
        have ew : x_run (d + 1) 129 [.inr (.inr (some (x_tc t + 2))), .inl (Int32.ofNat (r.length + 1) - 1)] σ = some (some (.inl w), σ) := ew
        rw [x_feq, e62_31, if_neg hlt, x_tk7 hG ht, x_tq0 hG ht, m129 d hG (x_ta ht).1 (by omega) (by omega), x_ci_s, x_tk7 hG ht, x_tq1 hG ht, ew, x_ci_s, en, show x_enc 13 = -12 from by decide, if_pos (by decide), if_pos rfl, x_tk7 hG ht, hw x r rfl]
        by_cases x0 : x = 0
        · rw [if_pos x0, if_pos x0, x_p1, x_tq1 hG ht, m130 d hG (x_ta ht).2.1 (by omega) (by omega), x_cv_s, x_s1]
        · rw [if_neg x0, if_neg x0, x_p1, x_tq1 hG ht, m130 d hG (x_ta ht).2.1 (by omega) (by omega), x_cv_s, x_s1]
    · match st, hs, hh, hsj, hw, step with
      | [], _, hh, _, _, _ => cases hh
      | x :: r, hs, hh, hsj, hw, step =>
        have hsj : r.length + 1 ≤ j := hsj
        refine step r (-x) rfl (by omega) hh hs.2 ?_
        show x_f (d + 1) 62 31 [some (.inr (.inr (some (x_tc t)))), none, some (.inl (Int32.ofNat (r.length + 1))), some (.inl (Int32.ofNat (j + (q.length + 1)))), some (.inl (Int32.ofNat j)), none, none] [] σ = _
        have ew : x_run (d + 1) 129 [.inr (.inr (some (x_tc t + 2))), .inl (Int32.ofNat (r.length + 1) - 1)] σ = some (some (.inl w), σ) := ew
        rw [x_feq, e62_31, if_neg hlt, x_tk7 hG ht, x_tq0 hG ht, m129 d hG (x_ta ht).1 (by omega) (by omega), x_ci_s, x_tk7 hG ht, x_tq1 hG ht, ew, x_ci_s, en, show x_enc 19 = -18 from by decide, if_pos (by decide), if_neg (by decide), if_pos rfl, x_tk7 hG ht, hw x r rfl, x_p1, x_tq1 hG ht, m130 d hG (x_ta ht).2.1 (by omega) (by omega), x_cv_s, x_s1]
    · rw [show x_hgt (c :: q) st.length = (x_hg1 c st.length).bind (x_hgt q) from rfl, x_hg_2 h2] at hh
      match st, hs, hh, hsj, hw, step with
      | [], _, hh, _, _, _ => cases hh
      | [x], _, hh, _, _, _ => cases hh
      | b :: a :: r, hs, hh, hsj, hw, step =>
        have hsj : r.length + 2 ≤ j := hsj
        refine step r (x_two c a b) (x_sp_2 h2 N a b r) (by omega) hh hs.2.2 ?_
        show x_f (d + 1) 62 31 [some (.inr (.inr (some (x_tc t)))), none, some (.inl (Int32.ofNat (r.length + 1 + 1))), some (.inl (Int32.ofNat (j + (q.length + 1)))), some (.inl (Int32.ofNat j)), none, none] [] σ = _
        have ew : x_run (d + 1) 129 [.inr (.inr (some (x_tc t + 2))), .inl (Int32.ofNat (r.length + 1 + 1) - 1)] σ = some (some (.inl w), σ) := ew
        obtain ⟨n1, n2, n3, -⟩ := x_en_2 h2
        rw [x_feq, e62_31, if_neg hlt, x_tk7 hG ht, x_tq0 hG ht, m129 d hG (x_ta ht).1 (by omega) (by omega), x_ci_s, x_tk7 hG ht, x_tq1 hG ht, ew, x_ci_s, en, if_pos n1, if_neg n2, if_neg n3, x_tk7 hG ht, x_tk7 hG ht, x_tq1 hG ht, x_pm1, x_p1, m129 d hG (x_ta ht).2.1 (by omega) (by omega), x_ci_s, hw b (a :: r) rfl, m63 d σ h2, x_ci_s, m130 d hG (x_ta ht).2.1 (by omega) (by omega), x_cv_s, x_s1, show x_I σ (x_tc t + 2) r.length = a from hs.2.1]
