/-! lives: who is meant; told, claim -/
theorem x_tn {l : Nat} (h : l < 2 ^ 31) : (Int32.ofNat l).toNatClampNeg = l := by
  show (Int32.ofNat l).toInt.toNat = l
  rw [Int32.toInt_ofNat_of_lt h]; rfl
theorem x_le {a b : Nat} (ha : a < 2 ^ 31) (hb : b < 2 ^ 31) : Int32.ofNat a ≤ Int32.ofNat b ↔ a ≤ b := by
  rw [Int32.le_iff_toInt_le, Int32.toInt_ofNat_of_lt ha, Int32.toInt_ofNat_of_lt hb]
  omega
theorem x_nn0 {l : Nat} (h : l < 2 ^ 31) : ¬ Int32.ofNat l < 0 := by
  rw [Int32.lt_iff_toInt_lt, Int32.toInt_ofNat_of_lt h]
  show ¬ ((l : Int) < 0)
  omega
theorem x_split {n : Nat} (hn : n ≤ 5) (i : Int32) : (∃ l, l < n ∧ i = Int32.ofNat l) ∨ i < 0 ∨ Int32.ofNat n ≤ i := by
  by_cases h1 : i < 0
  · exact Or.inr (Or.inl h1)
  · by_cases h2 : Int32.ofNat n ≤ i
    · exact Or.inr (Or.inr h2)
    · left
      have a1 : (0 : Int) ≤ i.toInt := Int32.le_iff_toInt_le.mp (Int32.not_lt.mp h1)
      have a2 : i.toInt < (n : Int) := by
        have := Int32.lt_iff_toInt_lt.mp (Int32.not_le.mp h2)
        rw [Int32.toInt_ofNat_of_lt (by omega)] at this
        exact this
      refine ⟨i.toInt.toNat, by omega, Int32.toInt_inj.mp ?_⟩
      rw [Int32.toInt_ofNat_of_lt (by omega)]
      omega
theorem x_predn {i : Int32} {n : Nat} (hn : n ≤ 5) : (0 ≤ i ∧ i ≤ Int32.ofNat n - 1) ↔ ¬ (i < 0 ∨ Int32.ofNat n ≤ i) := by
  have e : (Int32.ofNat n - 1).toInt = (n : Int) - 1 ∧ (Int32.ofNat n).toInt = (n : Int) := by
    rcases (show n = 0 ∨ n = 1 ∨ n = 2 ∨ n = 3 ∨ n = 4 ∨ n = 5 by omega) with rfl | rfl | rfl | rfl | rfl | rfl <;> exact ⟨by decide, by decide⟩
  rw [Int32.le_iff_toInt_le, Int32.le_iff_toInt_le, Int32.lt_iff_toInt_lt, Int32.le_iff_toInt_le, e.1, e.2]
  show ((0 : Int) ≤ i.toInt ∧ _) ↔ ¬ (i.toInt < (0 : Int) ∨ _)
  omega
theorem x_aqk {σ : xS} (h : σ.1 = x_K) {a n : Nat} (hc : x_nth x_K a = (13, n)) (K : Nat → Option xR) : x_aq σ a K = K n := by unfold x_aq; rw [h, hc]; rfl
theorem x_aak {σ : xS} (h : σ.1 = x_K) {a c n : Nat} (hc : x_nth x_K a = (c, n)) (h2 : (Nat.ble 11 c && Nat.ble c 15) = true) (K : Nat → Option xR) : x_aa σ a K = K n := by unfold x_aa; rw [h, hc]; simp only [h2, cond_true]
theorem x_akk {σ : xS} (h : σ.1 = x_K) {a c n : Nat} (hc : x_nth x_K a = (c, n)) (K : Nat → Option xR) : x_ak σ a c K = K n := by
  unfold x_ak; rw [h, hc]
  show (bif Nat.beq c c then K n else none) = K n
  rw [Nat.beq_refl]; rfl
theorem x_q_lives {σ : xS} (hG : x_G σ) {l : Nat} (hl : l < 5) : x_Q σ 2 l = some (3 + l) := by
  rcases (show l = 0 ∨ l = 1 ∨ l = 2 ∨ l = 3 ∨ l = 4 by omega) with rfl | rfl | rfl | rfl | rfl
  · exact hG.2 (2, 0, some 3) (by decide)
  · exact hG.2 (2, 1, some 4) (by decide)
  · exact hG.2 (2, 2, some 5) (by decide)
  · exact hG.2 (2, 3, some 6) (by decide)
  · exact hG.2 (2, 4, some 7) (by decide)
theorem m65_in (d : Nat) {σ : xS} (hG : x_G σ) {n l : Nat} (hn : n ≤ 5) (hl : l < n) (h1 : x_I σ 1 1 = Int32.ofNat n) : x_run (d + 1) 65 [.inr (.inr (some 1)), .inl (Int32.ofNat l)] σ = some (some (.inr (.inr (some (3 + l)))), σ) := by
  have q : x_Q σ 1 0 = some 2 := hG.2 (1, 0, some 2) (by decide)
  rw [r65, e65_0, if_neg (x_nn0 (by omega)), x_ckk hG.1 rfl, h1, if_neg (fun h => absurd ((x_le (by omega) (by omega)).mp h) (by omega)), x_ckk hG.1 rfl, q, x_der_s, x_aak hG.1 (c := 13) (n := 5) rfl rfl, if_neg (fun h => absurd ((x_le (by omega) (by omega)).mp h) (by omega)), x_ckk hG.1 rfl, x_der_s, x_aqk hG.1 (n := 5) rfl, x_ixk (by omega) (by omega), x_tn (by omega), x_q_lives hG (by omega)]
theorem m65_out (d : Nat) {σ : xS} (hG : x_G σ) {n : Nat} {i : Int32} (ho : i < 0 ∨ Int32.ofNat n ≤ i) (h1 : x_I σ 1 1 = Int32.ofNat n) : x_run (d + 1) 65 [.inr (.inr (some 1)), .inl i] σ = some (some (.inr (.inr none)), σ) := by
  rw [r65, e65_0]
  by_cases h : i < 0
  · rw [if_pos h]
  · rw [if_neg h, x_ckk hG.1 rfl, h1, if_pos (ho.resolve_left h)]
theorem m135_in (d : Nat) {σ : xS} (hG : x_G σ) {n l : Nat} (hn : n ≤ 5) (hl : l < n) (h1 : x_I σ 78 0 = Int32.ofNat n) : x_run (d + 2) 135 [.inr (.inr (some 78)), .inl (Int32.ofNat l)] σ = some (some (.inl 1), σ) := by
  have h : x_b1 (0 ≤ Int32.ofNat l ∧ Int32.ofNat l ≤ Int32.ofNat n - 1) = 1 := if_pos ((x_predn hn).mpr (fun h => h.elim (x_nn0 (by omega)) (fun h => absurd ((x_le (by omega) (by omega)).mp h) (by omega))))
  rw [r135, e135_0, x_ckk hG.1 rfl, h1, m133, x_ci_s, h]
  rfl
theorem m135_out (d : Nat) {σ : xS} (hG : x_G σ) {n : Nat} {i : Int32} (hn : n ≤ 5) (ho : i < 0 ∨ Int32.ofNat n ≤ i) (h1 : x_I σ 78 0 = Int32.ofNat n) : x_run (d + 2) 135 [.inr (.inr (some 78)), .inl i] σ = some (some (.inl 0), σ) := by
  have h : x_b1 (0 ≤ i ∧ i ≤ Int32.ofNat n - 1) = 0 := if_neg (fun h => (x_predn hn).mp h ho)
  rw [r135, e135_0, x_ckk hG.1 rfl, h1, m133, x_ci_s, h]
  rfl
theorem x_kl {l : Nat} (hl : l < 5) : Nat.beq (x_nth x_K (3 + l)).1 2 = true := by
  rcases (show l = 0 ∨ l = 1 ∨ l = 2 ∨ l = 3 ∨ l = 4 by omega) with rfl | rfl | rfl | rfl | rfl <;> rfl
/-- what is taken -/
def x_tk (ex sh v : Int32) : Int32 := if v ≤ ex then 0 else ((v - ex) * sh) / 100
theorem m20 (d : Nat) {σ : xS} (hG : x_G σ) {l : Nat} (hl : l < 5) (v : Int32) : x_run (d + 1) 20 [.inr (.inr (some (3 + l))), .inl v] σ = some (some (.inl (x_tk (x_I σ (3 + l) 3) (x_I σ (3 + l) 4) v)), σ) := by
  rw [r20, e20_0, x_ckk hG.1 (x_kl hl)]
  unfold x_tk
  by_cases h : v ≤ x_I σ (3 + l) 3
  · rw [if_pos h, if_pos h]
  · rw [if_neg h, if_neg h, x_ckk hG.1 (x_kl hl), x_ckk hG.1 (x_kl hl)]
theorem x_6l {l c : Nat} : 6 * Int32.ofNat l + Int32.ofNat c = Int32.ofNat (6 * l + c) := by
  rw [show (6 : Int32) = Int32.ofNat 6 from rfl, ← Int32.ofNat_mul, ← Int32.ofNat_add]
theorem x_subz {v ex : Int32} (h1 : x_bd v 0 99999) (h2 : x_bd ex 0 999) : v - ex ≤ 0 ↔ v ≤ ex := by
  have a1 : (0 : Int) ≤ v.toInt := Int32.le_iff_toInt_le.mp h1.1
  have a2 : v.toInt ≤ 99999 := Int32.le_iff_toInt_le.mp h1.2
  have a3 : (0 : Int) ≤ ex.toInt := Int32.le_iff_toInt_le.mp h2.1
  have a4 : ex.toInt ≤ 999 := Int32.le_iff_toInt_le.mp h2.2
  rw [Int32.le_iff_toInt_le, Int32.le_iff_toInt_le, Int32.toInt_sub]
  have h : (v.toInt - ex.toInt).bmod (2 ^ 32) = v.toInt - ex.toInt := by
    rw [Int.bmod_def]
    split <;> omega
  rw [h]
  show v.toInt - ex.toInt ≤ (0 : Int) ↔ _
  omega
theorem m163 (d : Nat) {σ : xS} (hG : x_G σ) {l : Nat} (hl : l < 5) {v : Int32} (hv : x_bd v 0 99999) (hx : x_bd (x_I σ 81 (6 * l + 1)) 0 999) : x_run (d + 1) 163 [.inr (.inr (some 78)), .inl (Int32.ofNat l), .inl v] σ = some (some (.inl (x_tk (x_I σ 81 (6 * l + 1)) (x_I σ 81 (6 * l + 2)) v)), σ) := by
  have q : x_Q σ 78 3 = some 81 := hG.2 (78, 3, some 81) (by decide)
  rw [r163, e163_0, x_ckk hG.1 rfl, q, x_der_s, x_akk hG.1 (n := 30) rfl, show 6 * Int32.ofNat l + 1 = Int32.ofNat (6 * l + 1) from x_6l (c := 1), x_ixk (by omega) (by omega), x_tn (by omega)]
  unfold x_tk
  by_cases h : v ≤ x_I σ 81 (6 * l + 1)
  · rw [if_pos ((x_subz hv hx).mpr h), if_pos h]
  · rw [if_neg (fun g => h ((x_subz hv hx).mp g)), if_neg h, x_ckk hG.1 rfl, x_der_s, x_akk hG.1 (n := 30) rfl, show 6 * Int32.ofNat l + 2 = Int32.ofNat (6 * l + 2) from x_6l (c := 2), x_ixk (by omega) (by omega), x_tn (by omega)]
theorem x_nul_s (a : Nat) (A B : Option xR) : x_nul (some a) A B = B := rfl
theorem x_nul_n (A B : Option xR) : x_nul none A B = A := rfl
theorem x_cr_s (q : Option Nat) (σ : xS) (K : Option Nat → xS → Option xR) : x_cr (some (some (.inr (.inr q)), σ)) K = K q σ := rfl
theorem x_op_claim (D : Nat) : ∀ (σ : xS) (as : List Int32), as.length = 2 → x_R σ → x_stp (D + 3) x_R false 86 166 as σ := by
  intro σ as hl hR
  match as, hl with
  | [i1, i2], _ =>
    obtain ⟨hG, n, t, z, hP⟩ := id hR
    obtain ⟨hn, ht, hz, ⟨l1, l2⟩, -, -, -, hli, -⟩ := id hP
    have q0 : x_Q σ 0 0 = some 1 := hG.2 (0, 0, some 1) (by decide)
    have same : ∀ v : Int32, x_run (D + 3) 86 [.inr (.inr (some 0)), .inl i1, .inl i2] σ = some (some (.inl v), σ) → x_run (D + 3) 166 [.inr (.inr (some 78)), .inl i1, .inl i2] σ = some (some (.inl v), σ) → x_stp (D + 3) x_R false 86 166 [i1, i2] σ := fun v e1 e2 => ⟨.inl v, σ, σ, ⟨v, rfl⟩, e1, hG.1, e2, hR⟩
    rcases x_split hn i1 with ⟨l, hl, rfl⟩ | ho
    · by_cases c : 0 ≤ i2 ∧ i2 ≤ 99999
      · have d1 : x_b1 (0 ≤ i2 ∧ i2 ≤ 99999) = 1 := if_pos c
        obtain ⟨⟨h6, -, hx, -⟩, -⟩ := hli l hl
        have e3 : x_I σ (3 + l) 3 = x_I σ 81 (6 * l + 1) := h6 1 (by omega)
        have e4 : x_I σ (3 + l) 4 = x_I σ 81 (6 * l + 2) := h6 2 (by omega)
        refine same (x_tk (x_I σ 81 (6 * l + 1)) (x_I σ 81 (6 * l + 2)) i2) ?_ ?_
        · rw [r86, e86_0, x_ckk hG.1 rfl, q0, x_der_s, x_ckk hG.1 rfl, m65_in _ hG hn hl l2, x_cr_s, x_nul_s, m126, x_ci_s, d1, if_neg (by decide), x_der_s, x_ckk hG.1 (x_kl (by omega)), m20 _ hG (by omega), x_ci_s, e3, e4]
        · rw [r166, e166_0, x_ckk hG.1 rfl, m135_in _ hG hn hl l1, x_ci_s, if_neg (by decide), m133, x_ci_s, d1, if_neg (by decide), x_ckk hG.1 rfl, m163 _ hG (by omega) c hx, x_ci_s]
      · have d1 : x_b1 (0 ≤ i2 ∧ i2 ≤ 99999) = 0 := if_neg c
        refine same (-7) ?_ ?_
        · rw [r86, e86_0, x_ckk hG.1 rfl, q0, x_der_s, x_ckk hG.1 rfl, m65_in _ hG hn hl l2, x_cr_s, x_nul_s, m126, x_ci_s, d1, if_pos rfl]
        · rw [r166, e166_0, x_ckk hG.1 rfl, m135_in _ hG hn hl l1, x_ci_s, if_neg (by decide), m133, x_ci_s, d1, if_pos rfl]
    · refine same (-5) ?_ ?_
      · rw [r86, e86_0, x_ckk hG.1 rfl, q0, x_der_s, x_ckk hG.1 rfl, m65_out _ hG ho l2, x_cr_s, x_nul_n]
      · rw [r166, e166_0, x_ckk hG.1 rfl, m135_out _ hG hn ho l1, x_ci_s, if_pos rfl]
