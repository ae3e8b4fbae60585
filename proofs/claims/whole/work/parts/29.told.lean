/-! told -/
theorem x_splitg {n : Nat} (hn : n < 2 ^ 31) (i : Int32) : (∃ l, l < n ∧ i = Int32.ofNat l) ∨ i < 0 ∨ Int32.ofNat n ≤ i := by
  by_cases h1 : i < 0
  · exact Or.inr (Or.inl h1)
  · by_cases h2 : Int32.ofNat n ≤ i
    · exact Or.inr (Or.inr h2)
    · left
      have a1 : (0 : Int) ≤ i.toInt := Int32.le_iff_toInt_le.mp (Int32.not_lt.mp h1)
      have a2 : i.toInt < (n : Int) := by
        have := Int32.lt_iff_toInt_lt.mp (Int32.not_le.mp h2)
        rw [Int32.toInt_ofNat_of_lt hn] at this
        exact this
      refine ⟨i.toInt.toNat, by omega, Int32.toInt_inj.mp ?_⟩
      rw [Int32.toInt_ofNat_of_lt (by omega)]
      omega
def x_gs (k : Nat) : Nat := if k < 6 then 2 + k else if k = 6 then 0 else 1
theorem m13 (d : Nat) {σ : xS} (hG : x_G σ) {l k : Nat} (hl : l < 5) (hk : k < 8) : x_run (d + 1) 13 [.inr (.inr (some (3 + l))), .inl (Int32.ofNat k)] σ = some (some (.inl (x_I σ (3 + l) (x_gs k))), σ) := by
  rw [r13, e13_0]
  rcases (show k = 0 ∨ k = 1 ∨ k = 2 ∨ k = 3 ∨ k = 4 ∨ k = 5 ∨ k = 6 ∨ k = 7 by omega) with rfl | rfl | rfl | rfl | rfl | rfl | rfl | rfl
  · rw [if_pos (by decide), x_ckk hG.1 (x_kl hl)]; rfl
  · rw [if_neg (by decide), if_pos (by decide), x_ckk hG.1 (x_kl hl)]; rfl
  · rw [if_neg (by decide), if_neg (by decide), if_pos (by decide), x_ckk hG.1 (x_kl hl)]; rfl
  · rw [if_neg (by decide), if_neg (by decide), if_neg (by decide), if_pos (by decide), x_ckk hG.1 (x_kl hl)]; rfl
  · rw [if_neg (by decide), if_neg (by decide), if_neg (by decide), if_neg (by decide), if_pos (by decide), x_ckk hG.1 (x_kl hl)]; rfl
  · rw [if_neg (by decide), if_neg (by decide), if_neg (by decide), if_neg (by decide), if_neg (by decide), if_pos (by decide), x_ckk hG.1 (x_kl hl)]; rfl
  · rw [if_neg (by decide), if_neg (by decide), if_neg (by decide), if_neg (by decide), if_neg (by decide), if_neg (by decide), if_pos (by decide), x_ckk hG.1 (x_kl hl)]; rfl
  · rw [if_neg (by decide), if_neg (by decide), if_neg (by decide), if_neg (by decide), if_neg (by decide), if_neg (by decide), if_neg (by decide), x_ckk hG.1 (x_kl hl)]; rfl
theorem x_ltk {i : Int32} {n : Nat} (hn : n < 100000) (h : i < 0 ∨ Int32.ofNat (n + 1) ≤ i) : ¬ (0 ≤ i ∧ i ≤ Int32.ofNat n) := by
  rintro ⟨h1, h2⟩
  rcases h with h | h
  · exact absurd h (Int32.not_lt.mpr h1)
  · exact absurd ((x_le (by omega) (by omega)).mp (Int32.le_trans h h2)) (by omega)
theorem x_op_told (D : Nat) : ∀ (σ : xS) (as : List Int32), as.length = 2 → x_R σ → x_stp (D + 3) x_R false 84 159 as σ := by
  intro σ as hl hR
  match as, hl with
  | [i1, i2], _ =>
    obtain ⟨hG, n, t, z, hP⟩ := id hR
    obtain ⟨hn, ht, hz, ⟨l1, l2⟩, -, -, -, hli, -⟩ := id hP
    have q0 : x_Q σ 0 0 = some 1 := hG.2 (0, 0, some 1) (by decide)
    have q1 : x_Q σ 78 1 = some 79 := hG.2 (78, 1, some 79) (by decide)
    have q2 : x_Q σ 78 2 = some 80 := hG.2 (78, 2, some 80) (by decide)
    have q3 : x_Q σ 78 3 = some 81 := hG.2 (78, 3, some 81) (by decide)
    have same : ∀ v : Int32, x_run (D + 3) 84 [.inr (.inr (some 0)), .inl i1, .inl i2] σ = some (some (.inl v), σ) → x_run (D + 3) 159 [.inr (.inr (some 78)), .inl i1, .inl i2] σ = some (some (.inl v), σ) → x_stp (D + 3) x_R false 84 159 [i1, i2] σ := fun v e1 e2 => ⟨.inl v, σ, σ, ⟨v, rfl⟩, e1, hG.1, e2, hR⟩
    rcases x_split hn i1 with ⟨l, hl, rfl⟩ | ho
    · obtain ⟨⟨h6, -⟩, ⟨k0, -⟩, ⟨k1, -⟩⟩ := hli l hl
      rcases x_splitg (n := 8) (by omega) i2 with ⟨k, hk, rfl⟩ | ho2
      · have d1 : x_b1 (0 ≤ Int32.ofNat k ∧ Int32.ofNat k ≤ 7) = 1 := if_pos ⟨Int32.not_lt.mp (x_nn0 (by omega)), (x_le (b := 7) (by omega) (by omega)).mpr (by omega)⟩
        refine same (x_I σ (3 + l) (x_gs k)) ?_ ?_
        · rw [r84, e84_0, x_ckk hG.1 rfl, q0, x_der_s, x_ckk hG.1 rfl, m65_in _ hG hn hl l2, x_cr_s, x_nul_s, m126, x_ci_s, d1, if_neg (by decide), x_der_s, x_ckk hG.1 (x_kl (by omega)), m13 _ hG (by omega) hk, x_ci_s]
        · rw [r159, e159_0, x_ckk hG.1 rfl, m135_in _ hG hn hl l1, x_ci_s, if_neg (by decide), m133, x_ci_s]
          by_cases h : k < 6
          · have d2 : x_b1 (0 ≤ Int32.ofNat k ∧ Int32.ofNat k ≤ 5) = 1 := if_pos ⟨Int32.not_lt.mp (x_nn0 (by omega)), (x_le (b := 5) (by omega) (by omega)).mpr (by omega)⟩
            have e : x_gs k = 2 + k := if_pos h
            rw [d2, if_neg (by decide), x_ckk hG.1 rfl, q3, x_der_s, x_akk hG.1 (n := 30) rfl, x_6l, x_ixk (by omega) (by omega), x_tn (by omega), e, h6 k h]
          · rcases (show k = 6 ∨ k = 7 by omega) with rfl | rfl
            · rw [show x_b1 (0 ≤ Int32.ofNat 6 ∧ Int32.ofNat 6 ≤ 5) = 0 from by decide, if_pos rfl, if_pos (by decide), x_ckk hG.1 rfl, q1, x_der_s, x_akk hG.1 (n := 5) rfl, x_ixk (by omega) (by omega), x_tn (by omega), ← k0]
              rfl
            · rw [show x_b1 (0 ≤ Int32.ofNat 7 ∧ Int32.ofNat 7 ≤ 5) = 0 from by decide, if_pos rfl, if_neg (by decide), if_pos (by decide), x_ckk hG.1 rfl, q2, x_der_s, x_akk hG.1 (n := 5) rfl, x_ixk (by omega) (by omega), x_tn (by omega), ← k1]
              rfl
      · have d1 : x_b1 (0 ≤ i2 ∧ i2 ≤ 7) = 0 := if_neg (x_ltk (n := 7) (by omega) ho2)
        have d2 : x_b1 (0 ≤ i2 ∧ i2 ≤ 5) = 0 := if_neg (fun h => x_ltk (n := 7) (by omega) ho2 ⟨h.1, Int32.le_trans h.2 (by decide)⟩)
        have ne : ∀ c : Int32, 0 ≤ c → c ≤ 7 → ¬ i2 = c := fun c h1 h2 e => by subst e; exact x_ltk (n := 7) (by omega) ho2 ⟨h1, h2⟩
        refine same (-7) ?_ ?_
        · rw [r84, e84_0, x_ckk hG.1 rfl, q0, x_der_s, x_ckk hG.1 rfl, m65_in _ hG hn hl l2, x_cr_s, x_nul_s, m126, x_ci_s, d1, if_pos rfl]
        · rw [r159, e159_0, x_ckk hG.1 rfl, m135_in _ hG hn hl l1, x_ci_s, if_neg (by decide), m133, x_ci_s, d2, if_pos rfl, if_neg (ne 6 (by decide) (by decide)), if_neg (ne 7 (by decide) (by decide))]
    · refine same (-5) ?_ ?_
      · rw [r84, e84_0, x_ckk hG.1 rfl, q0, x_der_s, x_ckk hG.1 rfl, m65_out _ hG ho l2, x_cr_s, x_nul_n]
      · rw [r159, e159_0, x_ckk hG.1 rfl, m135_out _ hG hn ho l1, x_ci_s, if_pos rfl]
