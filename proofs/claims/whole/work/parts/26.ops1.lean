/-! the first calls on both -/
theorem x_ckk {σ : xS} (h : σ.1 = x_K) {a c : Nat} (hc : Nat.beq (x_nth x_K a).1 c = true) (K : Option xR) : x_ck σ a c K = K := by unfold x_ck; rw [h, hc]; rfl
def x_b1 (c : Prop) [Decidable c] : Int32 := if c then 1 else 0
theorem m126 (d : Nat) (v lo hi : Int32) (σ : xS) : x_run (d + 1) 126 [.inl v, .inl lo, .inl hi] σ = some (some (.inl (x_b1 (lo ≤ v ∧ v ≤ hi))), σ) := by
  rw [r126, e126_0]
  unfold x_b1
  by_cases h1 : v < lo
  · rw [if_pos h1, if_neg (fun h => absurd h1 (Int32.not_lt.mpr h.1))]
  · by_cases h2 : hi < v
    · rw [if_neg h1, if_pos h2, if_neg (fun h => absurd h2 (Int32.not_lt.mpr h.2))]
    · rw [if_neg h1, if_neg h2, if_pos ⟨Int32.not_lt.mp h1, Int32.not_lt.mp h2⟩]
theorem m133 (d : Nat) (v lo hi : Int32) (σ : xS) : x_run (d + 1) 133 [.inl v, .inl lo, .inl hi] σ = some (some (.inl (x_b1 (lo ≤ v ∧ v ≤ hi))), σ) := by
  rw [r133, e133_0]
  unfold x_b1
  by_cases h1 : v < lo
  · rw [if_pos h1, if_neg (fun h => absurd h1 (Int32.not_lt.mpr h.1))]
  · by_cases h2 : hi < v
    · rw [if_neg h1, if_pos h2, if_neg (fun h => absurd h2 (Int32.not_lt.mpr h.2))]
    · rw [if_neg h1, if_neg h2, if_pos ⟨Int32.not_lt.mp h1, Int32.not_lt.mp h2⟩]
theorem x_op_count (D : Nat) : ∀ (σ : xS) (as : List Int32), as.length = 1 → x_R σ → x_stp (D + 1) x_R false 76 136 as σ := by
  intro σ as hl hR
  match as, hl with
  | [i1], _ =>
    obtain ⟨hG, n, t, z, hn, ht, hz, ⟨l1, l2⟩, ⟨t1, t2⟩, ⟨z1, z2⟩, ⟨⟨y1, -⟩, ⟨f1, -⟩, ⟨g1, -⟩, ⟨p1, -⟩, ⟨u1, -⟩⟩, -⟩ := id hR
    have q0 : x_Q σ 0 0 = some 1 := hG.2 (0, 0, some 1) (by decide)
    have q4 : x_Q σ 0 4 = some 22 := hG.2 (0, 4, some 22) (by decide)
    have key : ∃ x, x_run (D + 1) 76 [.inr (.inr (some 0)), .inl i1] σ = some (some (.inl x), σ) ∧ x_run (D + 1) 136 [.inr (.inr (some 78)), .inl i1] σ = some (some (.inl x), σ) := by
      rw [r76, e76_0, r136, e136_0]
      simp only [x_ckk hG.1 (a := 0) (c := 9) rfl, x_ckk hG.1 (a := 78) (c := 10) rfl, q0, q4, x_der_s, x_ckk hG.1 (a := 1) (c := 8) rfl, x_ckk hG.1 (a := 22) (c := 6) rfl, l1, l2, t1, t2, z1, z2, y1, f1, g1, p1, u1]
      by_cases h0 : i1 = 0
      · rw [if_pos h0]; exact ⟨_, rfl, rfl⟩
      rw [if_neg h0]
      by_cases h1 : i1 = 1
      · rw [if_pos h1]; exact ⟨_, rfl, rfl⟩
      rw [if_neg h1]
      by_cases h2 : i1 = 2
      · rw [if_pos h2]; exact ⟨_, rfl, rfl⟩
      rw [if_neg h2]
      by_cases h3 : i1 = 3
      · rw [if_pos h3]; exact ⟨_, rfl, rfl⟩
      rw [if_neg h3]
      by_cases h4 : i1 = 4
      · rw [if_pos h4]; exact ⟨_, rfl, rfl⟩
      rw [if_neg h4]
      by_cases h5 : i1 = 5
      · rw [if_pos h5]; exact ⟨_, rfl, rfl⟩
      rw [if_neg h5]
      by_cases h6 : i1 = 6
      · rw [if_pos h6]; exact ⟨_, rfl, rfl⟩
      rw [if_neg h6]
      by_cases h7 : i1 = 7
      · rw [if_pos h7]; exact ⟨_, rfl, rfl⟩
      rw [if_neg h7]
      exact ⟨_, rfl, rfl⟩
    obtain ⟨x, e1, e2⟩ := key
    exact ⟨.inl x, σ, σ, ⟨x, rfl⟩, e1, hG.1, e2, hR⟩
