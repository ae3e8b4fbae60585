/-! put: the call -/
theorem x_bl_b1 (c : Prop) [Decidable c] (K : Option xR) : x_bl (x_b1 c) K = K := by
  unfold x_bl x_b1
  by_cases h : c
  · rw [if_pos h, if_pos (Or.inr rfl)]
  · rw [if_neg h, if_pos (Or.inl rfl)]
def x_mpv (n l k : Nat) (v : Int32) : Int32 := match k with
  | 0 => x_b1 (0 ≤ v ∧ v ≤ 99999)
  | 1 => x_b1 (0 ≤ v ∧ v ≤ 999)
  | 2 => x_b1 (0 ≤ v ∧ v ≤ 100)
  | 3 => x_b1 (0 ≤ v ∧ v ≤ 11)
  | 4 => if x_b1 (-1 ≤ v ∧ v ≤ Int32.ofNat n - 1) = 0 then 0 else if v = Int32.ofNat l then 0 else 1
  | _ => x_b1 (0 ≤ v ∧ v ≤ 99)
theorem x_b1_ne {c : Prop} [Decidable c] (h : ¬ x_b1 c = 0) : c := by
  by_cases g : c
  · exact g
  · exact absurd (if_neg g) h
theorem x_mpv_ok {n l k : Nat} {v : Int32} (hn : n ≤ 5) (hk : k < 6) (h : ¬ x_mpv n l k v = 0) : x_bk n k v := by
  rcases (show k = 0 ∨ k = 1 ∨ k = 2 ∨ k = 3 ∨ k = 4 ∨ k = 5 by omega) with rfl | rfl | rfl | rfl | rfl | rfl
  · exact x_b1_ne (c := 0 ≤ v ∧ v ≤ 99999) h
  · exact x_b1_ne (c := 0 ≤ v ∧ v ≤ 999) h
  · exact x_b1_ne (c := 0 ≤ v ∧ v ≤ 100) h
  · exact x_b1_ne (c := 0 ≤ v ∧ v ≤ 11) h
  · have h2 : ¬ x_b1 (-1 ≤ v ∧ v ≤ Int32.ofNat n - 1) = 0 := fun g => h (if_pos g)
    obtain ⟨a, b⟩ := x_b1_ne h2
    refine ⟨a, ?_⟩
    have e : (Int32.ofNat n - 1).toInt = (n : Int) - 1 ∧ (Int32.ofNat n).toInt = (n : Int) := by
      rcases (show n = 0 ∨ n = 1 ∨ n = 2 ∨ n = 3 ∨ n = 4 ∨ n = 5 by omega) with rfl | rfl | rfl | rfl | rfl | rfl <;> exact ⟨by decide, by decide⟩
    rw [Int32.lt_iff_toInt_lt, e.2]
    have := Int32.le_iff_toInt_le.mp b
    rw [e.1] at this
    omega
  · exact x_b1_ne (c := 0 ≤ v ∧ v ≤ 99) h
theorem m68 (d : Nat) {σ : xS} (hG : x_G σ) {n l k : Nat} {v : Int32} (hk : k < 6) (h1 : x_I σ 1 1 = Int32.ofNat n) : x_run (d + 2) 68 [.inr (.inr (some 1)), .inl (Int32.ofNat l), .inl (Int32.ofNat k), .inl v] σ = some (some (.inl (x_mpv n l k v)), σ) := by
  rw [r68, e68_0]
  rcases (show k = 0 ∨ k = 1 ∨ k = 2 ∨ k = 3 ∨ k = 4 ∨ k = 5 by omega) with rfl | rfl | rfl | rfl | rfl | rfl
  · rw [if_pos (by decide), m126, x_ci_s, x_bl_b1]; rfl
  · rw [if_neg (by decide), if_pos (by decide), m126, x_ci_s, x_bl_b1]; rfl
  · rw [if_neg (by decide), if_neg (by decide), if_pos (by decide), m126, x_ci_s, x_bl_b1]; rfl
  · rw [if_neg (by decide), if_neg (by decide), if_neg (by decide), if_pos (by decide), m126, x_ci_s, x_bl_b1]; rfl
  · rw [if_neg (by decide), if_neg (by decide), if_neg (by decide), if_neg (by decide), if_pos (by decide), x_ckk hG.1 rfl, h1, m126, x_ci_s]
    show _ = (some (some (Sum.inl (if x_b1 (-1 ≤ v ∧ v ≤ Int32.ofNat n - 1) = 0 then 0 else if v = Int32.ofNat l then 0 else 1)), σ) : Option xR)
    by_cases c1 : x_b1 (-1 ≤ v ∧ v ≤ Int32.ofNat n - 1) = 0
    · rw [if_pos c1, if_pos c1]
    · rw [if_neg c1, if_neg c1]
      by_cases c2 : v = Int32.ofNat l
      · rw [if_pos c2, if_pos c2]
      · rw [if_neg c2, if_neg c2]
  · rw [if_neg (by decide), if_neg (by decide), if_neg (by decide), if_neg (by decide), if_neg (by decide), if_pos (by decide), m126, x_ci_s, x_bl_b1]; rfl
theorem m157 (d : Nat) {σ : xS} (hG : x_G σ) {n l k : Nat} {v : Int32} (hk : k < 6) (h1 : x_I σ 78 0 = Int32.ofNat n) : x_run (d + 2) 157 [.inr (.inr (some 78)), .inl (Int32.ofNat l), .inl (Int32.ofNat k), .inl v] σ = some (some (.inl (x_mpv n l k v)), σ) := by
  rw [r157, e157_0]
  rcases (show k = 0 ∨ k = 1 ∨ k = 2 ∨ k = 3 ∨ k = 4 ∨ k = 5 by omega) with rfl | rfl | rfl | rfl | rfl | rfl
  · rw [if_pos (by decide), m133, x_ci_s, x_bl_b1]; rfl
  · rw [if_neg (by decide), if_pos (by decide), m133, x_ci_s, x_bl_b1]; rfl
  · rw [if_neg (by decide), if_neg (by decide), if_pos (by decide), m133, x_ci_s, x_bl_b1]; rfl
  · rw [if_neg (by decide), if_neg (by decide), if_neg (by decide), if_pos (by decide), m133, x_ci_s, x_bl_b1]; rfl
  · rw [if_neg (by decide), if_neg (by decide), if_neg (by decide), if_neg (by decide), if_pos (by decide), x_ckk hG.1 rfl, h1, m133, x_ci_s]
    show _ = (some (some (Sum.inl (if x_b1 (-1 ≤ v ∧ v ≤ Int32.ofNat n - 1) = 0 then 0 else if v = Int32.ofNat l then 0 else 1)), σ) : Option xR)
    by_cases c1 : x_b1 (-1 ≤ v ∧ v ≤ Int32.ofNat n - 1) = 0
    · rw [if_pos c1, if_pos c1]
    · rw [if_neg c1, if_neg c1]
      by_cases c2 : v = Int32.ofNat l
      · rw [if_pos c2, if_pos c2]
      · rw [if_neg c2, if_neg c2]
  · rw [if_neg (by decide), if_neg (by decide), if_neg (by decide), if_neg (by decide), if_neg (by decide), if_pos (by decide), m133, x_ci_s]
    show _ = (some (some (Sum.inl (x_b1 (0 ≤ v ∧ v ≤ 99))), σ) : Option xR)
    by_cases c : 0 ≤ v ∧ v ≤ 99
    · rw [show x_b1 (0 ≤ v ∧ v ≤ 99) = 1 from if_pos c, if_neg (by decide)]
    · rw [show x_b1 (0 ≤ v ∧ v ≤ 99) = 0 from if_neg c, if_pos rfl]
theorem m68_no (d : Nat) {σ : xS} {i1 i2 v : Int32} (ne : ∀ c : Int32, 0 ≤ c → c ≤ 5 → ¬ i2 = c) : x_run (d + 2) 68 [.inr (.inr (some 1)), .inl i1, .inl i2, .inl v] σ = some (some (.inl 0), σ) := by
  rw [r68, e68_0, if_neg (ne 0 (by decide) (by decide)), if_neg (ne 1 (by decide) (by decide)), if_neg (ne 2 (by decide) (by decide)), if_neg (ne 3 (by decide) (by decide)), if_neg (ne 4 (by decide) (by decide)), if_neg (ne 5 (by decide) (by decide))]
theorem m157_no (d : Nat) {σ : xS} {i1 i2 v : Int32} (ne : ∀ c : Int32, 0 ≤ c → c ≤ 5 → ¬ i2 = c) : x_run (d + 2) 157 [.inr (.inr (some 78)), .inl i1, .inl i2, .inl v] σ = some (some (.inl 0), σ) := by
  rw [r157, e157_0, if_neg (ne 0 (by decide) (by decide)), if_neg (ne 1 (by decide) (by decide)), if_neg (ne 2 (by decide) (by decide)), if_neg (ne 3 (by decide) (by decide)), if_neg (ne 4 (by decide) (by decide)), if_neg (ne 5 (by decide) (by decide))]
theorem m14 (d : Nat) {σ : xS} (hG : x_G σ) {l k : Nat} {v : Int32} (hl : l < 5) (hk : k < 6) : x_run (d + 1) 14 [.inr (.inr (some (3 + l))), .inl (Int32.ofNat k), .inl v] σ = some (none, x_si σ (3 + l) (2 + k) v) := by
  rw [r14, e14_0]
  rcases (show k = 0 ∨ k = 1 ∨ k = 2 ∨ k = 3 ∨ k = 4 ∨ k = 5 by omega) with rfl | rfl | rfl | rfl | rfl | rfl
  · rw [if_pos (by decide), x_ckk hG.1 (x_kl hl)]
  · rw [if_neg (by decide), if_pos (by decide), x_ckk hG.1 (x_kl hl)]
  · rw [if_neg (by decide), if_neg (by decide), if_pos (by decide), x_ckk hG.1 (x_kl hl)]
  · rw [if_neg (by decide), if_neg (by decide), if_neg (by decide), if_pos (by decide), x_ckk hG.1 (x_kl hl)]
  · rw [if_neg (by decide), if_neg (by decide), if_neg (by decide), if_neg (by decide), if_pos (by decide), x_ckk hG.1 (x_kl hl)]
  · rw [if_neg (by decide), if_neg (by decide), if_neg (by decide), if_neg (by decide), if_neg (by decide), if_pos (by decide), x_ckk hG.1 (x_kl hl)]
theorem x_I_other {σ : xS} {a u a0 u0 : Nat} (v : Int32) (h : ¬ (a = a0 ∧ u = u0)) : x_I (x_si σ a0 u0 v) a u = x_I σ a u := by
  show (bif Nat.beq a a0 && Nat.beq u u0 then v else σ.2.1 a u) = σ.2.1 a u
  cases e : (Nat.beq a a0 && Nat.beq u u0) with
  | false => rfl
  | true =>
    obtain ⟨e1, e2⟩ := x_an e
    exact absurd ⟨Nat.eq_of_beq_eq_true e1, Nat.eq_of_beq_eq_true e2⟩ h
theorem x_I_same {σ : xS} {a u : Nat} (v : Int32) : x_I (x_si σ a u v) a u = v := by
  show (bif Nat.beq a a && Nat.beq u u then v else σ.2.1 a u) = v
  rw [Nat.beq_refl, Nat.beq_refl]; rfl
theorem x_op_put (D : Nat) : ∀ (σ : xS) (as : List Int32), as.length = 3 → x_R σ → x_stp (D + 3) x_R false 83 158 as σ := by
  intro σ as hl hR
  match as, hl with
  | [i1, i2, v], _ =>
    obtain ⟨hG, n, t, z, hP⟩ := id hR
    obtain ⟨hn, ht, hz, ⟨l1, l2⟩, -, -, -, hli, -⟩ := id hP
    have q0 : x_Q σ 0 0 = some 1 := hG.2 (0, 0, some 1) (by decide)
    have same : ∀ w : Int32, x_run (D + 3) 83 [.inr (.inr (some 0)), .inl i1, .inl i2, .inl v] σ = some (some (.inl w), σ) → x_run (D + 3) 158 [.inr (.inr (some 78)), .inl i1, .inl i2, .inl v] σ = some (some (.inl w), σ) → x_stp (D + 3) x_R false 83 158 [i1, i2, v] σ := fun w e1 e2 => ⟨.inl w, σ, σ, ⟨w, rfl⟩, e1, hG.1, e2, hR⟩
    rcases x_split hn i1 with ⟨l, hl, rfl⟩ | ho
    · rcases x_splitg (n := 6) (by omega) i2 with ⟨k, hk, rfl⟩ | ho2
      · by_cases c : x_mpv n l k v = 0
        · refine same (-7) ?_ ?_
          · rw [r83, e83_0, x_ckk hG.1 rfl, q0, x_der_s, x_ckk hG.1 rfl, m65_in _ hG hn hl l2, x_cr_s, x_nul_s, x_ckk hG.1 rfl, q0, x_der_s, x_ckk hG.1 rfl, m68 _ hG hk l2, x_ci_s, if_pos c]
          · rw [r158, e158_0, x_ckk hG.1 rfl, m135_in _ hG hn hl l1, x_ci_s, if_neg (by decide), x_ckk hG.1 rfl, m157 _ hG hk l1, x_ci_s, if_pos c]
        · have hg : x_gs k = 2 + k := if_pos hk
          obtain ⟨⟨h6, -⟩, -⟩ := hli l hl
          have hG2 : x_G (x_si σ (3 + l) (2 + k) v) := hG
          have l1' : x_I (x_si σ (3 + l) (2 + k) v) 78 0 = Int32.ofNat n := by rw [x_I_other _ (by omega)]; exact l1
          have q3 : x_Q (x_si σ (3 + l) (2 + k) v) 78 3 = some 81 := hG.2 (78, 3, some 81) (by decide)
          refine ⟨.inl (x_I σ (3 + l) (2 + k)), x_si σ (3 + l) (2 + k) v, x_si (x_si σ (3 + l) (2 + k) v) 81 (6 * l + k) v, ⟨_, rfl⟩, ?_, hG.1, ?_, hG, n, t, z, hP.row hl hk ?_ ?_ ?_ (x_mpv_ok hn hk c)⟩
          · show x_run (D + 3) 83 [.inr (.inr (some 0)), .inl (Int32.ofNat l), .inl (Int32.ofNat k), .inl v] σ = _
            rw [r83, e83_0, x_ckk hG.1 rfl, q0, x_der_s, x_ckk hG.1 rfl, m65_in _ hG hn hl l2, x_cr_s, x_nul_s, x_ckk hG.1 rfl, q0, x_der_s, x_ckk hG.1 rfl, m68 _ hG hk l2, x_ci_s, if_neg c, x_der_s, x_ckk hG.1 (x_kl (by omega)), m13 _ hG (by omega) (by omega), x_ci_s, x_der_s, x_ckk hG.1 (x_kl (by omega)), m14 _ hG (by omega) hk, x_cv_s, hg]
          · show x_run (D + 3) 158 [.inr (.inr (some 78)), .inl (Int32.ofNat l), .inl (Int32.ofNat k), .inl v] (x_si σ (3 + l) (2 + k) v) = _
            rw [r158, e158_0, x_ckk hG2.1 rfl, m135_in _ hG2 hn hl l1', x_ci_s, if_neg (by decide), x_ckk hG2.1 rfl, m157 _ hG2 hk l1', x_ci_s, if_neg c, x_ckk hG2.1 rfl, q3, x_der_s, x_akk hG2.1 (n := 30) rfl, x_6l, x_ixk (by omega) (by omega), x_ckk hG2.1 rfl, x_der_s, x_akk hG2.1 (n := 30) rfl, x_ixk (by omega) (by omega), x_tn (by omega), x_I_other _ (by omega), h6 k hk]
          · intro a u h1 h2
            rw [x_I_other _ h2, x_I_other _ h1]
          · rw [x_I_other _ (by omega), x_I_same]
          · rw [x_I_same]
      · have ne : ∀ c : Int32, 0 ≤ c → c ≤ 5 → ¬ i2 = c := fun c h1 h2 e => by subst e; exact x_ltk (n := 5) (by omega) ho2 ⟨h1, h2⟩
        refine same (-7) ?_ ?_
        · rw [r83, e83_0, x_ckk hG.1 rfl, q0, x_der_s, x_ckk hG.1 rfl, m65_in _ hG hn hl l2, x_cr_s, x_nul_s, x_ckk hG.1 rfl, q0, x_der_s, x_ckk hG.1 rfl, m68_no _ ne, x_ci_s, if_pos rfl]
        · rw [r158, e158_0, x_ckk hG.1 rfl, m135_in _ hG hn hl l1, x_ci_s, if_neg (by decide), x_ckk hG.1 rfl, m157_no _ ne, x_ci_s, if_pos rfl]
    · refine same (-5) ?_ ?_
      · rw [r83, e83_0, x_ckk hG.1 rfl, q0, x_der_s, x_ckk hG.1 rfl, m65_out _ hG ho l2, x_cr_s, x_nul_n]
      · rw [r158, e158_0, x_ckk hG.1 rfl, m135_out _ hG hn ho l1, x_ci_s, if_pos rfl]
