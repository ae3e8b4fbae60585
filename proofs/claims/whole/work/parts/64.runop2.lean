/-! run -/
theorem y_m10 {i : Int32} {n : Nat} (hn : n ≤ 5) (h : ¬ (10 ≤ i ∧ i ≤ 9 + Int32.ofNat n)) : i - 10 < 0 ∨ Int32.ofNat n ≤ i - 10 := by
  rw [show (9 : Int32) = Int32.ofNat 9 from rfl, ← Int32.ofNat_add, show (10 : Int32) = Int32.ofNat 10 from rfl, Int32.le_iff_toInt_le, Int32.le_iff_toInt_le, Int32.toInt_ofNat_of_lt (by omega), Int32.toInt_ofNat_of_lt (by omega)] at h
  rw [show (10 : Int32) = Int32.ofNat 10 from rfl, Int32.lt_iff_toInt_lt, Int32.le_iff_toInt_le, Int32.toInt_ofNat_of_lt (by omega), Int32.toInt_sub, Int32.toInt_ofNat_of_lt (by omega), Int.bmod_def, show (0 : Int32).toInt = 0 from rfl]
  have h1 := i.toInt_lt
  have h2 := i.le_toInt
  split <;> omega
theorem y_in10 {i : Int32} {n : Nat} (hn : n ≤ 5) (h : 10 ≤ i ∧ i ≤ 9 + Int32.ofNat n) : ∃ l, l < n ∧ i = Int32.ofNat (10 + l) := by
  obtain ⟨h1, h2⟩ := h
  obtain ⟨k, hk, rfl⟩ := x_bd_of (v := i) (hi := Int32.ofNat (9 + n)) (n := 9 + n) (by omega) ⟨Int32.le_trans (by decide) h1, by rw [Int32.ofNat_add]; exact h2⟩ rfl
  have := (x_le (a := 10) (by omega) (by omega)).mp h1
  exact ⟨k - 10, by omega, by rw [show 10 + (k - 10) = k by omega]⟩
theorem y_car {σ : xS} {n t z : Nat} (hG : x_G σ) (hP : x_Rp n t z σ) : ∃ r o p K M E S W U, r < t ∧ (∀ l, l < n → W l ≤ 99999 ∧ U l ≤ 99) ∧ y_fx n M E S ∧ y_ca n r t o p K M E S (x_I σ 78 4) (x_I σ 78 6) W U σ ∧ y_ra n r t o p K M E S (x_I σ 78 4) (x_I σ 78 6) W U σ := by
  obtain ⟨hn, ht, hz, ⟨l1, l2⟩, ⟨t1, t2⟩, -, hnum, hli, -⟩ := id hP
  obtain ⟨⟨y1, yb⟩, ⟨f1n, fb⟩, ⟨g1, gb⟩, ⟨p1, pb⟩, ⟨u1, ub⟩⟩ := id hnum
  obtain ⟨r, hr, e6, e13, o, p, hv⟩ := x_rule hP
  obtain ⟨W, U, wu, wr, fx, rl, cl⟩ := y_now hP
  exact ⟨r, o, p, _, _, _, _, W, U, hr, wu, fx, ⟨hG, hv, t2, e6, l2, y1, g1, cl⟩, ⟨hG, hv, e13, l1, rfl, rfl, fun l hl => ⟨rl l hl, (wr l hl).1⟩⟩⟩
theorem x_op_run (D : Nat) : ∀ (σ : xS) (as : List Int32), as.length = 3 → x_R σ → x_stp (D + 7) x_R false 103 199 as σ := by
  intro σ as hl hR
  match as, hl with
  | [i1, i2, i3], _ =>
    obtain ⟨hG, n, t, z, hP⟩ := id hR
    obtain ⟨hn, ht, hz, ⟨l1, l2⟩, ⟨t1, t2⟩, -⟩ := id hP
    have one : ¬ (1 : Int32) = 0 := by decide
    have fin : ∀ w : Int32, x_run (D + 7) 103 [.inr (.inr (some 0)), .inl i1, .inl i2, .inl i3] σ = some (some (.inl w), σ) → x_run (D + 7) 199 [.inr (.inr (some 78)), .inl i1, .inl i2, .inl i3] σ = some (some (.inl w), σ) → x_stp (D + 7) x_R false 103 199 [i1, i2, i3] σ := fun w e1 e2 => x_op_eq hR (.inl w) ⟨w, rfl⟩ e1 e2
    by_cases c1 : 0 ≤ i1 ∧ i1 ≤ 99999
    · by_cases c2 : 0 ≤ i2 ∧ i2 ≤ 40
      · obtain ⟨s, hs, rfl⟩ := x_bd_of (n := 99999) (by omega) c1 rfl
        obtain ⟨N, hN, rfl⟩ := x_bd_of (n := 40) (by omega) c2 rfl
        obtain ⟨r, o, p, K, M, E, S, W, U, hr, wu, fx, ca, ra⟩ := y_car hG hP
        obtain ⟨σ1, a1, f1, p8, p1, p9⟩ := m125 D n r t o p K M E S (x_I σ 78 4) (x_I σ 78 6) W U hn ht.2 hr fx (N := N) hN (s := s) (by omega) 0 wu ca
        obtain ⟨p9, ⟨m1, m2, m3⟩⟩ := p9 rfl
        obtain ⟨τ, a2, f2, q8, q9, q0⟩ := m198' D n r t o p K M E S (x_I σ 78 4) (x_I σ 78 6) W U hn (by omega) fx (N := N) (by omega) (s := s) (by omega) wu (ra.fr n r t o p K M E S (x_I σ 78 4) (x_I σ 78 6) W U (by omega) f1)
        have hG1 := f1.G hG
        have hG2 := f2.G hG1
        generalize x_it (y_yz p K M E S (x_I σ 78 4) (x_I σ 78 6) n) 0 N ((W, U, 0, s + 1, 0), (-1, -1)) = B at *
        have l11 : x_I σ1 78 0 = Int32.ofNat n := (f1.I (by unfold y_wz x_wt; omega)).trans l1
        have preC : ∀ w, x_f (D + 6) 103 49 [some (.inr (.inr (some 0))), some (.inl (Int32.ofNat s)), some (.inl (Int32.ofNat N)), some (.inl i3), none] [] σ = w → (0 ≤ i3 ∧ i3 ≤ 2) ∨ (∃ l, l < n ∧ i3 = Int32.ofNat (10 + l)) → x_run (D + 7) 103 [.inr (.inr (some 0)), .inl (Int32.ofNat s), .inl (Int32.ofNat N), .inl i3] σ = w := by
          intro w e h
          rw [r103, e103_0, m126, x_ci_s, x_b1_1 c1, if_neg one, m126, x_ci_s, x_b1_1 c2, if_neg one, m126, x_ci_s]
          rcases h with h | ⟨l, hl, rfl⟩
          · rw [x_b1_1 h, if_neg one]; exact e
          · rw [x_b1_0 (fun g => absurd ((x_le (b := 2) (by omega) (by omega)).mp g.2) (by omega)), if_pos rfl, x_k0 hG, x_q0_0 hG, x_der_s, x_k1 hG, show (10 : Int32) = Int32.ofNat 10 from rfl, x_sb (by omega) (by omega), show 10 + l - 10 = l by omega, m65_in _ hG hn hl l2, x_cr_s, x_nul_s]
            exact e
        have preR : ∀ w, x_f (D + 6) 199 51 [some (.inr (.inr (some 78))), some (.inl (Int32.ofNat s)), some (.inl (Int32.ofNat N)), some (.inl i3), none] [] σ1 = w → (0 ≤ i3 ∧ i3 ≤ 2) ∨ (∃ l, l < n ∧ i3 = Int32.ofNat (10 + l)) → x_run (D + 7) 199 [.inr (.inr (some 78)), .inl (Int32.ofNat s), .inl (Int32.ofNat N), .inl i3] σ1 = w := by
          intro w e h
          rw [r199, e199_0, m133, x_ci_s, x_b1_1 c1, if_neg one, m133, x_ci_s, x_b1_1 c2, if_neg one, m133, x_ci_s]
          rcases h with h | ⟨l, hl, rfl⟩
          · rw [x_b1_1 h, if_neg one]; exact e
          · rw [x_b1_0 (fun g => absurd ((x_le (b := 2) (by omega) (by omega)).mp g.2) (by omega)), if_pos rfl, x_k78 hG1, m133, x_ci_s, l11, x_b1_1 ⟨(x_le (a := 10) (by omega) (by omega)).mpr (by omega), by rw [show (9 : Int32) = Int32.ofNat 9 from rfl, ← Int32.ofNat_add]; exact (x_le (by omega) (by omega)).mpr (by omega)⟩, if_neg one]
            exact e
        by_cases c3 : 0 ≤ i3 ∧ i3 ≤ 2
        · have o10 : i3 - 10 < 0 := by
            obtain ⟨k, hk, rfl⟩ := x_bd_of (n := 2) (by omega) c3 rfl
            rcases (show k = 0 ∨ k = 1 ∨ k = 2 by omega) with rfl | rfl | rfl <;> decide
          have eC := m65w_out (D + 5) hG1 (w := 15) (n := n) (i := i3 - 10) (Or.inr (Or.inr rfl)) (Or.inl o10) p1
          have c103 : x_run (D + 7) 103 [.inr (.inr (some 0)), .inl (Int32.ofNat s), .inl (Int32.ofNat N), .inl i3] σ = some (some (.inl (if i3 = 0 then Int32.ofNat B.1.2.2.1 else if i3 = 1 then B.2.1 else B.2.2)), σ1) := by
            refine preC _ ?_ (Or.inl c3)
            rw [x_feq, e103_49, x_k0 hG, a1, x_cv_s, x_k0 hG1, x_q0_2 hG1, x_der_s, x_k15 hG1, eC, x_cr_s, x_nul_n]
            by_cases z0 : i3 = 0
            · rw [if_pos z0, if_pos z0, x_k0 hG1, x_q0_2 hG1, x_der_s, x_k15 hG1, m3]
            · rw [if_neg z0, if_neg z0]
              by_cases z1 : i3 = 1
              · rw [if_pos z1, if_pos z1, x_k0 hG1, x_q0_2 hG1, x_der_s, x_k15 hG1, p8]
              · rw [if_neg z1, if_neg z1, x_k0 hG1, x_q0_2 hG1, x_der_s, x_k15 hG1, p9]
          have c199 : x_run (D + 7) 199 [.inr (.inr (some 78)), .inl (Int32.ofNat s), .inl (Int32.ofNat N), .inl i3] σ1 = some (some (.inl (if i3 = 0 then Int32.ofNat B.1.2.2.1 else if i3 = 1 then B.2.1 else B.2.2)), τ) := by
            refine preR _ ?_ (Or.inl c3)
            rw [x_feq, e199_51, x_k78 hG1, a2, x_ci_s]
            by_cases z0 : i3 = 0
            · rw [if_pos z0, if_pos z0]
            · rw [if_neg z0, if_neg z0]
              by_cases z1 : i3 = 1
              · rw [if_pos z1, if_pos z1, x_k78 hG2, q8]
              · have z2 : i3 = 2 := by
                  obtain ⟨k, hk, rfl⟩ := x_bd_of (n := 2) (by omega) c3 rfl
                  rcases (show k = 0 ∨ k = 1 ∨ k = 2 by omega) with rfl | rfl | rfl
                  · exact absurd rfl z0
                  · exact absurd rfl z1
                  · rfl
                rw [if_neg z1, if_neg z1, if_pos z2, x_k78 hG2, q9]
          exact x_op_fr hR _ ⟨_, rfl⟩ y_wz_per c103 f1 c199 f2
        · by_cases c4 : 10 ≤ i3 ∧ i3 ≤ 9 + Int32.ofNat n
          · obtain ⟨l, hl, rfl⟩ := y_in10 hn c4
            have hl5 : l < 5 := by omega
            have e10 : Int32.ofNat (10 + l) - 10 = Int32.ofNat l := by
              rw [show (10 : Int32) = Int32.ofNat 10 from rfl, x_sb (by omega) (by omega), show 10 + l - 10 = l by omega]
            have ne : ∀ k : Nat, k < 10 → ¬ Int32.ofNat (10 + l) = Int32.ofNat k := fun k hk h => absurd (x_inj32 (by omega) (by omega) h) (by omega)
            refine x_op_fr hR (.inl (Int32.ofNat (B.1.1 l))) ⟨_, rfl⟩ y_wz_per (preC _ ?_ (Or.inr ⟨l, hl, rfl⟩)) f1 (preR _ ?_ (Or.inr ⟨l, hl, rfl⟩)) f2
            · rw [x_feq, e103_49, x_k0 hG, a1, x_cv_s, x_k0 hG1, x_q0_2 hG1, x_der_s, x_k15 hG1, e10, m65w _ hG1 (Or.inr (Or.inr rfl)) hn hl p1, x_cr_s, x_nul_s, x_der_s, x_kl17 hG1 hl5, (m1 l hl).2]
            · rw [x_feq, e199_51, x_k78 hG1, a2, x_ci_s, if_neg (show ¬ Int32.ofNat (10 + l) = 0 from ne 0 (by omega)), if_neg (show ¬ Int32.ofNat (10 + l) = 1 from ne 1 (by omega)), if_neg (show ¬ Int32.ofNat (10 + l) = 2 from ne 2 (by omega)), x_k78 hG2, x_q78_49 hG2, x_der_s, x_k97 hG2, e10, x_i5 hl5, x_n5 hl5, q0 l hl]
          · refine fin (-7) ?_ ?_
            · rw [r103, e103_0, m126, x_ci_s, x_b1_1 c1, if_neg one, m126, x_ci_s, x_b1_1 c2, if_neg one, m126, x_ci_s, x_b1_0 c3, if_pos rfl, x_k0 hG, x_q0_0 hG, x_der_s, x_k1 hG, m65_out _ hG (y_m10 hn c4) l2, x_cr_s, x_nul_n]
            · rw [r199, e199_0, m133, x_ci_s, x_b1_1 c1, if_neg one, m133, x_ci_s, x_b1_1 c2, if_neg one, m133, x_ci_s, x_b1_0 c3, if_pos rfl, x_k78 hG, m133, x_ci_s, l1, x_b1_0 c4, if_pos rfl]
      · refine fin (-2) ?_ ?_
        · rw [r103, e103_0, m126, x_ci_s, x_b1_1 c1, if_neg one, m126, x_ci_s, x_b1_0 c2, if_pos rfl]
        · rw [r199, e199_0, m133, x_ci_s, x_b1_1 c1, if_neg one, m133, x_ci_s, x_b1_0 c2, if_pos rfl]
    · refine fin (-2) ?_ ?_
      · rw [r103, e103_0, m126, x_ci_s, x_b1_0 c1, if_pos rfl]
      · rw [r199, e199_0, m133, x_ci_s, x_b1_0 c1, if_pos rfl]
