/-! odds -/
/-- how many of the seeds make one happy -/
def y_od (n r tx : Nat) (o : Nat → Nat) (p : Nat → List Int32) (K M E S : Nat → Int32) (Y G : Int32) (W U : Nat → Nat) (s N k : Nat) (a : Nat) : Nat := if (x_it (y_yz p K M E S Y G n) 0 N ((W, U, 0, s + k + 1, 0), (-1, -1))).2.1 = -1 then a else a + 1
theorem y_od_le (n r tx : Nat) (o : Nat → Nat) (p : Nat → List Int32) (K M E S : Nat → Int32) (Y G : Int32) (W U : Nat → Nat) (s N : Nat) : ∀ q k a, x_it (y_od n r tx o p K M E S Y G W U s N) k q a ≤ a + q
  | 0, k, a => Nat.le_refl _
  | q + 1, k, a => by
    have h := y_od_le n r tx o p K M E S Y G W U s N q (k + 1) (y_od n r tx o p K M E S Y G W U s N k a)
    have h2 : y_od n r tx o p K M E S Y G W U s N k a ≤ a + 1 := by unfold y_od; split <;> omega
    show x_it (y_od n r tx o p K M E S Y G W U s N) (k + 1) q (y_od n r tx o p K M E S Y G W U s N k a) ≤ _
    omega
theorem l104 (d : Nat) (n r tx : Nat) (o : Nat → Nat) (p : Nat → List Int32) (K M E S : Nat → Int32) (Y G : Int32) (W U : Nat → Nat) (hn : n ≤ 5) (ht : tx ≤ 6) (hr : r < tx) (fx : y_fx n M E S) {N C : Nat} (hN : N ≤ 40) (hC : C < 100) {s : Nat} (hs : s ≤ 99999) (hb : ∀ l, l < n → W l ≤ 99999 ∧ U l ≤ 99) (i3 : Int32) : ∀ q k a σ, k + q = C → y_ca n r tx o p K M E S Y G W U σ → ∃ τ, x_f (d + 6) 104 61 [some (.inr (.inr (some 0))), some (.inl (Int32.ofNat s)), some (.inl (Int32.ofNat (100 * N + C))), some (.inl i3), some (.inl (Int32.ofNat C)), some (.inl (Int32.ofNat a)), some (.inl (Int32.ofNat k))] [] σ = (x_cl (x_run (d + 6) 131 [.inr (.inl (Int32.ofNat (x_it (y_od n r tx o p K M E S Y G W U s N) k q a)).toInt64), .inr (.inl (Int32.ofNat C).toInt64), .inl i3] τ) fun y2 σ1 => (some (some (.inr (.inl y2)), σ1))) ∧ x_fr y_wz y_vt σ τ
  | 0, k, a, σ, hi, h => by
    refine ⟨σ, ?_, x_fr.refl _ _ _⟩
    rw [x_feq, e104_61, if_pos ((x_le (by omega) (by omega)).mpr (by omega))]
    rfl
  | q + 1, k, a, σ, hi, h => by
    obtain ⟨σ1, a1, f1, p8, -⟩ := m125 d n r tx o p K M E S Y G W U hn ht hr fx (N := N) hN (s := s + k) (by omega) 1 hb h
    have hG := h.1
    have hG1 := f1.G hG
    obtain ⟨τ, a2, f2⟩ := l104 d n r tx o p K M E S Y G W U hn ht hr fx hN hC hs hb i3 q (k + 1) (y_od n r tx o p K M E S Y G W U s N k a) σ1 (by omega) (h.fr n r tx o p K M E S Y G W U hn (by omega) f1)
    have dv : Int32.ofNat (100 * N + C) / 100 = Int32.ofNat N := by
      rw [show (100 : Int32) = Int32.ofNat 100 from rfl, x_dv (by omega) (by omega), show (100 * N + C) / 100 = N by omega]
    refine ⟨τ, ?_, f1.trans f2⟩
    refine Eq.trans ?_ a2
    rw [x_feq, e104_61, if_neg (fun h => absurd ((x_le (by omega) (by omega)).mp h) (by omega)), x_k0 hG, dv, ← Int32.ofNat_add, a1, x_cv_s, x_k0 hG1, x_q0_2 hG1, x_der_s, x_k15 hG1, p8, x_s1, x_s1]
    unfold y_od
    split <;> rfl
theorem l200 (d : Nat) (n r tx : Nat) (o : Nat → Nat) (p : Nat → List Int32) (K M E S : Nat → Int32) (Y G : Int32) (W U : Nat → Nat) (hn : n ≤ 5) (hr : r < 6) (fx : y_fx n M E S) {N C : Nat} (hN : N ≤ 40) (hC : C < 100) {s : Nat} (hs : s ≤ 99999) (hb : ∀ l, l < n → W l ≤ 99999 ∧ U l ≤ 99) (i3 : Int32) : ∀ q k a σ, k + q = C → y_ra n r tx o p K M E S Y G W U σ → ∃ τ, x_f (d + 6) 200 65 [some (.inr (.inr (some 78))), some (.inl (Int32.ofNat s)), some (.inl (Int32.ofNat (100 * N + C))), some (.inl i3), none, some (.inr (.inl (Int64.ofNat a))), none, some (.inl (Int32.ofNat k))] [] σ = (x_cl (x_run (d + 6) 168 [.inr (.inl (Int64.ofNat (x_it (y_od n r tx o p K M E S Y G W U s N) k q a))), .inr (.inl (Int32.ofNat C).toInt64), .inl i3] τ) fun y2 σ1 => (some (some (.inr (.inl y2)), σ1))) ∧ x_fr y_wz y_vt σ τ
  | 0, k, a, σ, hi, h => by
    have md : Int32.ofNat (100 * N + C) - Int32.ofNat (100 * N + C) / 100 * 100 = Int32.ofNat C := by
      rw [show (100 : Int32) = Int32.ofNat 100 from rfl, x_md (by omega) (by omega), show (100 * N + C) % 100 = C by omega]
    refine ⟨σ, ?_, x_fr.refl _ _ _⟩
    rw [x_feq, e200_65, md, if_pos ((x_le (by omega) (by omega)).mpr (by omega))]
    rfl
  | q + 1, k, a, σ, hi, h => by
    obtain ⟨σ1, a1, f1, p8, -⟩ := m198' d n r tx o p K M E S Y G W U hn hr fx (N := N) (by omega) (s := s + k) (by omega) hb h
    have hG := h.1
    have hG1 := f1.G hG
    obtain ⟨τ, a2, f2⟩ := l200 d n r tx o p K M E S Y G W U hn hr fx hN hC hs hb i3 q (k + 1) (y_od n r tx o p K M E S Y G W U s N k a) σ1 (by omega) (h.fr n r tx o p K M E S Y G W U hr f1)
    have dv : Int32.ofNat (100 * N + C) / 100 = Int32.ofNat N := by
      rw [show (100 : Int32) = Int32.ofNat 100 from rfl, x_dv (by omega) (by omega), show (100 * N + C) / 100 = N by omega]
    have md : Int32.ofNat (100 * N + C) - Int32.ofNat (100 * N + C) / 100 * 100 = Int32.ofNat C := by
      rw [show (100 : Int32) = Int32.ofNat 100 from rfl, x_md (by omega) (by omega), show (100 * N + C) % 100 = C by omega]
    refine ⟨τ, ?_, f1.trans f2⟩
    refine Eq.trans ?_ a2
    rw [x_feq, e200_65, md, if_neg (fun h => absurd ((x_le (by omega) (by omega)).mp h) (by omega)), x_k78 hG, dv, ← Int32.ofNat_add, a1, x_ci_s, x_k78 hG1, p8, x_s1]
    unfold y_od
    split
    · rw [Int64.add_zero]
    · rw [show (1 : Int64) = Int64.ofNat 1 from rfl, ← Int64.ofNat_add]
theorem x_op_odds (D : Nat) : ∀ (σ : xS) (as : List Int32), as.length = 3 → x_R σ → x_stp (D + 7) x_R true 104 200 as σ := by
  intro σ as hl hR
  match as, hl with
  | [i1, i2, i3], _ =>
    obtain ⟨hG, n, t, z, hP⟩ := id hR
    obtain ⟨hn, ht, hz, ⟨l1, l2⟩, ⟨t1, t2⟩, -⟩ := id hP
    have one : ¬ (1 : Int32) = 0 := by decide
    have z0 : (0 : Int32) = 0 := rfl
    have fin : ∀ w : Int64, x_run (D + 7) 104 [.inr (.inr (some 0)), .inl i1, .inl i2, .inl i3] σ = some (some (.inr (.inl w)), σ) → x_run (D + 7) 200 [.inr (.inr (some 78)), .inl i1, .inl i2, .inl i3] σ = some (some (.inr (.inl w)), σ) → x_stp (D + 7) x_R true 104 200 [i1, i2, i3] σ := fun w e1 e2 => x_op_eq hR (.inr (.inl w)) ⟨w, rfl⟩ e1 e2
    by_cases c1 : 0 ≤ i1 ∧ i1 ≤ 99999
    · obtain ⟨s, hs, rfl⟩ := x_bd_of (n := 99999) (by omega) c1 rfl
      by_cases c2 : 0 ≤ i2 ∧ i2 ≤ 4099
      · obtain ⟨P, hP', rfl⟩ := x_bd_of (n := 4099) (by omega) c2 rfl
        have md : Int32.ofNat P - Int32.ofNat P / 100 * 100 = Int32.ofNat (P % 100) := by
          rw [show (100 : Int32) = Int32.ofNat 100 from rfl, x_md (by omega) (by omega)]
        by_cases c3 : 1 ≤ P % 100 ∧ P % 100 ≤ 50
        · have c3' : 1 ≤ Int32.ofNat (P % 100) ∧ Int32.ofNat (P % 100) ≤ 50 := ⟨(x_le (a := 1) (by omega) (by omega)).mpr c3.1, (x_le (b := 50) (by omega) (by omega)).mpr c3.2⟩
          have c2' : 0 ≤ Int32.ofNat P ∧ Int32.ofNat P ≤ 4050 := ⟨c2.1, (x_le (b := 4050) (by omega) (by omega)).mpr (by omega)⟩
          by_cases c4 : 0 ≤ i3 ∧ i3 ≤ 1
          · obtain ⟨q, hq, rfl⟩ := x_bd_of (n := 1) (by omega) c4 rfl
            obtain ⟨r, o, p, K, M, E, S, W, U, hr, wu, fx, ca, ra⟩ := y_car hG hP
            have eP : 100 * (P / 100) + P % 100 = P := by omega
            obtain ⟨σ1, a1, f1⟩ := l104 D n r t o p K M E S (x_I σ 78 4) (x_I σ 78 6) W U hn ht.2 hr fx (N := P / 100) (C := P % 100) (by omega) (by omega) (s := s) hs wu (Int32.ofNat q) (P % 100) 0 0 σ (by omega) ca
            obtain ⟨τ, a2, f2⟩ := l200 D n r t o p K M E S (x_I σ 78 4) (x_I σ 78 6) W U hn (by omega) fx (N := P / 100) (C := P % 100) (by omega) (by omega) (s := s) hs wu (Int32.ofNat q) (P % 100) 0 0 σ1 (by omega) (ra.fr n r t o p K M E S (x_I σ 78 4) (x_I σ 78 6) W U (by omega) f1)
            have le := y_od_le n r t o p K M E S (x_I σ 78 4) (x_I σ 78 6) W U s (P / 100) (P % 100) 0 0
            rw [eP] at a1 a2
            generalize x_it (y_od n r t o p K M E S (x_I σ 78 4) (x_I σ 78 6) W U s (P / 100)) 0 (P % 100) 0 = A at *
            obtain ⟨v, v1, v2⟩ := x_low (D + 5) (D + 5) (a := A) (b := P % 100) (by omega) (by omega) (by omega) (q := q) (by omega)
            rw [x_to64 (by omega), x_to64 (by omega), v1, x_cl_s] at a1
            rw [x_to64 (by omega), v2, x_cl_s] at a2
            refine x_op_fr hR (.inr (.inl v)) ⟨_, rfl⟩ y_wz_per ?_ f1 ?_ f2
            · show x_run (D + 7) 104 [.inr (.inr (some 0)), .inl (Int32.ofNat s), .inl (Int32.ofNat P), .inl (Int32.ofNat q)] σ = _
              rw [r104, e104_0, m126, x_ci_s, x_b1_1 c1, if_neg one, m126, x_ci_s, x_b1_1 c2, if_neg one, md, m126, x_ci_s, x_b1_1 c3', if_neg one, m126, x_ci_s, x_b1_1 c4, if_neg one]
              exact a1
            · show x_run (D + 7) 200 [.inr (.inr (some 78)), .inl (Int32.ofNat s), .inl (Int32.ofNat P), .inl (Int32.ofNat q)] σ1 = _
              rw [r200, e200_0, m133, x_ci_s, x_b1_1 c1, if_neg one, m133, x_ci_s, x_b1_1 c2', if_neg one, md, m133, x_ci_s, x_b1_1 c3', if_neg one, m133, x_ci_s, x_b1_1 c4, if_neg one, if_neg one]
              exact a2
          · refine fin (-4611686018427387904) ?_ ?_
            · rw [r104, e104_0, m126, x_ci_s, x_b1_1 c1, if_neg one, m126, x_ci_s, x_b1_1 c2, if_neg one, md, m126, x_ci_s, x_b1_1 c3', if_neg one, m126, x_ci_s, x_b1_0 c4, if_pos rfl]
            · rw [r200, e200_0, m133, x_ci_s, x_b1_1 c1, if_neg one, m133, x_ci_s, x_b1_1 c2', if_neg one, md, m133, x_ci_s, x_b1_1 c3', if_neg one, m133, x_ci_s, x_b1_0 c4, if_pos z0, if_pos z0]
        · have c3' : ¬ (1 ≤ Int32.ofNat (P % 100) ∧ Int32.ofNat (P % 100) ≤ 50) := fun h => c3 ⟨(x_le (a := 1) (by omega) (by omega)).mp h.1, (x_le (b := 50) (by omega) (by omega)).mp h.2⟩
          refine fin (-4611686018427387904) ?_ ?_
          · rw [r104, e104_0, m126, x_ci_s, x_b1_1 c1, if_neg one, m126, x_ci_s, x_b1_1 c2, if_neg one, md, m126, x_ci_s, x_b1_0 c3', if_pos z0]
          · rw [r200, e200_0, m133, x_ci_s, x_b1_1 c1, if_neg one, m133, x_ci_s, md]
            by_cases c2' : 0 ≤ Int32.ofNat P ∧ Int32.ofNat P ≤ 4050
            · rw [x_b1_1 c2', if_neg one, m133, x_ci_s, x_b1_0 c3', if_pos z0, if_pos z0]
            · rw [x_b1_0 c2', if_pos z0, if_pos z0]
      · have c2' : ¬ (0 ≤ i2 ∧ i2 ≤ 4050) := fun h => c2 ⟨h.1, Int32.le_trans h.2 (by decide)⟩
        refine fin (-4611686018427387904) ?_ ?_
        · rw [r104, e104_0, m126, x_ci_s, x_b1_1 c1, if_neg one, m126, x_ci_s, x_b1_0 c2, if_pos rfl]
        · rw [r200, e200_0, m133, x_ci_s, x_b1_1 c1, if_neg one, m133, x_ci_s, x_b1_0 c2', if_pos z0, if_pos z0]
    · refine fin (-4611686018427387904) ?_ ?_
      · rw [r104, e104_0, m126, x_ci_s, x_b1_0 c1, if_pos rfl]
      · rw [r200, e200_0, m133, x_ci_s, x_b1_0 c1, if_pos z0, if_pos z0]
