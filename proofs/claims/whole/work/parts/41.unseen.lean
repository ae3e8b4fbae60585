/-! none, unseen -/
def y_non (v e : Int32) : Nat → Nat → Int32
  | _, 0 => -1
  | i, m + 1 => if e < x_prt v (Int32.ofNat i) 0 then y_non v e (i + 1) m else Int32.ofNat i
theorem l94 (d : Nat) {σ : xS} (hG : x_G σ) {l : Nat} (hl : l < 5) (v : Int32) : ∀ q i, i + q = 10 → 1 ≤ i → x_f (d + 1) 94 32 [none, none, some (.inl v), some (.inr (.inr (some (3 + l)))), some (.inl (Int32.ofNat i))] [] σ = some (some (.inl (y_non v (x_I σ (3 + l) 3) i q)), σ)
  | 0, i, hi, h1 => by
    rw [x_feq, e94_32, if_pos (show (9 : Int32) < Int32.ofNat (i) from Int32.not_le.mp (fun h => absurd ((x_le (b := 9) (by omega) (by omega)).mp h) (by omega)))]
    rfl
  | q + 1, i, hi, h1 => by
    rw [x_feq, e94_32, if_neg (show ¬ (9 : Int32) < Int32.ofNat (i) from Int32.not_lt.mpr ((x_le (b := 9) (by omega) (by omega)).mpr (by omega))), m123 _ _ _ _ h1 (by omega), x_ci_s, x_der_s, x_kl3 hG hl, x_s1, l94 d hG hl v q (i + 1) (by omega) (by omega)]
    show _ = (some (some (Sum.inl (if x_I σ (3 + l) 3 < x_prt v (Int32.ofNat i) 0 then y_non v (x_I σ (3 + l) 3) (i + 1) q else Int32.ofNat i)), σ) : Option xR)
    split <;> rfl
theorem l179 (d : Nat) {σ : xS} (hG : x_G σ) {l : Nat} (hl : l < 5) (v : Int32) : ∀ q i, i + q = 10 → 1 ≤ i → x_f (d + 1) 179 26 [some (.inr (.inr (some 78))), some (.inl (Int32.ofNat l)), some (.inl v), some (.inl (Int32.ofNat i))] [] σ = some (some (.inl (y_non v (x_I σ 81 (6 * l + 1)) i q)), σ)
  | 0, i, hi, h1 => by
    rw [x_feq, e179_26, if_pos (show (10 : Int32) ≤ Int32.ofNat (i) from (x_le (a := 10) (by omega) (by omega)).mpr (by omega))]
    rfl
  | q + 1, i, hi, h1 => by
    rw [x_feq, e179_26, if_neg (show ¬ (10 : Int32) ≤ Int32.ofNat (i) from fun h => absurd ((x_le (a := 10) (by omega) (by omega)).mp h) (by omega)), m176 _ _ _ _ h1 (by omega), x_ci_s, x_k78 hG, x_q78_3 hG, x_der_s, x_k81 hG, x_6i1 hl, x_6n1 hl, x_s1, l179 d hG hl v q (i + 1) (by omega) (by omega)]
    show _ = (some (some (Sum.inl (if x_I σ 81 (6 * l + 1) < x_prt v (Int32.ofNat i) 0 then y_non v (x_I σ 81 (6 * l + 1)) (i + 1) q else Int32.ofNat i)), σ) : Option xR)
    split <;> rfl
theorem x_op_none (D : Nat) : ∀ (σ : xS) (as : List Int32), as.length = 2 → x_R σ → x_stp (D + 3) x_R false 94 179 as σ := by
  intro σ as hl hR
  match as, hl with
  | [i1, i2], _ =>
    obtain ⟨hG, n, t, z, hP⟩ := id hR
    obtain ⟨hn, ht, hz, ⟨l1, l2⟩, ⟨t1, t2⟩, -, -, hli, -⟩ := id hP
    have one : ¬ (1 : Int32) = 0 := by decide
    have fin : ∀ v : Int32, x_run (D + 3) 94 [.inr (.inr (some 0)), .inl i1, .inl i2] σ = some (some (.inl v), σ) → x_run (D + 3) 179 [.inr (.inr (some 78)), .inl i1, .inl i2] σ = some (some (.inl v), σ) → x_stp (D + 3) x_R false 94 179 [i1, i2] σ := fun v e1 e2 => x_op_eq hR (.inl v) ⟨v, rfl⟩ e1 e2
    rcases x_split hn i1 with ⟨l, hl, rfl⟩ | ho
    · by_cases c2 : 0 ≤ i2 ∧ i2 ≤ 99999
      · have d2 : x_b1 (0 ≤ i2 ∧ i2 ≤ 99999) = 1 := if_pos c2
        have e1 : x_I σ (3 + l) 3 = x_I σ 81 (6 * l + 1) := (hli l hl).1.1 1 (by omega)
        refine fin (y_non i2 (x_I σ 81 (6 * l + 1)) 1 9) ?_ ?_
        · have h := l94 (D + 1) hG (show l < 5 by omega) i2 9 1 (by omega) (by omega)
          rw [e1] at h
          rw [r94, e94_0, x_k0 hG, x_q0_0 hG, x_der_s, x_k1 hG, m65_in _ hG hn hl l2, x_cr_s, x_nul_s, m126, x_ci_s, d2, if_neg one]
          exact h
        · have h := l179 (D + 1) hG (show l < 5 by omega) i2 9 1 (by omega) (by omega)
          rw [r179, e179_0, x_k78 hG, m135_in _ hG hn hl l1, x_ci_s, if_neg one, m133, x_ci_s, d2, if_neg one]
          exact h
      · have d2 : x_b1 (0 ≤ i2 ∧ i2 ≤ 99999) = 0 := if_neg c2
        refine fin (-7) ?_ ?_
        · rw [r94, e94_0, x_k0 hG, x_q0_0 hG, x_der_s, x_k1 hG, m65_in _ hG hn hl l2, x_cr_s, x_nul_s, m126, x_ci_s, d2, if_pos rfl]
        · rw [r179, e179_0, x_k78 hG, m135_in _ hG hn hl l1, x_ci_s, if_neg one, m133, x_ci_s, d2, if_pos rfl]
    · refine fin (-5) ?_ ?_
      · rw [r94, e94_0, x_k0 hG, x_q0_0 hG, x_der_s, x_k1 hG, m65_out _ hG ho l2, x_cr_s, x_nul_n]
      · rw [r179, e179_0, x_k78 hG, m135_out _ hG hn ho l1, x_ci_s, if_pos rfl]
theorem y_cmp {S : Int32} (h : x_bd S 0 100) : (100 - S).toInt64 = Int64.ofNat (100 - S.toNatClampNeg) := by
  obtain ⟨s, hs, rfl⟩ := x_bd_of (n := 100) (by omega) h rfl
  rw [show (100 : Int32) = Int32.ofNat 100 from rfl, x_sb hs (by omega), x_to64 (by omega), x_tn (by omega)]
theorem y_it_le {g : Nat → Nat} (hg : ∀ i, g i ≤ 100) : ∀ m i A B, A ≤ B → x_it (fun i A => A * g i) i m A ≤ B * 100 ^ m
  | 0, i, A, B, h => by show A ≤ B * 1; omega
  | m + 1, i, A, B, h => by
    have h2 := y_it_le hg m (i + 1) (A * g i) (B * 100) (Nat.mul_le_mul h (hg i))
    rw [Nat.pow_succ, Nat.mul_comm (100 ^ m) 100, ← Nat.mul_assoc]
    exact h2
def y_ug (p : Nat → List Int32) (k m e s u y v : Int32) (c i : Nat) : Nat := 100 - (x_S p k m e s y u (x_prt v (Int32.ofNat c) (Int32.ofNat i))).toNatClampNeg
theorem y_ug_le (p : Nat → List Int32) (k m e s u y v : Int32) (c i : Nat) : y_ug p k m e s u y v c i ≤ 100 := Nat.sub_le _ _
theorem y_h64 (B : Nat) : Int64.ofNat B * 100 = Int64.ofNat (B * 100) := by
  rw [show (100 : Int64) = Int64.ofNat 100 from rfl, ← Int64.ofNat_mul]
theorem l95 (d : Nat) {n t l r : Nat} {o : Nat → Nat} {p : Nat → List Int32} {y k m e s u v : Int32} (hn : n ≤ 5) (ht : t ≤ 6) {c : Nat} (hc : 1 ≤ c) (hc9 : c ≤ 9) (q4 : Int32) : ∀ q i A B σ, i + q = c → x_G σ → y_lf n t σ l r o p y k m e s u → ∃ τ, x_f (d + 4) 95 62 [some (.inr (.inr (some 0))), none, some (.inl v), some (.inl (Int32.ofNat c)), some (.inl q4), some (.inr (.inr (some (3 + l)))), some (.inr (.inl (Int64.ofNat A))), none, some (.inr (.inl (Int64.ofNat B))), none, some (.inl (Int32.ofNat i))] [] σ = x_cl (x_run (d + 4) 131 [.inr (.inl (Int64.ofNat (x_it (fun i A => A * y_ug p k m e s u y v c i) i q A))), .inr (.inl (Int64.ofNat (B * 100 ^ q))), .inl q4] τ) (fun y2 σ1 => some (some (.inr (.inl y2)), σ1)) ∧ x_fr x_wt x_w0 σ τ
  | 0, i, A, B, σ, hi, hG, hf => by
    refine ⟨σ, ?_, x_fr.refl _ _ _⟩
    rw [x_feq, e95_62, if_pos ((x_le (by omega) (by omega)).mpr (by omega)), show B * 100 ^ 0 = B from Nat.mul_one B]
    rfl
  | q + 1, i, A, B, σ, hi, hG, hf => by
    obtain ⟨hl, hr, hv, e13, e6, y1, y2, hcl, hrl, ⟨n7, n1, n0⟩, -⟩ := id hf
    have hl5 : l < 5 := by omega
    obtain ⟨σ1, a1, f1⟩ := c19 d hG (show r < 6 by omega) hv (x_kl hl5) hcl y (x_prt v (Int32.ofNat c) (Int32.ofNat i))
    have hG1 := f1.G hG
    have hf1 := hf.fr hn ht f1
    obtain ⟨τ, a2, f2⟩ := l95 d hn ht hc hc9 q4 q (i + 1) (A * y_ug p k m e s u y v c i) (B * 100) σ1 (by omega) hG1 hf1
    refine ⟨τ, ?_, f1.trans f2⟩
    rw [x_feq, e95_62, if_neg (fun h => absurd ((x_le (by omega) (by omega)).mp h) (by omega)), x_k0 hG, m120 _ hG ht hr n7 e6, x_cr_s, x_k0 hG, x_q0_0 hG, x_der_s, x_k1 hG, m123 _ _ _ _ hc hc9, x_ci_s, x_der_s, x_kl3 hG hl5, y2, a1, x_ci_s, x_s1, y_cmp (x_S_b _ _ _ _ _ _ _ _), ← Int64.ofNat_mul, y_h64]
    refine Eq.trans a2 ?_
    rw [Nat.mul_assoc, show 100 * 100 ^ q = 100 ^ (q + 1) from by rw [Nat.pow_succ, Nat.mul_comm]]
    rfl
theorem l180 (d : Nat) {n t l r : Nat} {o : Nat → Nat} {p : Nat → List Int32} {y k m e s u v : Int32} (hn : n ≤ 5) (ht : t ≤ 6) {c : Nat} (hc : 1 ≤ c) (hc9 : c ≤ 9) (q4 : Int32) : ∀ q i A B σ, i + q = c → x_G σ → y_lf n t σ l r o p y k m e s u → ∃ τ, x_f (d + 4) 180 51 [some (.inr (.inr (some 78))), some (.inl (Int32.ofNat l)), some (.inl v), some (.inl (Int32.ofNat c)), some (.inl q4), some (.inr (.inl (Int64.ofNat A))), none, some (.inr (.inl (Int64.ofNat B))), none, some (.inl (Int32.ofNat i))] [] σ = x_cl (x_run (d + 4) 168 [.inr (.inl (Int64.ofNat (x_it (fun i A => A * y_ug p k m e s u y v c i) i q A))), .inr (.inl (Int64.ofNat (B * 100 ^ q))), .inl q4] τ) (fun y2 σ1 => some (some (.inr (.inl y2)), σ1)) ∧ x_fr x_wt x_w0 σ τ
  | 0, i, A, B, σ, hi, hG, hf => by
    refine ⟨σ, ?_, x_fr.refl _ _ _⟩
    rw [x_feq, e180_51, if_pos ((x_le (by omega) (by omega)).mpr (by omega)), show B * 100 ^ 0 = B from Nat.mul_one B]
    rfl
  | q + 1, i, A, B, σ, hi, hG, hf => by
    obtain ⟨hl, hr, hv, e13, e6, y1, y2, hcl, hrl, -⟩ := id hf
    have hl5 : l < 5 := by omega
    obtain ⟨σ1, a1, f1⟩ := c162 d hG (show r < 6 by omega) hv e13 hl5 hrl y1 (x_prt v (Int32.ofNat c) (Int32.ofNat i))
    have hG1 := f1.G hG
    have hf1 := hf.fr hn ht f1
    obtain ⟨τ, a2, f2⟩ := l180 d hn ht hc hc9 q4 q (i + 1) (A * y_ug p k m e s u y v c i) (B * 100) σ1 (by omega) hG1 hf1
    refine ⟨τ, ?_, f1.trans f2⟩
    rw [x_feq, e180_51, if_neg (fun h => absurd ((x_le (by omega) (by omega)).mp h) (by omega)), m176 _ _ _ _ hc hc9, x_ci_s, x_k78 hG, a1, x_ci_s, x_s1, y_cmp (x_S_b _ _ _ _ _ _ _ _), ← Int64.ofNat_mul, y_h64]
    refine Eq.trans a2 ?_
    rw [Nat.mul_assoc, show 100 * 100 ^ q = 100 ^ (q + 1) from by rw [Nat.pow_succ, Nat.mul_comm]]
    rfl
theorem y_p100 {c : Nat} (h : c ≤ 9) : 0 < 100 ^ c ∧ 100 ^ c < 2 ^ 63 := ⟨Nat.pow_pos (by omega), Nat.lt_of_le_of_lt (Nat.pow_le_pow_right (by omega) h) (by decide)⟩
theorem y_r19 {c : Nat} (hc : 1 ≤ c) (hc9 : c ≤ 9) : (1 : Int32) ≤ Int32.ofNat c ∧ Int32.ofNat c ≤ 9 := ⟨(x_le (a := 1) (by omega) (by omega)).mpr hc, (x_le (b := 9) (by omega) (by omega)).mpr hc9⟩
theorem y_not19 {i : Int32} (h : i < 0 ∨ Int32.ofNat 10 ≤ i) : ¬ ((1 : Int32) ≤ i ∧ i ≤ 9) := fun g => x_ltk (n := 9) (by omega) h ⟨Int32.le_trans (by decide) g.1, g.2⟩
theorem y_part {i : Int32} (h : 0 ≤ i ∧ i ≤ 1) : ∃ q, q < 2 ∧ i = Int32.ofNat q := by
  obtain ⟨q, hq, e⟩ := x_bd_of (n := 1) (by omega) h rfl
  exact ⟨q, by omega, e⟩
theorem x_op_unseen (D : Nat) : ∀ (σ : xS) (as : List Int32), as.length = 4 → x_R σ → x_stp (D + 5) x_R true 95 180 as σ := by
  intro σ as hl hR
  match as, hl with
  | [i1, i2, i3, i4], _ =>
    obtain ⟨hG, n, t, z, hP⟩ := id hR
    obtain ⟨hn, ht, hz, ⟨l1, l2⟩, ⟨t1, t2⟩, -⟩ := id hP
    have one : ¬ (1 : Int32) = 0 := by decide
    have fin : x_run (D + 5) 95 [.inr (.inr (some 0)), .inl i1, .inl i2, .inl i3, .inl i4] σ = some (some (.inr (.inl (-4611686018427387904))), σ) → x_run (D + 5) 180 [.inr (.inr (some 78)), .inl i1, .inl i2, .inl i3, .inl i4] σ = some (some (.inr (.inl (-4611686018427387904))), σ) → x_stp (D + 5) x_R true 95 180 [i1, i2, i3, i4] σ := fun e1 e2 => x_op_eq hR (.inr (.inl _)) ⟨_, rfl⟩ e1 e2
    rcases x_split hn i1 with ⟨l, hl, rfl⟩ | ho
    · by_cases c2 : 0 ≤ i2 ∧ i2 ≤ 99999
      · have d2 : x_b1 (0 ≤ i2 ∧ i2 ≤ 99999) = 1 := if_pos c2
        by_cases c3 : 1 ≤ i3 ∧ i3 ≤ 9
        · have d3 : x_b1 (1 ≤ i3 ∧ i3 ≤ 9) = 1 := if_pos c3
          by_cases c4 : 0 ≤ i4 ∧ i4 ≤ 1
          · have d4 : x_b1 (0 ≤ i4 ∧ i4 ≤ 1) = 1 := if_pos c4
            obtain ⟨c, hc9, rfl⟩ := x_bd_of (n := 9) (by omega) ⟨Int32.le_trans (by decide) c3.1, c3.2⟩ rfl
            have hc : 1 ≤ c := (x_le (a := 1) (by omega) (by omega)).mp c3.1
            obtain ⟨q, hq, rfl⟩ := y_part c4
            obtain ⟨r, o, p, y, k, m, e, s, u, hf⟩ := y_lf_of hP hl
            obtain ⟨σ1, a1, f1⟩ := l95 D (v := i2) hn ht.2 hc hc9 (Int32.ofNat q) c 0 1 1 σ (by omega) hG hf
            have hG1 := f1.G hG
            have hf1 := hf.fr hn ht.2 f1
            obtain ⟨σ2, a2, f2⟩ := l180 D (v := i2) hn ht.2 hc hc9 (Int32.ofNat q) c 0 1 1 σ1 (by omega) hG1 hf1
            have hb := y_p100 hc9
            have ha := y_it_le (y_ug_le p k m e s u y i2 c) c 0 1 1 (Nat.le_refl 1)
            rw [Nat.one_mul] at ha a1 a2
            obtain ⟨v, v1, v2⟩ := x_low (D + 3) (D + 3) (a := x_it (fun i A => A * y_ug p k m e s u y i2 c i) 0 c 1) (b := 100 ^ c) (q := q) (Nat.lt_of_le_of_lt ha hb.2) hb.2 hb.1 hq
            rw [v1, x_cl_s] at a1
            rw [v2, x_cl_s] at a2
            refine x_op_fr hR _ ⟨_, rfl⟩ x_wt_per (Eq.trans ?_ a1) f1 (Eq.trans ?_ a2) f2
            · show x_run (D + 5) 95 [.inr (.inr (some 0)), .inl (Int32.ofNat l), .inl i2, .inl (Int32.ofNat c), .inl (Int32.ofNat q)] σ = _
              rw [r95, e95_0, x_k0 hG, x_q0_0 hG, x_der_s, x_k1 hG, m65_in _ hG hn hl l2, x_cr_s, x_nul_s, m126, x_ci_s, d2, if_neg one, m126, x_ci_s, d3, if_neg one, m126, x_ci_s, d4, if_neg one]
              rfl
            · show x_run (D + 5) 180 [.inr (.inr (some 78)), .inl (Int32.ofNat l), .inl i2, .inl (Int32.ofNat c), .inl (Int32.ofNat q)] σ1 = _
              rw [r180, e180_0, x_k78 hG1, m135_in _ hG1 hn hl ((f1.I (x_wt_o (by omega) _)).trans l1), x_ci_s, if_neg one, m133, x_ci_s, d2, if_neg one, m133, x_ci_s, d3, if_neg one, m133, x_ci_s, d4, if_neg one]
              rfl
          · have d4 : x_b1 (0 ≤ i4 ∧ i4 ≤ 1) = 0 := if_neg c4
            refine fin ?_ ?_
            · rw [r95, e95_0, x_k0 hG, x_q0_0 hG, x_der_s, x_k1 hG, m65_in _ hG hn hl l2, x_cr_s, x_nul_s, m126, x_ci_s, d2, if_neg one, m126, x_ci_s, d3, if_neg one, m126, x_ci_s, d4, if_pos rfl]
            · rw [r180, e180_0, x_k78 hG, m135_in _ hG hn hl l1, x_ci_s, if_neg one, m133, x_ci_s, d2, if_neg one, m133, x_ci_s, d3, if_neg one, m133, x_ci_s, d4, if_pos rfl]
        · have d3 : x_b1 (1 ≤ i3 ∧ i3 ≤ 9) = 0 := if_neg c3
          refine fin ?_ ?_
          · rw [r95, e95_0, x_k0 hG, x_q0_0 hG, x_der_s, x_k1 hG, m65_in _ hG hn hl l2, x_cr_s, x_nul_s, m126, x_ci_s, d2, if_neg one, m126, x_ci_s, d3, if_pos rfl]
          · rw [r180, e180_0, x_k78 hG, m135_in _ hG hn hl l1, x_ci_s, if_neg one, m133, x_ci_s, d2, if_neg one, m133, x_ci_s, d3, if_pos rfl]
      · have d2 : x_b1 (0 ≤ i2 ∧ i2 ≤ 99999) = 0 := if_neg c2
        refine fin ?_ ?_
        · rw [r95, e95_0, x_k0 hG, x_q0_0 hG, x_der_s, x_k1 hG, m65_in _ hG hn hl l2, x_cr_s, x_nul_s, m126, x_ci_s, d2, if_pos rfl]
        · rw [r180, e180_0, x_k78 hG, m135_in _ hG hn hl l1, x_ci_s, if_neg one, m133, x_ci_s, d2, if_pos rfl]
    · refine fin ?_ ?_
      · rw [r95, e95_0, x_k0 hG, x_q0_0 hG, x_der_s, x_k1 hG, m65_out _ hG ho l2, x_cr_s, x_nul_n]
      · rw [r180, e180_0, x_k78 hG, m135_out _ hG hn ho l1, x_ci_s, if_pos rfl]
