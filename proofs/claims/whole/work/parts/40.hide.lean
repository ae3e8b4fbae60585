/-! hidden in parts: hide, none, unseen -/
def x_it {α : Type} (f : Nat → α → α) : Nat → Nat → α → α
  | _, 0, a => a
  | i, m + 1, a => x_it f (i + 1) m (f i a)
def x_prt (v c i : Int32) : Int32 := if v - v / c * c ≤ i then v / c + 0 else v / c + 1
theorem x_prt_b {a c i : Nat} (ha : a ≤ 99999) (hc : 1 ≤ c) (hc9 : c ≤ 9) (hi : i < 100) : x_bd (x_prt (Int32.ofNat a) (Int32.ofNat c) (Int32.ofNat i)) 0 99999 := by
  unfold x_prt
  rw [x_md (by omega) (by omega), x_dv (by omega) (by omega), x_s1, Int32.add_zero]
  have h := Nat.div_le_self a c
  split
  · exact x_bd_k (n := 99999) (by omega) (by omega)
  · rename_i g
    have g2 : i < a % c := Nat.lt_of_not_le (fun h => g ((x_le (by omega) (by omega)).mpr h))
    have h3 := Nat.div_add_mod a c
    have h4 : 1 * (a / c) ≤ c * (a / c) := Nat.mul_le_mul_right _ hc
    exact x_bd_k (n := 99999) (by omega) (by omega)
theorem m123 (d : Nat) (σ : xS) (v i : Int32) {c : Nat} (hc : 1 ≤ c) (hc9 : c ≤ 9) : x_run (d + 1) 123 [.inl v, .inl (Int32.ofNat c), .inl i] σ = some (some (.inl (x_prt v (Int32.ofNat c) i)), σ) := by
  have z : ¬ Int32.ofNat c = 0 := fun h => absurd (x_inj32 (b := 0) (by omega) (by omega) h) (by omega)
  have p : (0 : Int32) < Int32.ofNat c := Int32.not_le.mp (fun h => absurd ((x_le (b := 0) (by omega) (by omega)).mp h) (by omega))
  rw [r123, e123_0, if_pos p, if_neg z, if_neg z]
  unfold x_prt
  split <;> rfl
theorem m176 (d : Nat) (σ : xS) (v i : Int32) {c : Nat} (hc : 1 ≤ c) (hc9 : c ≤ 9) : x_run (d + 1) 176 [.inl v, .inl (Int32.ofNat c), .inl i] σ = some (some (.inl (x_prt v (Int32.ofNat c) i)), σ) := by
  have z : ¬ Int32.ofNat c = 0 := fun h => absurd (x_inj32 (b := 0) (by omega) (by omega) h) (by omega)
  rw [r176, e176_0, if_neg z, if_neg z]
  unfold x_prt
  split <;> rfl
def x_mf (p : Nat → List Int32) (k m e s u y v : Int32) (c i : Nat) (a : Int64) : Int64 := a + (x_S p k m e s y u (x_prt v (Int32.ofNat c) (Int32.ofNat i))).toInt64 * (x_tk e s (x_prt v (Int32.ofNat c) (Int32.ofNat i))).toInt64
theorem l124 (d : Nat) {n t l r : Nat} {o : Nat → Nat} {p : Nat → List Int32} {y k m e s u v : Int32} (hn : n ≤ 5) (ht : t ≤ 6) {c : Nat} (hc : 1 ≤ c) (hc9 : c ≤ 9) : ∀ q i j σ, i + q = c → x_G σ → y_lf n t σ l r o p y k m e s u → ∃ τ, x_f (d + 4) 124 6 [some (.inr (.inr (some 0))), some (.inr (.inr (some (3 + l)))), some (.inl v), some (.inl (Int32.ofNat c)), some (.inr (.inl j)), none, some (.inl (Int32.ofNat i)), none] [] σ = some (some (.inr (.inl (x_it (x_mf p k m e s u y v c) i q j))), τ) ∧ x_fr x_wt x_w0 σ τ
  | 0, i, j, σ, hi, hG, hf => by
    refine ⟨σ, ?_, x_fr.refl _ _ _⟩
    rw [x_feq, e124_6, if_pos ((x_le (by omega) (by omega)).mpr (by omega))]
    rfl
  | q + 1, i, j, σ, hi, hG, hf => by
    obtain ⟨hl, hr, hv, e13, e6, y1, y2, hcl, hrl, ⟨n7, n1, n0⟩, -⟩ := id hf
    have hl5 : l < 5 := by omega
    obtain ⟨σ1, a1, f1⟩ := c19 d hG (show r < 6 by omega) hv (x_kl hl5) hcl y (x_prt v (Int32.ofNat c) (Int32.ofNat i))
    have hG1 := f1.G hG
    have hf1 := hf.fr hn ht f1
    obtain ⟨-, -, -, -, -, -, -, hcl1, -⟩ := id hf1
    obtain ⟨τ, a2, f2⟩ := l124 d hn ht hc hc9 q (i + 1) (x_mf p k m e s u y v c i j) σ1 (by omega) hG1 hf1
    refine ⟨τ, ?_, f1.trans f2⟩
    rw [x_feq, e124_6, if_neg (fun h => absurd ((x_le (by omega) (by omega)).mp h) (by omega)), m123 _ _ _ _ hc hc9, x_ci_s, x_k0 hG, m120 _ hG ht hr n7 e6, x_cr_s, x_k0 hG, x_q0_0 hG, x_der_s, x_k1 hG, x_der_s, x_kl3 hG hl5, y2, a1, x_ci_s, x_der_s, x_kl3 hG1 hl5, c20 _ hG1 (x_kl hl5) hcl1, x_ci_s, x_s1]
    exact a2
theorem m124 (d : Nat) {n t l r : Nat} {o : Nat → Nat} {p : Nat → List Int32} {y k m e s u v : Int32} (hn : n ≤ 5) (ht : t ≤ 6) {c : Nat} (hc : 1 ≤ c) (hc9 : c ≤ 9) {σ : xS} (hG : x_G σ) (hf : y_lf n t σ l r o p y k m e s u) : ∃ τ, x_run (d + 5) 124 [.inr (.inr (some 0)), .inr (.inr (some (3 + l))), .inl v, .inl (Int32.ofNat c)] σ = some (some (.inr (.inl (x_it (x_mf p k m e s u y v c) 0 c 0))), τ) ∧ x_fr x_wt x_w0 σ τ := by
  obtain ⟨τ, a, f⟩ := l124 d (v := v) hn ht hc hc9 c 0 0 σ (by omega) hG hf
  refine ⟨τ, ?_, f⟩
  rw [r124, e124_0]
  exact a
theorem l177 (d : Nat) {n t l r : Nat} {o : Nat → Nat} {p : Nat → List Int32} {y k m e s u : Int32} (hn : n ≤ 5) (ht : t ≤ 6) {w c : Nat} (hw : w ≤ 99999) (hc : 1 ≤ c) (hc9 : c ≤ 9) : ∀ q i j σ, i + q = c → x_G σ → y_lf n t σ l r o p y k m e s u → ∃ τ, x_f (d + 4) 177 6 [some (.inr (.inr (some 78))), some (.inl (Int32.ofNat l)), some (.inl (Int32.ofNat w)), some (.inl (Int32.ofNat c)), some (.inr (.inl j)), none, some (.inl (Int32.ofNat i)), none] [] σ = some (some (.inr (.inl (x_it (x_mf p k m e s u y (Int32.ofNat w) c) i q j))), τ) ∧ x_fr x_wt x_w0 σ τ
  | 0, i, j, σ, hi, hG, hf => by
    refine ⟨σ, ?_, x_fr.refl _ _ _⟩
    rw [x_feq, e177_6, if_pos ((x_le (by omega) (by omega)).mpr (by omega))]
    rfl
  | q + 1, i, j, σ, hi, hG, hf => by
    obtain ⟨hl, hr, hv, e13, e6, y1, y2, hcl, hrl, -, yb, kb, mb, eb, sb, ub⟩ := id hf
    have hl5 : l < 5 := by omega
    obtain ⟨σ1, a1, f1⟩ := c162 d hG (show r < 6 by omega) hv e13 hl5 hrl y1 (x_prt (Int32.ofNat w) (Int32.ofNat c) (Int32.ofNat i))
    have hG1 := f1.G hG
    have hf1 := hf.fr hn ht f1
    obtain ⟨-, -, -, -, -, -, -, -, hrl1, -⟩ := id hf1
    obtain ⟨τ, a2, f2⟩ := l177 d hn ht hw hc hc9 q (i + 1) (x_mf p k m e s u y (Int32.ofNat w) c i j) σ1 (by omega) hG1 hf1
    refine ⟨τ, ?_, f1.trans f2⟩
    rw [x_feq, e177_6, if_neg (fun h => absurd ((x_le (by omega) (by omega)).mp h) (by omega)), m176 _ _ _ _ hc hc9, x_ci_s, x_k78 hG, a1, x_ci_s, x_k78 hG1, c163 _ hG1 hl5 hrl1 eb (x_prt_b hw hc hc9 (by omega)), x_ci_s, x_s1]
    exact a2
theorem m177 (d : Nat) {n t l r : Nat} {o : Nat → Nat} {p : Nat → List Int32} {y k m e s u : Int32} (hn : n ≤ 5) (ht : t ≤ 6) {w c : Nat} (hw : w ≤ 99999) (hc : 1 ≤ c) (hc9 : c ≤ 9) {σ : xS} (hG : x_G σ) (hf : y_lf n t σ l r o p y k m e s u) : ∃ τ, x_run (d + 5) 177 [.inr (.inr (some 78)), .inl (Int32.ofNat l), .inl (Int32.ofNat w), .inl (Int32.ofNat c)] σ = some (some (.inr (.inl (x_it (x_mf p k m e s u y (Int32.ofNat w) c) 0 c 0))), τ) ∧ x_fr x_wt x_w0 σ τ := by
  obtain ⟨τ, a, f⟩ := l177 d hn ht hw hc hc9 c 0 0 σ (by omega) hG hf
  refine ⟨τ, ?_, f⟩
  rw [r177, e177_0]
  exact a
def x_hs (M : Nat → Int64) (i : Nat) (a : Int32 × Int64) : Int32 × Int64 := if 0 ≤ lg_cmp (M i) a.2 then a else (Int32.ofNat i, M i)
def x_hq (i3 : Int32) (a : Int32 × Int64) : Int64 := if i3 = 0 then a.1.toInt64 else a.2
theorem l93 (d : Nat) {n t l r : Nat} {o : Nat → Nat} {p : Nat → List Int32} {y k m e s u v : Int32} (hn : n ≤ 5) (ht : t ≤ 6) (i3 : Int32) : ∀ q i b j σ, i + q = 10 → 1 ≤ i → x_G σ → y_lf n t σ l r o p y k m e s u → ∃ τ, x_f (d + 5) 93 58 [some (.inr (.inr (some 0))), none, some (.inl v), some (.inl i3), some (.inr (.inr (some (3 + l)))), some (.inl b), some (.inr (.inl j)), none, some (.inl (Int32.ofNat i)), none, none] [] σ = some (some (.inr (.inl (x_hq i3 (x_it (x_hs (fun c => x_it (x_mf p k m e s u y v c) 0 c 0)) i q (b, j))))), τ) ∧ x_fr x_wt x_w0 σ τ
  | 0, i, b, j, σ, hi, h1, hG, hf => by
    refine ⟨σ, ?_, x_fr.refl _ _ _⟩
    rw [x_feq, e93_58, if_pos (show (9 : Int32) < Int32.ofNat (i) from Int32.not_le.mp (fun h => absurd ((x_le (b := 9) (by omega) (by omega)).mp h) (by omega)))]
    show _ = (some (some (Sum.inr (Sum.inl (if i3 = 0 then b.toInt64 else j))), σ) : Option xR)
    split <;> rfl
  | q + 1, i, b, j, σ, hi, h1, hG, hf => by
    obtain ⟨σ1, a1, f1⟩ := m124 d (v := v) hn ht h1 (show i ≤ 9 by omega) hG hf
    have hG1 := f1.G hG
    have hf1 := hf.fr hn ht f1
    obtain ⟨τ, a2, f2⟩ := l93 d hn ht i3 q (i + 1) (x_hs (fun c => x_it (x_mf p k m e s u y v c) 0 c 0) i (b, j)).1 (x_hs (fun c => x_it (x_mf p k m e s u y v c) 0 c 0) i (b, j)).2 σ1 (by omega) (by omega) hG1 hf1
    refine ⟨τ, ?_, f1.trans f2⟩
    rw [x_feq, e93_58, if_neg (show ¬ (9 : Int32) < Int32.ofNat (i) from Int32.not_lt.mpr ((x_le (b := 9) (by omega) (by omega)).mpr (by omega))), x_k0 hG, a1, x_cl_s, x_s1]
    refine Eq.trans ?_ a2
    unfold x_hs
    show (if 0 ≤ lg_cmp (x_it (x_mf p k m e s u y v i) 0 i 0) j then _ else _) = _
    by_cases h : 0 ≤ lg_cmp (x_it (x_mf p k m e s u y v i) 0 i 0) j
    · rw [if_pos h, if_pos h]
    · rw [if_neg h, if_neg h]
theorem l178 (d : Nat) {n t l r : Nat} {o : Nat → Nat} {p : Nat → List Int32} {y k m e s u : Int32} (hn : n ≤ 5) (ht : t ≤ 6) {w : Nat} (hw : w ≤ 99999) (i3 : Int32) : ∀ q i b j σ, i + q = 10 → 1 ≤ i → b ≠ -1 → x_G σ → y_lf n t σ l r o p y k m e s u → ∃ τ, x_f (d + 5) 178 44 [some (.inr (.inr (some 78))), some (.inl (Int32.ofNat l)), some (.inl (Int32.ofNat w)), some (.inl i3), some (.inl b), some (.inr (.inl j)), none, some (.inl (Int32.ofNat i)), none, none, none] [] σ = some (some (.inr (.inl (x_hq i3 (x_it (x_hs (fun c => x_it (x_mf p k m e s u y (Int32.ofNat w) c) 0 c 0)) i q (b, j))))), τ) ∧ x_fr x_wt x_w0 σ τ
  | 0, i, b, j, σ, hi, h1, hb, hG, hf => by
    refine ⟨σ, ?_, x_fr.refl _ _ _⟩
    rw [x_feq, e178_44, if_pos (show (10 : Int32) ≤ Int32.ofNat (i) from (x_le (a := 10) (by omega) (by omega)).mpr (by omega))]
    show _ = (some (some (Sum.inr (Sum.inl (if i3 = 0 then b.toInt64 else j))), σ) : Option xR)
    split <;> rfl
  | q + 1, i, b, j, σ, hi, h1, hb, hG, hf => by
    obtain ⟨σ1, a1, f1⟩ := m177 d hn ht hw h1 (show i ≤ 9 by omega) hG hf
    have hG1 := f1.G hG
    have hf1 := hf.fr hn ht f1
    have hi1 : Int32.ofNat i ≠ -1 := fun h => absurd (show Int32.ofNat i < 0 by rw [h]; decide) (x_nn0 (by omega))
    obtain ⟨τ, a2, f2⟩ := l178 d hn ht hw i3 q (i + 1) (x_hs (fun c => x_it (x_mf p k m e s u y (Int32.ofNat w) c) 0 c 0) i (b, j)).1 (x_hs (fun c => x_it (x_mf p k m e s u y (Int32.ofNat w) c) 0 c 0) i (b, j)).2 σ1 (by omega) (by omega) (by
      unfold x_hs
      split
      · exact hb
      · exact hi1) hG1 hf1
    refine ⟨τ, ?_, f1.trans f2⟩
    rw [x_feq, e178_44, if_neg (show ¬ (10 : Int32) ≤ Int32.ofNat (i) from fun h => absurd ((x_le (a := 10) (by omega) (by omega)).mp h) (by omega)), x_k78 hG, a1, x_cl_s, if_neg hb]
    refine Eq.trans ?_ a2
    unfold x_hs
    show (if 0 ≤ lg_cmp (x_it (x_mf p k m e s u y (Int32.ofNat w) i) 0 i 0) j then _ else _) = _
    by_cases h : 0 ≤ lg_cmp (x_it (x_mf p k m e s u y (Int32.ofNat w) i) 0 i 0) j
    · rw [if_pos h, if_pos h, x_feq, e178_80, if_pos rfl, if_pos rfl, x_s1]
    · rw [if_neg h, if_neg h, x_feq, e178_80, if_neg (by decide), if_neg (by decide), x_s1]
theorem x_op_hide (D : Nat) : ∀ (σ : xS) (as : List Int32), as.length = 3 → x_R σ → x_stp (D + 6) x_R true 93 178 as σ := by
  intro σ as hl hR
  match as, hl with
  | [i1, i2, i3], _ =>
    obtain ⟨hG, n, t, z, hP⟩ := id hR
    obtain ⟨hn, ht, hz, ⟨l1, l2⟩, ⟨t1, t2⟩, -⟩ := id hP
    have one : ¬ (1 : Int32) = 0 := by decide
    have fin : ∀ v : Int64, x_run (D + 6) 93 [.inr (.inr (some 0)), .inl i1, .inl i2, .inl i3] σ = some (some (.inr (.inl v)), σ) → x_run (D + 6) 178 [.inr (.inr (some 78)), .inl i1, .inl i2, .inl i3] σ = some (some (.inr (.inl v)), σ) → x_stp (D + 6) x_R true 93 178 [i1, i2, i3] σ := fun v e1 e2 => x_op_eq hR (.inr (.inl v)) ⟨v, rfl⟩ e1 e2
    rcases x_split hn i1 with ⟨l, hl, rfl⟩ | ho
    · rcases x_splitg (n := 100000) (by omega) i2 with ⟨w, hw, rfl⟩ | c2
      · have d2 : x_b1 (0 ≤ Int32.ofNat w ∧ Int32.ofNat w ≤ 99999) = 1 := if_pos (x_bd_k (n := 99999) (by omega) (by omega))
        by_cases c3 : 0 ≤ i3 ∧ i3 ≤ 1
        · have d3 : x_b1 (0 ≤ i3 ∧ i3 ≤ 1) = 1 := if_pos c3
          obtain ⟨r, o, p, y, k, m, e, s, u, hf⟩ := y_lf_of hP hl
          obtain ⟨σ1, a1, f1⟩ := m124 D (v := Int32.ofNat w) hn ht.2 (c := 1) (by omega) (by omega) hG hf
          have hG1 := f1.G hG
          have hf1 := hf.fr hn ht.2 f1
          obtain ⟨σ2, a2, f2⟩ := l93 D (v := Int32.ofNat w) hn ht.2 i3 8 2 1 (x_it (x_mf p k m e s u y (Int32.ofNat w) 1) 0 1 0) σ1 (by omega) (by omega) hG1 hf1
          have f12 := f1.trans f2
          have hG2 := f12.G hG
          have hf2 := hf.fr hn ht.2 f12
          obtain ⟨σ3, a3, f3⟩ := m177 D hn ht.2 (show w ≤ 99999 by omega) (c := 1) (by omega) (by omega) hG2 hf2
          have f13 := f12.trans f3
          have hG3 := f13.G hG
          have hf3 := hf.fr hn ht.2 f13
          obtain ⟨σ4, a4, f4⟩ := l178 D hn ht.2 (show w ≤ 99999 by omega) i3 8 2 1 (x_it (x_mf p k m e s u y (Int32.ofNat w) 1) 0 1 0) σ3 (by omega) (by omega) (by decide) hG3 hf3
          refine x_op_fr hR _ ⟨_, rfl⟩ x_wt_per (Eq.trans ?_ a2) f12 (Eq.trans ?_ a4) (f3.trans f4)
          · show x_run (D + 6) 93 [.inr (.inr (some 0)), .inl (Int32.ofNat l), .inl (Int32.ofNat w), .inl i3] σ = _
            rw [r93, e93_0, x_k0 hG, x_q0_0 hG, x_der_s, x_k1 hG, m65_in _ hG hn hl l2, x_cr_s, x_nul_s, m126, x_ci_s, d2, if_neg one, m126, x_ci_s, d3, if_neg one, x_k0 hG]
            have a1 : x_run (D + 5) 124 [.inr (.inr (some 0)), .inr (.inr (some (3 + l))), .inl (Int32.ofNat w), .inl 1] σ = some (some (.inr (.inl (x_it (x_mf p k m e s u y (Int32.ofNat w) 1) 0 1 0))), σ1) := a1
            rw [a1, x_cl_s]
            rfl
          · show x_run (D + 6) 178 [.inr (.inr (some 78)), .inl (Int32.ofNat l), .inl (Int32.ofNat w), .inl i3] σ2 = _
            rw [r178, e178_0, x_k78 hG2, m135_in _ hG2 hn hl ((f12.I (x_wt_o (by omega) _)).trans l1), x_ci_s, if_neg one, m133, x_ci_s, d2, if_neg one, m133, x_ci_s, d3, if_neg one, x_feq, e178_44, if_neg (by decide), x_k78 hG2]
            have a3 : x_run (D + 5) 177 [.inr (.inr (some 78)), .inl (Int32.ofNat l), .inl (Int32.ofNat w), .inl 1] σ2 = some (some (.inr (.inl (x_it (x_mf p k m e s u y (Int32.ofNat w) 1) 0 1 0))), σ3) := a3
            rw [a3, x_cl_s, if_pos rfl, x_feq, e178_80, if_neg one, if_neg one]
            rfl
        · have d3 : x_b1 (0 ≤ i3 ∧ i3 ≤ 1) = 0 := if_neg c3
          refine fin (-7) ?_ ?_
          · rw [r93, e93_0, x_k0 hG, x_q0_0 hG, x_der_s, x_k1 hG, m65_in _ hG hn hl l2, x_cr_s, x_nul_s, m126, x_ci_s, d2, if_neg one, m126, x_ci_s, d3, if_pos rfl]
          · rw [r178, e178_0, x_k78 hG, m135_in _ hG hn hl l1, x_ci_s, if_neg one, m133, x_ci_s, d2, if_neg one, m133, x_ci_s, d3, if_pos rfl]
      · have d2 : x_b1 (0 ≤ i2 ∧ i2 ≤ 99999) = 0 := if_neg (x_ltk (n := 99999) (by omega) c2)
        refine fin (-7) ?_ ?_
        · rw [r93, e93_0, x_k0 hG, x_q0_0 hG, x_der_s, x_k1 hG, m65_in _ hG hn hl l2, x_cr_s, x_nul_s, m126, x_ci_s, d2, if_pos rfl]
        · rw [r178, e178_0, x_k78 hG, m135_in _ hG hn hl l1, x_ci_s, if_neg one, m133, x_ci_s, d2, if_pos rfl]
    · refine fin (-5) ?_ ?_
      · rw [r93, e93_0, x_k0 hG, x_q0_0 hG, x_der_s, x_k1 hG, m65_out _ hG ho l2, x_cr_s, x_nul_n]
      · rw [r178, e178_0, x_k78 hG, m135_out _ hG hn ho l1, x_ci_s, if_pos rfl]
