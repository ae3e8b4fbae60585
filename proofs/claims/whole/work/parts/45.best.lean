/-! the best of several: who -/
def y_wb (b u : Nat) : Prop := x_wt b u ∨ b = 36 ∨ b = 37
theorem y_wb_t {t : Nat} (ht : t < 6) (u : Nat) : ¬ y_wb (x_tc t + 1) u ∧ ¬ y_wb (x_tc t + 3) u := by
  unfold y_wb x_wt
  rcases (show t = 0 ∨ t = 1 ∨ t = 2 ∨ t = 3 ∨ t = 4 ∨ t = 5 by omega) with rfl | rfl | rfl | rfl | rfl | rfl <;> simp [x_tc]
theorem y_wb_o {b : Nat} (h : b < 31 ∨ 93 < b ∨ (69 < b ∧ b < 92)) (u : Nat) : ¬ y_wb b u := by unfold y_wb x_wt; omega
theorem y_wb_per (a u : Nat) (h : x_per a u = true) : ¬ y_wb a u := by
  rintro (g | rfl | rfl)
  · exact x_wt_per a u h g
  · cases h
  · cases h
theorem x_fr.wb {V : Nat → Nat → Prop} {σ τ : xS} (f : x_fr x_wt V σ τ) : x_fr y_wb y_vt σ τ := f.mono (fun _ _ h => Or.inl h) (fun _ _ _ => trivial)
theorem x_tv.wb {σ τ : xS} {V : Nat → Nat → Prop} {t : Nat} {o : Nat → Nat} {p : Nat → List Int32} (ht : t < 6) (f : x_fr y_wb V σ τ) (h : x_tv σ t o p) : x_tv τ t o p := x_tv.at (fun u => f.I (y_wb_o (by omega) _)) (fun u => f.I (y_wb_o (by omega) _)) (fun u => f.I (y_wb_t ht u).1) (fun u => f.I (y_wb_t ht u).2) h
theorem y_lf.wb {V : Nat → Nat → Prop} {σ τ : xS} {n t l r : Nat} {o : Nat → Nat} {p : Nat → List Int32} {y k m e s u : Int32} (hn : n ≤ 5) (ht : t ≤ 6) (f : x_fr y_wb V σ τ) (h : y_lf n t σ l r o p y k m e s u) : y_lf n t τ l r o p y k m e s u := by
  obtain ⟨h1, h2, h3, h4, h5, h6, h7, h8, h9, ⟨n1, n2, n3⟩, h10⟩ := h
  exact ⟨h1, h2, h3.wb (by omega) f, (f.I (y_wb_o (by omega) _)).trans h4, (f.I (y_wb_o (by omega) _)).trans h5, (f.I (y_wb_o (by omega) _)).trans h6, (f.I (y_wb_o (by omega) _)).trans h7, h8.fr f (y_wb_o (by omega)), h9.fr f (y_wb_o (by omega)) (y_wb_o (by omega)) (y_wb_o (by omega)), ⟨(f.I (y_wb_o (by omega) _)).trans n1, (f.I (y_wb_o (by omega) _)).trans n2, (f.I (y_wb_o (by omega) _)).trans n3⟩, h10⟩
/-- the same, each number by where it stands -/
def y_at (n t : Nat) (σ0 σ : xS) (l r : Nat) (o : Nat → Nat) (p : Nat → List Int32) : Prop := y_lf n t σ l r o p (x_I σ0 78 4) (x_I σ0 79 l) (x_I σ0 80 l) (x_I σ0 81 (6 * l + 1)) (x_I σ0 81 (6 * l + 2)) (x_I σ0 81 (6 * l + 5))
theorem y_at_of {σ : xS} {n t z : Nat} (hP : x_Rp n t z σ) : ∃ r o p, r < t ∧ x_tv σ r o p ∧ x_I σ 78 13 = Int32.ofNat r ∧ x_I σ 1 6 = Int32.ofNat r ∧ ∀ l, l < n → y_at n t σ σ l r o p := by
  obtain ⟨r, hr, e6, e13, o, p, hv⟩ := x_rule hP
  obtain ⟨hn, ht, hz, ⟨l1, l2⟩, ⟨t1, t2⟩, -, ⟨⟨y1, yb⟩, -⟩, hli, -⟩ := hP
  refine ⟨r, o, p, hr, hv, e13, e6, fun l hl => ?_⟩
  obtain ⟨⟨h6, -, b1, b2, -, -, b5⟩, ⟨⟨k0, kb⟩, ⟨k1, mb⟩⟩⟩ := hli l hl
  exact ⟨hl, hr, hv, e13, e6, rfl, y1, ⟨k0, k1, h6 1 (by omega), h6 2 (by omega), h6 5 (by omega)⟩, ⟨rfl, rfl, rfl, rfl, rfl⟩, ⟨t2, l2, l1⟩, yb, kb, mb, b1, b2, b5⟩
def y_of (b : Int32 × Int64) (x : Int32) (v : Int64) : Int32 × Int64 := if lg_cmp v b.2 ≤ 0 then b else (x, v)
def y_bs (σ : xS) (b : Int32 × Int64) : Prop := x_I σ 37 0 = b.1 ∧ x_J σ 37 1 = b.2
theorem m8 (d : Nat) {σ : xS} (hG : x_G σ) : ∃ τ, x_run (d + 1) 8 [.inr (.inr (some 37))] σ = some (none, τ) ∧ x_fr y_wb y_vt σ τ ∧ y_bs τ (-1, -1) := by
  refine ⟨x_sl (x_si σ 37 0 (-1)) 37 1 (-1), ?_, ((x_fr.refl y_wb y_vt σ).si _ (Or.inr (Or.inr rfl))).sl _ trivial, rfl, rfl⟩
  rw [r8, e8_0]
  simp only [↓x_k37, hG, x_Gsi]
theorem m9 (d : Nat) {σ : xS} (hG : x_G σ) {b : Int32 × Int64} (hb : y_bs σ b) (x : Int32) (v : Int64) : ∃ τ, x_run (d + 1) 9 [.inr (.inr (some 37)), .inl x, .inr (.inl v)] σ = some (none, τ) ∧ x_fr y_wb y_vt σ τ ∧ y_bs τ (y_of b x v) := by
  unfold y_of
  by_cases h : lg_cmp v b.2 ≤ 0
  · refine ⟨σ, ?_, x_fr.refl _ _ _, ?_⟩
    · rw [r9, e9_0, x_k37 hG, hb.2, if_pos h]
    · rw [if_pos h]; exact hb
  · refine ⟨x_sl (x_si σ 37 0 x) 37 1 v, ?_, ((x_fr.refl y_wb y_vt σ).si _ (Or.inr (Or.inr rfl))).sl _ trivial, ?_⟩
    · rw [r9, e9_0, x_k37 hG, hb.2, if_neg h]
      simp only [↓x_k37, hG, x_Gsi]
    · rw [if_neg h]; exact ⟨rfl, rfl⟩
def y_pk (i2 : Int32) (S : y_S) : Int64 := if i2 = 0 then Int64.ofNat S.2.2.1 else Int64.ofNat S.2.2.2.2
def y_A (σ : xS) (p : Nat → List Int32) (q l : Nat) : y_S := y_all p (x_I σ 79 l) (x_I σ 80 l) (x_I σ 81 (6 * l + 1)) (x_I σ 81 (6 * l + 2)) (x_I σ 81 (6 * l + 5)) (x_I σ 78 4) q
def y_wf (σ : xS) (p : Nat → List Int32) (q : Nat) (i2 : Int32) (i : Nat) (b : Int32 × Int64) : Int32 × Int64 := y_of b (Int32.ofNat i) (y_pk i2 (y_A σ p q i))
theorem l92 (D : Nat) {n t r : Nat} {o : Nat → Nat} {p : Nat → List Int32} {σ0 : xS} (hn : n ≤ 5) (ht : t ≤ 6) {q : Nat} (hq : q ≤ 6) (i2 : Int32) : ∀ m i b σ, i + m = n → x_G σ → x_I σ 1 1 = Int32.ofNat n → (∀ l, l < n → y_at n t σ0 σ l r o p) → y_bs σ b → ∃ τ, x_f (D + 6) 92 31 [some (.inr (.inr (some 0))), some (.inl (Int32.ofNat q)), some (.inl i2), some (.inl (Int32.ofNat i)), none] [] σ = some (some (.inl (x_it (y_wf σ0 p q i2) i m b).1), τ) ∧ x_fr y_wb y_vt σ τ
  | 0, i, b, σ, hi, hG, n1, hf, hb => by
    refine ⟨σ, ?_, x_fr.refl _ _ _⟩
    rw [x_feq, e92_31, x_k0 hG, x_q0_0 hG, x_der_s, x_k1 hG, n1, if_pos ((x_le (by omega) (by omega)).mpr (by omega)), x_k0 hG, x_q0_10 hG, x_der_s, x_k37 hG, hb.1]
    rfl
  | m + 1, i, b, σ, hi, hG, n1, hf, hb => by
    have hi5 : i < n := by omega
    obtain ⟨hl, hr, hv, e13, e6, y1, y2, hcl, hrl, ⟨n7, -, n0⟩, yb, kb, mb, eb, sb, ub⟩ := id (hf i hi5)
    obtain ⟨σ1, a1, f1, j1⟩ := m27 D hG (show r < 6 by omega) hv (x_kl (show i < 5 by omega)) hcl mb eb sb hq (x_I σ0 78 4)
    have hG1 := f1.G hG
    obtain ⟨σ2, a2, f2, b2⟩ := m9 (D + 5) hG1 (b := b) ⟨(f1.I (by unfold x_wt; omega)).trans hb.1, (f1.J (by unfold y_vj; omega)).trans hb.2⟩ (Int32.ofNat i) (y_pk i2 (y_A σ0 p q i))
    have f12 := f1.wb.trans f2
    obtain ⟨τ, a3, f3⟩ := l92 D hn ht hq i2 m (i + 1) _ σ2 (by omega) (f12.G hG) ((f12.I (y_wb_o (by omega) _)).trans n1) (fun l hl => (hf l hl).wb hn ht f12) b2
    refine ⟨τ, ?_, f12.trans f3⟩
    rw [x_feq, e92_31, x_k0 hG, x_q0_0 hG, x_der_s, x_k1 hG, n1, if_neg (fun h => absurd ((x_le (by omega) (by omega)).mp h) (by omega)), x_k0 hG, x_der_s, x_k1 hG, m65_in _ hG hn hi5 n1, x_cr_s, x_nul_s]
    simp only [↓x_k0, ↓x_k1, ↓x_k38, hG, x_q0_0, x_q0_11, m120 _ hG ht hr n7 e6, x_cr_s, x_der_s, ↓x_der_s, y2, a1, x_cv_s]
    rw [x_k0 hG1]
    refine Eq.trans ?_ a3
    unfold y_pk at a2
    by_cases c : i2 = 0
    · rw [if_pos c] at a2 ⊢
      have a2 : x_run (D + 6) 9 [.inr (.inr (some 37)), .inl (Int32.ofNat i), .inr (.inl (Int64.ofNat (y_A σ0 p q i).2.2.1))] σ1 = some (none, σ2) := a2
      have e : x_J σ1 38 2 = Int64.ofNat (y_A σ0 p q i).2.2.1 := j1.2.2.1
      simp only [↓x_k0, ↓x_k37, ↓x_k38, hG1, x_q0_10, x_q0_11, x_der_s, ↓x_der_s, e, a2, x_cv_s, x_s1]
    · rw [if_neg c] at a2 ⊢
      have a2 : x_run (D + 6) 9 [.inr (.inr (some 37)), .inl (Int32.ofNat i), .inr (.inl (Int64.ofNat (y_A σ0 p q i).2.2.2.2))] σ1 = some (none, σ2) := a2
      have e : x_J σ1 38 4 = Int64.ofNat (y_A σ0 p q i).2.2.2.2 := j1.2.2.2.2
      simp only [↓x_k0, ↓x_k37, ↓x_k38, hG1, x_q0_10, x_q0_11, x_der_s, ↓x_der_s, e, a2, x_cv_s, x_s1]
theorem l175 (D : Nat) {n t r : Nat} {o : Nat → Nat} {p : Nat → List Int32} {σ0 : xS} (hn : n ≤ 5) (ht : t ≤ 6) {q : Nat} (hq : q ≤ 6) (i2 : Int32) : ∀ m i b σ, i + m = n → x_G σ → x_I σ 78 0 = Int32.ofNat n → (∀ l, l < n → y_at n t σ0 σ l r o p) → ∃ τ, x_f (D + 6) 175 32 [some (.inr (.inr (some 78))), some (.inl (Int32.ofNat q)), some (.inl i2), some (.inl b.1), some (.inr (.inl b.2)), none, some (.inl (Int32.ofNat i)), none, none] [] σ = some (some (.inl (x_it (y_wf σ0 p q i2) i m b).1), τ) ∧ x_fr y_wb y_vt σ τ
  | 0, i, b, σ, hi, hG, n0, hf => by
    refine ⟨σ, ?_, x_fr.refl _ _ _⟩
    rw [x_feq, e175_32, x_k78 hG, n0, if_pos ((x_le (by omega) (by omega)).mpr (by omega))]
    rfl
  | m + 1, i, b, σ, hi, hG, n0, hf => by
    have hi5 : i < n := by omega
    obtain ⟨hl, hr, hv, e13, e6, y1, y2, hcl, hrl, ⟨n7, -, -⟩, yb, kb, mb, eb, sb, ub⟩ := id (hf i hi5)
    obtain ⟨σ1, a1, f1, j1⟩ := m167 (D + 1) hG (show r < 6 by omega) hv e13 (show i < 5 by omega) hrl y1 mb eb sb hq
    have hG1 := f1.G hG
    have f12 : x_fr y_wb y_vt σ σ1 := f1.wb
    obtain ⟨τ, a3, f3⟩ := l175 D hn ht hq i2 m (i + 1) (y_wf σ0 p q i2 i b) σ1 (by omega) hG1 ((f12.I (y_wb_o (by omega) _)).trans n0) (fun l hl => (hf l hl).wb hn ht f12)
    refine ⟨τ, ?_, f12.trans f3⟩
    rw [x_feq, e175_32, x_k78 hG, n0, if_neg (fun h => absurd ((x_le (by omega) (by omega)).mp h) (by omega)), x_k78 hG, a1, x_cv_s]
    refine Eq.trans ?_ a3
    unfold y_wf y_of y_pk
    have e2 : x_J σ1 78 39 = Int64.ofNat (y_A σ0 p q i).2.2.1 := j1.2.2.1
    have e4 : x_J σ1 78 41 = Int64.ofNat (y_A σ0 p q i).2.2.2.2 := j1.2.2.2.2
    by_cases c : i2 = 0
    · simp only [if_pos c]
      rw [x_k78 hG1, e2]
      by_cases g : lg_cmp (Int64.ofNat (y_A σ0 p q i).2.2.1) b.2 ≤ 0
      · simp only [if_pos g]
        rw [x_feq, e175_79, if_pos g, x_s1]
      · simp only [if_neg g]
        rw [x_feq, e175_79, if_neg g, x_s1]
    · simp only [if_neg c]
      rw [x_k78 hG1, e4]
      by_cases g : lg_cmp (Int64.ofNat (y_A σ0 p q i).2.2.2.2) b.2 ≤ 0
      · simp only [if_pos g]
        rw [x_feq, e175_79, if_pos g, x_s1]
      · simp only [if_neg g]
        rw [x_feq, e175_79, if_neg g, x_s1]
theorem x_op_who (D : Nat) : ∀ (σ : xS) (as : List Int32), as.length = 2 → x_R σ → x_stp (D + 7) x_R false 92 175 as σ := by
  intro σ as hl hR
  match as, hl with
  | [i1, i2], _ =>
    obtain ⟨hG, n, t, z, hP⟩ := id hR
    obtain ⟨hn, ht, hz, ⟨l1, l2⟩, ⟨t1, t2⟩, -⟩ := id hP
    have one : ¬ (1 : Int32) = 0 := by decide
    have fin : x_run (D + 7) 92 [.inr (.inr (some 0)), .inl i1, .inl i2] σ = some (some (.inl (-2)), σ) → x_run (D + 7) 175 [.inr (.inr (some 78)), .inl i1, .inl i2] σ = some (some (.inl (-2)), σ) → x_stp (D + 7) x_R false 92 175 [i1, i2] σ := fun e1 e2 => x_op_eq hR (.inl (-2)) ⟨_, rfl⟩ e1 e2
    by_cases c1 : 1 ≤ i1 ∧ i1 ≤ 6
    · obtain ⟨q, hq, rfl⟩ := x_bd_of (n := 6) (by omega) ⟨Int32.le_trans (by decide) c1.1, c1.2⟩ rfl
      by_cases c2 : 0 ≤ i2 ∧ i2 ≤ 1
      · obtain ⟨r, o, p, hr, hv, e13, e6, hf⟩ := y_at_of hP
        obtain ⟨σ1, a1, f1, b1⟩ := m8 (D + 5) hG
        have hG1 := f1.G hG
        obtain ⟨σ2, a2, f2⟩ := l92 D hn ht.2 hq i2 n 0 (-1, -1) σ1 (by omega) hG1 ((f1.I (y_wb_o (by omega) _)).trans l2) (fun l hl => (hf l hl).wb hn ht.2 f1) b1
        have f12 := f1.trans f2
        obtain ⟨τ, a3, f3⟩ := l175 D hn ht.2 hq i2 n 0 (-1, -1) σ2 (by omega) (f12.G hG) ((f12.I (y_wb_o (by omega) _)).trans l1) (fun l hl => (hf l hl).wb hn ht.2 f12)
        refine x_op_fr hR _ ⟨_, rfl⟩ y_wb_per (Eq.trans ?_ a2) f12 (Eq.trans ?_ a3) f3
        · show x_run (D + 7) 92 [.inr (.inr (some 0)), .inl (Int32.ofNat q), .inl i2] σ = _
          rw [r92, e92_0, m126, x_ci_s, x_b1_1 c1, if_neg one, m126, x_ci_s, x_b1_1 c2, if_neg one, x_k0 hG, x_q0_10 hG, x_der_s, x_k37 hG, a1, x_cv_s]
          rfl
        · show x_run (D + 7) 175 [.inr (.inr (some 78)), .inl (Int32.ofNat q), .inl i2] σ2 = _
          rw [r175, e175_0, m133, x_ci_s, x_b1_1 c1, if_neg one, m133, x_ci_s, x_b1_1 c2, if_neg one]
          rfl
      · refine fin ?_ ?_
        · rw [r92, e92_0, m126, x_ci_s, x_b1_1 c1, if_neg one, m126, x_ci_s, x_b1_0 c2, if_pos rfl]
        · rw [r175, e175_0, m133, x_ci_s, x_b1_1 c1, if_neg one, m133, x_ci_s, x_b1_0 c2, if_pos rfl]
    · refine fin ?_ ?_
      · rw [r92, e92_0, m126, x_ci_s, x_b1_0 c1, if_pos rfl]
      · rw [r175, e175_0, m133, x_ci_s, x_b1_0 c1, if_pos rfl]
