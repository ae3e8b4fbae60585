/-! whose, rule -/
def y_end (i2 : Int32) (b : Int32 × Int64) : Int64 := if i2 = 0 then b.1.toInt64 else b.2
def y_LA (σ : xS) (p : Nat → List Int32) (N : Nat) (V : Nat → Int32) (l : Nat) : Int64 := y_L p (x_I σ 79 l) (x_I σ 80 l) (x_I σ 81 (6 * l + 1)) (x_I σ 81 (6 * l + 2)) (x_I σ 81 (6 * l + 5)) (x_I σ 78 4) N V
def y_hf (σ : xS) (p : Nat → List Int32) (N : Nat) (V : Nat → Int32) (i : Nat) (b : Int32 × Int64) : Int32 × Int64 := y_of b (Int32.ofNat i) (y_LA σ p N V i)
theorem y_wb_s : ∀ b, (70 ≤ b ∧ b ≤ 77) ∨ b = 87 ∨ b = 88 → ∀ u, ¬ y_wb b u := fun b h u => y_wb_o (by omega) u
theorem l108 (D : Nat) {n t r s N : Nat} {o : Nat → Nat} {p : Nat → List Int32} {V : Nat → Int32} {σ0 : xS} (hn : n ≤ 5) (ht : t ≤ 6) (i2 : Int32) : ∀ m i b σ, i + m = n → x_G σ → x_I σ 1 1 = Int32.ofNat n → (∀ l, l < n → y_at n t σ0 σ l r o p) → y_sh σ s N V → y_bs σ b → ∃ τ, x_f (D + 5) 108 33 [some (.inr (.inr (some 0))), none, some (.inl i2), some (.inr (.inr (some (70 + 2 * s)))), some (.inl (Int32.ofNat i)), none] [] σ = some (some (.inr (.inl (y_end i2 (x_it (y_hf σ0 p N V) i m b)))), τ) ∧ x_fr y_wb y_vt σ τ
  | 0, i, b, σ, hi, hG, n1, hf, hs, hb => by
    refine ⟨σ, ?_, x_fr.refl _ _ _⟩
    rw [x_feq, e108_33, x_k0 hG, x_q0_0 hG, x_der_s, x_k1 hG, n1, if_pos ((x_le (by omega) (by omega)).mpr (by omega))]
    show _ = (some (some (Sum.inr (Sum.inl (if i2 = 0 then b.1.toInt64 else b.2))), σ) : Option xR)
    by_cases c : i2 = 0
    · rw [if_pos c, if_pos c, x_k0 hG, x_q0_10 hG, x_der_s, x_k37 hG, hb.1]
    · rw [if_neg c, if_neg c, x_k0 hG, x_q0_10 hG, x_der_s, x_k37 hG, hb.2]
  | m + 1, i, b, σ, hi, hG, n1, hf, hs, hb => by
    have hi5 : i < n := by omega
    have hs4 := hs.1
    obtain ⟨hl, hr, hv, e13, e6, y1, y2, hcl, hrl, ⟨n7, -, n0⟩, yb, kb, mb, eb, sb, ub⟩ := id (hf i hi5)
    obtain ⟨σ1, a1, f1⟩ := m36 D (y := x_I σ0 78 4) (show r < 6 by omega) (x_kl (show i < 5 by omega)) mb hG hv hcl hs
    have hG1 := f1.G hG
    obtain ⟨σ2, a2, f2, b2⟩ := m9 (D + 4) hG1 (b := b) ⟨(f1.I (by unfold x_wt; omega)).trans hb.1, (f1.J (fun h => h)).trans hb.2⟩ (Int32.ofNat i) (y_LA σ0 p N V i)
    have f12 := f1.wb.trans f2
    obtain ⟨τ, a3, f3⟩ := l108 D hn ht i2 m (i + 1) _ σ2 (by omega) (f12.G hG) ((f12.I (y_wb_o (by omega) _)).trans n1) (fun l hl => (hf l hl).wb hn ht f12) (hs.fr f12 y_wb_s) b2
    refine ⟨τ, ?_, f12.trans f3⟩
    unfold y_LA at a2
    rw [x_feq, e108_33, x_k0 hG, x_q0_0 hG, x_der_s, x_k1 hG, n1, if_neg (fun h => absurd ((x_le (by omega) (by omega)).mp h) (by omega)), x_k0 hG, x_der_s, x_k1 hG, m65_in _ hG hn hi5 n1, x_cr_s, x_nul_s]
    simp only [↓x_k0, ↓x_k1, ↓x_ks5, hs4, hG, x_q0_0, x_q0_10, m120 _ hG ht hr n7 e6, x_cr_s, x_der_s, ↓x_der_s, y2, a1, x_cl_s, ↓x_k37, hG1, a2, x_cv_s, x_s1]
    exact a3
theorem l209 (D : Nat) {n t r s N : Nat} {o : Nat → Nat} {p : Nat → List Int32} {V : Nat → Int32} {σ0 : xS} (hn : n ≤ 5) (ht : t ≤ 6) (i2 : Int32) : ∀ m i b σ, i + m = n → x_G σ → x_I σ 78 0 = Int32.ofNat n → (∀ l, l < n → y_at n t σ0 σ l r o p) → y_sh σ s N V → ∃ τ, x_f (D + 6) 209 31 [some (.inr (.inr (some 78))), some (.inl (Int32.ofNat s)), some (.inl i2), some (.inl b.1), some (.inr (.inl b.2)), none, some (.inl (Int32.ofNat i)), none, none] [] σ = some (some (.inr (.inl (y_end i2 (x_it (y_hf σ0 p N V) i m b)))), τ) ∧ x_fr y_wb y_vt σ τ
  | 0, i, b, σ, hi, hG, n0, hf, hs => by
    refine ⟨σ, ?_, x_fr.refl _ _ _⟩
    rw [x_feq, e209_31, x_k78 hG, n0, if_pos ((x_le (by omega) (by omega)).mpr (by omega))]
    show _ = (some (some (Sum.inr (Sum.inl (if i2 = 0 then b.1.toInt64 else b.2))), σ) : Option xR)
    split <;> rfl
  | m + 1, i, b, σ, hi, hG, n0, hf, hs => by
    have hi5 : i < n := by omega
    obtain ⟨hl, hr, hv, e13, e6, y1, y2, hcl, hrl, ⟨n7, -, -⟩, yb, kb, mb, eb, sb, ub⟩ := id (hf i hi5)
    obtain ⟨σ1, a1, f1⟩ := m206 D (show r < 6 by omega) (show i < 5 by omega) mb hG hv e13 hrl y1 hs
    have hG1 := f1.G hG
    have f12 : x_fr y_wb y_vt σ σ1 := f1.wb
    obtain ⟨τ, a3, f3⟩ := l209 D hn ht i2 m (i + 1) (y_hf σ0 p N V i b) σ1 (by omega) hG1 ((f12.I (y_wb_o (by omega) _)).trans n0) (fun l hl => (hf l hl).wb hn ht f12) (hs.fr f12 y_wb_s)
    refine ⟨τ, ?_, f12.trans f3⟩
    rw [x_feq, e209_31, x_k78 hG, n0, if_neg (fun h => absurd ((x_le (by omega) (by omega)).mp h) (by omega)), x_k78 hG, a1, x_cl_s]
    refine Eq.trans ?_ a3
    unfold y_hf y_of y_LA
    by_cases g : lg_cmp (y_L p (x_I σ0 79 i) (x_I σ0 80 i) (x_I σ0 81 (6 * i + 1)) (x_I σ0 81 (6 * i + 2)) (x_I σ0 81 (6 * i + 5)) (x_I σ0 78 4) N V) b.2 ≤ 0
    · simp only [if_pos g]
      rw [x_feq, e209_63, if_pos g, x_s1]
    · simp only [if_neg g]
      rw [x_feq, e209_63, if_neg g, x_s1]
theorem x_op_whose (D : Nat) : ∀ (σ : xS) (as : List Int32), as.length = 2 → x_R σ → x_stp (D + 7) x_R true 108 209 as σ := by
  intro σ as hl hR
  match as, hl with
  | [i1, i2], _ =>
    obtain ⟨hG, n, t, z, hP⟩ := id hR
    obtain ⟨hn, ht, hz, ⟨l1, l2⟩, ⟨t1, t2⟩, -, -, -, -, -, -, hsh, -⟩ := id hP
    have one : ¬ (1 : Int32) = 0 := by decide
    have fin : x_run (D + 7) 108 [.inr (.inr (some 0)), .inl i1, .inl i2] σ = some (some (.inr (.inl (-4611686018427387904))), σ) → x_run (D + 7) 209 [.inr (.inr (some 78)), .inl i1, .inl i2] σ = some (some (.inr (.inl (-4611686018427387904))), σ) → x_stp (D + 7) x_R true 108 209 [i1, i2] σ := fun e1 e2 => x_op_eq hR (.inr (.inl _)) ⟨_, rfl⟩ e1 e2
    rcases y_told hG hsh i1 with ⟨s, hs, rfl, ⟨N, V, hy⟩, h122, h201⟩ | ⟨h122, v, hv0, h201⟩
    · by_cases c2 : 0 ≤ i2 ∧ i2 ≤ 1
      · obtain ⟨r, o, p, hr, hv, e13, e6, hf⟩ := y_at_of hP
        obtain ⟨σ1, a1, f1, b1⟩ := m8 (D + 5) hG
        have hG1 := f1.G hG
        obtain ⟨σ2, a2, f2⟩ := l108 (D + 1) hn ht.2 i2 n 0 (-1, -1) σ1 (by omega) hG1 ((f1.I (y_wb_o (by omega) _)).trans l2) (fun l hl => (hf l hl).wb hn ht.2 f1) (hy.fr f1 y_wb_s) b1
        have f12 := f1.trans f2
        obtain ⟨τ, a3, f3⟩ := l209 D hn ht.2 i2 n 0 (-1, -1) σ2 (by omega) (f12.G hG) ((f12.I (y_wb_o (by omega) _)).trans l1) (fun l hl => (hf l hl).wb hn ht.2 f12) (hy.fr f12 y_wb_s)
        refine x_op_fr hR _ ⟨_, rfl⟩ y_wb_per (Eq.trans ?_ a2) f12 (Eq.trans ?_ a3) f3
        · show x_run (D + 7) 108 [.inr (.inr (some 0)), .inl (Int32.ofNat s), .inl i2] σ = _
          rw [r108, e108_0, x_k0 hG, h122, x_cr_s, x_nul_s, m126, x_ci_s, x_b1_1 c2, if_neg one, x_k0 hG, x_q0_10 hG, x_der_s, x_k37 hG, a1, x_cv_s]
          rfl
        · show x_run (D + 7) 209 [.inr (.inr (some 78)), .inl (Int32.ofNat s), .inl i2] σ2 = _
          rw [r209, e209_0, x_k78 (f12.G hG), h201 (D + 4) σ2 f12, x_ci_s, if_pos rfl, m133, x_ci_s, x_b1_1 c2, if_neg one]
          rfl
      · refine fin ?_ ?_
        · rw [r108, e108_0, x_k0 hG, h122, x_cr_s, x_nul_s, m126, x_ci_s, x_b1_0 c2, if_pos rfl]
        · rw [r209, e209_0, x_k78 hG, h201 (D + 4) σ (x_fr.refl _ _ _), x_ci_s, if_pos rfl, m133, x_ci_s, x_b1_0 c2, if_pos rfl]
    · refine fin ?_ ?_
      · rw [r108, e108_0, x_k0 hG, h122, x_cr_s, x_nul_n]
      · rw [r209, e209_0, x_k78 hG, h201, x_ci_s, if_neg hv0]
def y_uf (P : Nat → Nat → List Int32) (k m e s1 u y : Int32) (N : Nat) (V : Nat → Int32) (i : Nat) (b : Int32 × Int64) : Int32 × Int64 := y_of b (Int32.ofNat i) (y_L (P i) k m e s1 u y N V)
theorem l109 (D : Nat) {t l s N : Nat} {O : Nat → Nat → Nat} {P : Nat → Nat → List Int32} {V : Nat → Int32} {k m e s1 u y : Int32} (ht : t ≤ 6) (hl : l < 5) (mb : x_bd m 0 9) (i3 : Int32) : ∀ c i b σ, i + c = t → x_G σ → (∀ i, i < t → x_tv σ i (O i) (P i)) → x_I σ 0 7 = Int32.ofNat t → x_I σ 1 2 = y → y_cl σ (3 + l) k m e s1 u → y_sh σ s N V → y_bs σ b → ∃ τ, x_f (D + 5) 109 50 [some (.inr (.inr (some 0))), none, none, some (.inl i3), some (.inr (.inr (some (70 + 2 * s)))), some (.inr (.inr (some (3 + l)))), some (.inl (Int32.ofNat i))] [] σ = some (some (.inr (.inl (y_end i3 (x_it (y_uf P k m e s1 u y N V) i c b)))), τ) ∧ x_fr y_wb y_vt σ τ
  | 0, i, b, σ, hi, hG, hv, n7, y2, hcl, hs, hb => by
    refine ⟨σ, ?_, x_fr.refl _ _ _⟩
    rw [x_feq, e109_50, x_k0 hG, n7, if_pos ((x_le (by omega) (by omega)).mpr (by omega))]
    show _ = (some (some (Sum.inr (Sum.inl (if i3 = 0 then b.1.toInt64 else b.2))), σ) : Option xR)
    by_cases c : i3 = 0
    · rw [if_pos c, if_pos c, x_k0 hG, x_q0_10 hG, x_der_s, x_k37 hG, hb.1]
    · rw [if_neg c, if_neg c, x_k0 hG, x_q0_10 hG, x_der_s, x_k37 hG, hb.2]
  | c + 1, i, b, σ, hi, hG, hv, n7, y2, hcl, hs, hb => by
    have hs4 := hs.1
    obtain ⟨σ1, a1, f1⟩ := m36 D (y := y) (show i < 6 by omega) (x_kl hl) mb hG (hv i (by omega)) hcl hs
    have hG1 := f1.G hG
    obtain ⟨σ2, a2, f2, b2⟩ := m9 (D + 4) hG1 (b := b) ⟨(f1.I (by unfold x_wt; omega)).trans hb.1, (f1.J (fun h => h)).trans hb.2⟩ (Int32.ofNat i) (y_L (P i) k m e s1 u y N V)
    have f02 := f1.wb.trans f2
    obtain ⟨τ, a3, f3⟩ := l109 D ht hl mb i3 c (i + 1) _ σ2 (by omega) (f02.G hG) (fun i hi => (hv i hi).wb (by omega) f02) ((f02.I (y_wb_o (by omega) _)).trans n7) ((f02.I (y_wb_o (by omega) _)).trans y2) (hcl.fr f02 (y_wb_o (by omega))) (hs.fr f02 y_wb_s) b2
    refine ⟨τ, ?_, f02.trans f3⟩
    rw [x_feq, e109_50, x_k0 hG, n7, if_neg (fun h => absurd ((x_le (by omega) (by omega)).mp h) (by omega))]
    simp only [↓x_k0, ↓x_k1, ↓x_ks5, hs4, hG, x_q0_0, x_q0_10, m119 _ hG ht (show i < t by omega) n7, x_cr_s, x_der_s, ↓x_der_s, y2, a1, x_cl_s, ↓x_k37, hG1, a2, x_cv_s, x_s1]
    exact a3
theorem l210 (D : Nat) {t l s N : Nat} {O : Nat → Nat → Nat} {P : Nat → Nat → List Int32} {V : Nat → Int32} {k m e s1 u y w : Int32} (ht : t ≤ 6) (hl : l < 5) (mb : x_bd m 0 9) (i3 : Int32) : ∀ c i b σ, i + c = t → x_G σ → (∀ i, i < t → x_tv σ i (O i) (P i)) → x_I σ 78 12 = Int32.ofNat t → x_I σ 78 4 = y → y_rl σ l k m e s1 u → y_sh σ s N V → ∃ τ, x_f (D + 6) 210 39 [some (.inr (.inr (some 78))), some (.inl (Int32.ofNat s)), some (.inl (Int32.ofNat l)), some (.inl i3), some (.inl w), some (.inl b.1), some (.inr (.inl b.2)), none, some (.inl (Int32.ofNat i)), none, none] [] σ = some (some (.inr (.inl (y_end i3 (x_it (y_uf P k m e s1 u y N V) i c b)))), τ) ∧ x_fr y_wl y_vt σ τ ∧ x_I τ 78 13 = w
  | 0, i, b, σ, hi, hG, hv, h12, hy, hrl, hs => by
    refine ⟨x_si σ 78 13 w, ?_, (x_fr.refl y_wl y_vt σ).si _ (Or.inr ⟨rfl, rfl⟩), by rw [x_Isi, if_pos ⟨rfl, rfl⟩]⟩
    rw [x_feq, e210_39, x_k78 hG, h12, if_pos ((x_le (by omega) (by omega)).mpr (by omega)), x_k78 hG]
    show _ = (some (some (Sum.inr (Sum.inl (if i3 = 0 then b.1.toInt64 else b.2))), x_si σ 78 13 w) : Option xR)
    split <;> rfl
  | c + 1, i, b, σ, hi, hG, hv, h12, hy, hrl, hs => by
    have f0 : x_fr y_wl y_vt σ (x_si σ 78 13 (Int32.ofNat i)) := (x_fr.refl y_wl y_vt σ).si _ (Or.inr ⟨rfl, rfl⟩)
    have hG0 := f0.G hG
    have ne : ∀ {b'}, b' = 79 ∨ b' = 80 ∨ b' = 81 → ∀ u', ¬ y_wl b' u' := fun h1 u' => by unfold y_wl x_wt; omega
    have nes : ∀ b, (70 ≤ b ∧ b ≤ 77) ∨ b = 87 ∨ b = 88 → ∀ u, ¬ y_wl b u := fun b h u => by unfold y_wl x_wt; omega
    have hrl0 := hrl.fr f0 (ne (by omega)) (ne (by omega)) (ne (by omega))
    obtain ⟨σ1, a1, f1⟩ := m206 D (show i < 6 by omega) hl mb hG0 ((hv i (by omega)).wl (by omega) f0) (by rw [x_Isi, if_pos ⟨rfl, rfl⟩]) hrl0 ((f0.I (by unfold y_wl x_wt; omega)).trans hy) (hs.fr f0 nes)
    have hG1 := f1.G hG0
    have f01 : x_fr y_wl y_vt σ σ1 := f0.trans (f1.mono (fun _ _ h => Or.inl h) (fun _ _ _ => trivial))
    obtain ⟨τ, a3, f3, g3⟩ := l210 D (w := w) ht hl mb i3 c (i + 1) (y_uf P k m e s1 u y N V i b) σ1 (by omega) hG1 (fun i hi => (hv i hi).wl (by omega) f01) ((f01.I (by unfold y_wl x_wt; omega)).trans h12) ((f01.I (by unfold y_wl x_wt; omega)).trans hy) (hrl.fr f01 (ne (by omega)) (ne (by omega)) (ne (by omega))) (hs.fr f01 nes)
    refine ⟨τ, ?_, f01.trans f3, g3⟩
    rw [x_feq, e210_39, x_k78 hG, h12, if_neg (fun h => absurd ((x_le (by omega) (by omega)).mp h) (by omega)), x_k78 hG]
    simp only [↓x_k78, hG, x_Gsi, a1, x_cl_s]
    refine Eq.trans ?_ a3
    unfold y_uf y_of
    by_cases g : lg_cmp (y_L (P i) k m e s1 u y N V) b.2 ≤ 0
    · simp only [if_pos g]
      rw [x_feq, e210_77, if_pos g, x_s1]
    · simp only [if_neg g]
      rw [x_feq, e210_77, if_neg g, x_s1]
theorem x_op_rule (D : Nat) : ∀ (σ : xS) (as : List Int32), as.length = 3 → x_R σ → x_stp (D + 7) x_R true 109 210 as σ := by
  intro σ as hl hR
  match as, hl with
  | [i1, i2, i3], _ =>
    obtain ⟨hG, n, t, z, hP⟩ := id hR
    obtain ⟨hn, ht, hz, ⟨l1, l2⟩, ⟨t1, t2⟩, -, -, -, -, -, -, hsh, -⟩ := id hP
    have one : ¬ (1 : Int32) = 0 := by decide
    have fin : x_run (D + 7) 109 [.inr (.inr (some 0)), .inl i1, .inl i2, .inl i3] σ = some (some (.inr (.inl (-4611686018427387904))), σ) → x_run (D + 7) 210 [.inr (.inr (some 78)), .inl i1, .inl i2, .inl i3] σ = some (some (.inr (.inl (-4611686018427387904))), σ) → x_stp (D + 7) x_R true 109 210 [i1, i2, i3] σ := fun e1 e2 => x_op_eq hR (.inr (.inl _)) ⟨_, rfl⟩ e1 e2
    rcases y_told hG hsh i1 with ⟨s, hs, rfl, ⟨N, V, hy⟩, h122, h201⟩ | ⟨h122, v, hv0, h201⟩
    · rcases x_split hn i2 with ⟨l, hl, rfl⟩ | h2
      · by_cases c3 : 0 ≤ i3 ∧ i3 ≤ 1
        · have hl5 : l < 5 := by omega
          obtain ⟨r, o, p, y, k, m, e, s1, u, hf⟩ := y_lf_of hP hl
          obtain ⟨O, P, hv⟩ := y_texts hP
          obtain ⟨σ1, a1, f1, b1⟩ := m8 (D + 5) hG
          have hG1 := f1.G hG
          obtain ⟨-, hr, -, e13, e6, y1, y2, hcl, hrl, ⟨n7, n1, n0⟩, yb, kb, mb, eb, sb, ub⟩ := id (hf.wb hn ht.2 f1)
          obtain ⟨σ2, a2, f2⟩ := l109 (D + 1) ht.2 hl5 mb i3 t 0 (-1, -1) σ1 (by omega) hG1 (fun i hi => (hv i hi).wb (by omega) f1) n7 y2 hcl (hy.fr f1 y_wb_s) b1
          have f12 := f1.trans f2
          have hG2 := f12.G hG
          obtain ⟨-, -, -, e132, -, y12, -, -, hrl2, ⟨-, -, n02⟩, -⟩ := id (hf.wb hn ht.2 f12)
          obtain ⟨τ, a3, f3, g3⟩ := l210 D (w := Int32.ofNat r) ht.2 hl5 mb i3 t 0 (-1, -1) σ2 (by omega) hG2 (fun i hi => (hv i hi).wb (by omega) f12) ((f12.I (y_wb_o (by omega) _)).trans t1) y12 hrl2 (hy.fr f12 y_wb_s)
          have f3' : x_fr y_wb y_vt σ2 τ := by
            refine f3.fix (fun a u' h1 h2 => ?_)
            rcases h1 with h1 | ⟨rfl, rfl⟩
            · exact absurd (Or.inl h1) h2
            · rw [g3]; exact e132.symm
          refine x_op_fr hR _ ⟨_, rfl⟩ y_wb_per (Eq.trans ?_ a2) f12 (Eq.trans ?_ a3) f3'
          · show x_run (D + 7) 109 [.inr (.inr (some 0)), .inl (Int32.ofNat s), .inl (Int32.ofNat l), .inl i3] σ = _
            rw [r109, e109_0, x_k0 hG, h122, x_cr_s, x_k0 hG, x_q0_0 hG, x_der_s, x_k1 hG, m65_in _ hG hn hl l2, x_cr_s, x_nul_s, x_nul_s, m126, x_ci_s, x_b1_1 c3, if_neg one, x_k0 hG, x_q0_10 hG, x_der_s, x_k37 hG, a1, x_cv_s]
            rfl
          · show x_run (D + 7) 210 [.inr (.inr (some 78)), .inl (Int32.ofNat s), .inl (Int32.ofNat l), .inl i3] σ2 = _
            rw [r210, e210_0, x_k78 hG2, m202_in (D + 3) hG2 hn hl n02 (h201 _ _ f12), x_ci_s, if_pos rfl, m133, x_ci_s, x_b1_1 c3, if_neg one, x_k78 hG2, e132]
            rfl
        · refine fin ?_ ?_
          · rw [r109, e109_0, x_k0 hG, h122, x_cr_s, x_k0 hG, x_q0_0 hG, x_der_s, x_k1 hG, m65_in _ hG hn hl l2, x_cr_s, x_nul_s, x_nul_s, m126, x_ci_s, x_b1_0 c3, if_pos rfl]
          · rw [r210, e210_0, x_k78 hG, m202_in (D + 3) hG hn hl l1 (h201 _ _ (x_fr.refl _ _ _)), x_ci_s, if_pos rfl, m133, x_ci_s, x_b1_0 c3, if_pos rfl]
      · refine fin ?_ ?_
        · rw [r109, e109_0, x_k0 hG, h122, x_cr_s, x_k0 hG, x_q0_0 hG, x_der_s, x_k1 hG, m65_out _ hG h2 l2, x_cr_s, x_nul_s, x_nul_n]
        · rw [r210, e210_0, x_k78 hG, m202_out (D + 3) hG hn h2 l1 (h201 _ _ (x_fr.refl _ _ _)), x_ci_s, if_neg (by decide)]
    · refine fin ?_ ?_
      · rw [r109, e109_0, x_k0 hG, h122, x_cr_s, x_k0 hG, x_q0_0 hG, x_der_s, x_k1 hG]
        rcases x_split hn i2 with ⟨l, hl, rfl⟩ | h2
        · rw [m65_in _ hG hn hl l2, x_cr_s, x_nul_n]
        · rw [m65_out _ hG h2 l2, x_cr_s, x_nul_n]
      · rw [r210, e210_0, x_k78 hG, m202_no (D + 3) hG hv0 (h201 _), x_ci_s, if_neg hv0]
