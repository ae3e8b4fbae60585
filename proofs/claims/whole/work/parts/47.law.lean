/-! law -/
def y_lw (P : Nat → Nat → List Int32) (k m e s u y : Int32) (q i : Nat) (b : Int32 × Int64) : Int32 × Int64 := y_of b (Int32.ofNat i) (Int64.ofNat (y_all (P i) k m e s u y q).2.2.1)
theorem l110 (D : Nat) {t l : Nat} {O : Nat → Nat → Nat} {P : Nat → Nat → List Int32} {k m e s u y : Int32} (ht : t ≤ 6) (hl : l < 5) (mb : x_bd m 0 9) (eb : x_bd e 0 999) (sb : x_bd s 0 100) {q : Nat} (hq : q ≤ 6) : ∀ c i b σ, i + c = t → x_G σ → (∀ i, i < t → x_tv σ i (O i) (P i)) → x_I σ 0 7 = Int32.ofNat t → x_I σ 1 2 = y → y_cl σ (3 + l) k m e s u → y_bs σ b → ∃ τ, x_f (D + 6) 110 39 [some (.inr (.inr (some 0))), none, some (.inl (Int32.ofNat q)), some (.inr (.inr (some (3 + l)))), some (.inl (Int32.ofNat i))] [] σ = some (some (.inl (x_it (y_lw P k m e s u y q) i c b).1), τ) ∧ x_fr y_wb y_vt σ τ
  | 0, i, b, σ, hi, hG, hv, n7, y2, hcl, hb => by
    refine ⟨σ, ?_, x_fr.refl _ _ _⟩
    rw [x_feq, e110_39, x_k0 hG, n7, if_pos ((x_le (by omega) (by omega)).mpr (by omega)), x_k0 hG, x_q0_10 hG, x_der_s, x_k37 hG, hb.1]
    rfl
  | c + 1, i, b, σ, hi, hG, hv, n7, y2, hcl, hb => by
    obtain ⟨σ1, a1, f1, j1⟩ := m27 D hG (show i < 6 by omega) (hv i (by omega)) (x_kl hl) hcl mb eb sb hq y
    have hG1 := f1.G hG
    obtain ⟨σ2, a2, f2, b2⟩ := m9 (D + 5) hG1 (b := b) ⟨(f1.I (by unfold x_wt; omega)).trans hb.1, (f1.J (by unfold y_vj; omega)).trans hb.2⟩ (Int32.ofNat i) (Int64.ofNat (y_all (P i) k m e s u y q).2.2.1)
    have f02 := f1.wb.trans f2
    obtain ⟨τ, a3, f3⟩ := l110 D ht hl mb eb sb hq c (i + 1) _ σ2 (by omega) (f02.G hG) (fun i hi => (hv i hi).wb (by omega) f02) ((f02.I (y_wb_o (by omega) _)).trans n7) ((f02.I (y_wb_o (by omega) _)).trans y2) (hcl.fr f02 (y_wb_o (by omega))) b2
    refine ⟨τ, ?_, f02.trans f3⟩
    rw [x_feq, e110_39, x_k0 hG, n7, if_neg (fun h => absurd ((x_le (by omega) (by omega)).mp h) (by omega))]
    simp only [↓x_k0, ↓x_k1, ↓x_k38, hG, x_q0_0, x_q0_11, m119 _ hG ht (show i < t by omega) n7, x_cr_s, x_der_s, ↓x_der_s, y2, a1, x_cv_s]
    simp only [↓x_k0, ↓x_k37, ↓x_k38, hG1, x_q0_10, x_q0_11, x_der_s, ↓x_der_s, j1.2.2.1, a2, x_cv_s, x_s1]
    exact a3
def y_wl (b u : Nat) : Prop := x_wt b u ∨ (b = 78 ∧ u = 13)
theorem y_wl_t {t : Nat} (ht : t < 6) (u : Nat) : ¬ y_wl (x_tc t + 1) u ∧ ¬ y_wl (x_tc t + 3) u := by
  unfold y_wl x_wt
  rcases (show t = 0 ∨ t = 1 ∨ t = 2 ∨ t = 3 ∨ t = 4 ∨ t = 5 by omega) with rfl | rfl | rfl | rfl | rfl | rfl <;> simp [x_tc]
theorem x_tv.wl {σ τ : xS} {V : Nat → Nat → Prop} {t : Nat} {o : Nat → Nat} {p : Nat → List Int32} (ht : t < 6) (f : x_fr y_wl V σ τ) (h : x_tv σ t o p) : x_tv τ t o p := x_tv.at (fun u => f.I (by unfold y_wl x_wt; omega)) (fun u => f.I (by unfold y_wl x_wt; omega)) (fun u => f.I (y_wl_t ht u).1) (fun u => f.I (y_wl_t ht u).2) h
theorem l211 (D : Nat) {t l : Nat} {O : Nat → Nat → Nat} {P : Nat → Nat → List Int32} {k m e s u y w : Int32} (ht : t ≤ 6) (hl : l < 5) (mb : x_bd m 0 9) (eb : x_bd e 0 999) (sb : x_bd s 0 100) {q : Nat} (hq : q ≤ 6) : ∀ c i b σ, i + c = t → x_G σ → (∀ i, i < t → x_tv σ i (O i) (P i)) → x_I σ 78 12 = Int32.ofNat t → x_I σ 78 4 = y → y_rl σ l k m e s u → ∃ τ, x_f (D + 6) 211 16 [some (.inr (.inr (some 78))), some (.inl (Int32.ofNat l)), some (.inl (Int32.ofNat q)), some (.inl w), some (.inl b.1), some (.inr (.inl b.2)), none, some (.inl (Int32.ofNat i))] [] σ = some (some (.inl (x_it (y_lw P k m e s u y q) i c b).1), τ) ∧ x_fr y_wl y_vt σ τ ∧ x_I τ 78 13 = w
  | 0, i, b, σ, hi, hG, hv, h12, hy, hrl => by
    refine ⟨x_si σ 78 13 w, ?_, (x_fr.refl y_wl y_vt σ).si _ (Or.inr ⟨rfl, rfl⟩), by rw [x_Isi, if_pos ⟨rfl, rfl⟩]⟩
    rw [x_feq, e211_16, x_k78 hG, h12, if_pos ((x_le (by omega) (by omega)).mpr (by omega)), x_k78 hG]
    rfl
  | c + 1, i, b, σ, hi, hG, hv, h12, hy, hrl => by
    have f0 : x_fr y_wl y_vt σ (x_si σ 78 13 (Int32.ofNat i)) := (x_fr.refl y_wl y_vt σ).si _ (Or.inr ⟨rfl, rfl⟩)
    have hG0 := f0.G hG
    have ne : ∀ {b'}, b' = 79 ∨ b' = 80 ∨ b' = 81 → ∀ u', ¬ y_wl b' u' := fun h1 u' => by unfold y_wl x_wt; omega
    have hrl0 := hrl.fr f0 (ne (by omega)) (ne (by omega)) (ne (by omega))
    obtain ⟨σ1, a1, f1, j1⟩ := m167 (D + 1) hG0 (show i < 6 by omega) ((hv i (by omega)).wl (by omega) f0) (by rw [x_Isi, if_pos ⟨rfl, rfl⟩]) hl hrl0 ((f0.I (by unfold y_wl x_wt; omega)).trans hy) mb eb sb hq
    have hG1 := f1.G hG0
    have f01 : x_fr y_wl y_vt σ σ1 := f0.trans (f1.mono (fun _ _ h => Or.inl h) (fun _ _ _ => trivial))
    obtain ⟨τ, a3, f3, g3⟩ := l211 D (w := w) ht hl mb eb sb hq c (i + 1) (y_lw P k m e s u y q i b) σ1 (by omega) hG1 (fun i hi => (hv i hi).wl (by omega) f01) ((f01.I (by unfold y_wl x_wt; omega)).trans h12) ((f01.I (by unfold y_wl x_wt; omega)).trans hy) (hrl.fr f01 (ne (by omega)) (ne (by omega)) (ne (by omega)))
    refine ⟨τ, ?_, f01.trans f3, g3⟩
    rw [x_feq, e211_16, x_k78 hG, h12, if_neg (fun h => absurd ((x_le (by omega) (by omega)).mp h) (by omega)), x_k78 hG]
    simp only [↓x_k78, hG, x_Gsi, a1, x_cv_s]
    rw [x_k78 hG1, j1.2.2.1]
    refine Eq.trans ?_ a3
    unfold y_lw y_of
    by_cases g : lg_cmp (Int64.ofNat (y_all (P i) k m e s u y q).2.2.1) b.2 ≤ 0
    · simp only [if_pos g]
      rw [x_feq, e211_54, x_k78 hG1, j1.2.2.1, if_pos g, x_s1]
    · simp only [if_neg g]
      rw [x_feq, e211_54, x_k78 hG1, j1.2.2.1, if_neg g, x_k78 hG1, x_s1]
theorem y_texts {σ : xS} {n t z : Nat} (hP : x_Rp n t z σ) : ∃ (O : Nat → Nat → Nat) (P : Nat → Nat → List Int32), ∀ i, i < t → x_tv σ i (O i) (P i) := by
  obtain ⟨hn, ht, hz, -, -, -, -, -, -, htx, -⟩ := hP
  have h : ∀ i, ∃ (q : (Nat → Nat) × (Nat → List Int32)), i < t → x_tv σ i q.1 q.2 := fun i => by
    by_cases c : i < t
    · obtain ⟨o, p, g⟩ := x_tv_of (htx i c)
      exact ⟨(o, p), fun _ => g⟩
    · exact ⟨(fun _ => 0, fun _ => []), fun h => absurd h c⟩
  exact ⟨fun i => (Classical.choose (h i)).1, fun i => (Classical.choose (h i)).2, fun i hi => Classical.choose_spec (h i) hi⟩
theorem x_op_law (D : Nat) : ∀ (σ : xS) (as : List Int32), as.length = 2 → x_R σ → x_stp (D + 8) x_R false 110 212 as σ := by
  intro σ as hl hR
  match as, hl with
  | [i1, i2], _ =>
    obtain ⟨hG, n, t, z, hP⟩ := id hR
    obtain ⟨hn, ht, hz, ⟨l1, l2⟩, ⟨t1, t2⟩, -⟩ := id hP
    have one : ¬ (1 : Int32) = 0 := by decide
    have fin : ∀ v : Int32, x_run (D + 8) 110 [.inr (.inr (some 0)), .inl i1, .inl i2] σ = some (some (.inl v), σ) → x_run (D + 8) 212 [.inr (.inr (some 78)), .inl i1, .inl i2] σ = some (some (.inl v), σ) → x_stp (D + 8) x_R false 110 212 [i1, i2] σ := fun v e1 e2 => x_op_eq hR (.inl v) ⟨v, rfl⟩ e1 e2
    rcases x_split hn i1 with ⟨l, hl, rfl⟩ | ho
    · by_cases c2 : 1 ≤ i2 ∧ i2 ≤ 6
      · obtain ⟨q, hq, rfl⟩ := x_bd_of (n := 6) (by omega) ⟨Int32.le_trans (by decide) c2.1, c2.2⟩ rfl
        have hl5 : l < 5 := by omega
        obtain ⟨r, o, p, y, k, m, e, s, u, hf⟩ := y_lf_of hP hl
        obtain ⟨O, P, hv⟩ := y_texts hP
        obtain ⟨σ1, a1, f1, b1⟩ := m8 (D + 6) hG
        have hG1 := f1.G hG
        obtain ⟨-, hr, -, e13, e6, y1, y2, hcl, hrl, ⟨n7, n1, n0⟩, yb, kb, mb, eb, sb, ub⟩ := id (hf.wb hn ht.2 f1)
        obtain ⟨σ2, a2, f2⟩ := l110 (D + 1) ht.2 hl5 mb eb sb hq t 0 (-1, -1) σ1 (by omega) hG1 (fun i hi => (hv i hi).wb (by omega) f1) n7 y2 hcl b1
        have f12 := f1.trans f2
        have hG2 := f12.G hG
        obtain ⟨-, -, -, e132, -, y12, -, -, hrl2, -⟩ := id (hf.wb hn ht.2 f12)
        obtain ⟨τ, a3, f3, g3⟩ := l211 D (w := Int32.ofNat r) ht.2 hl5 mb eb sb hq t 0 (-1, -1) σ2 (by omega) hG2 (fun i hi => (hv i hi).wb (by omega) f12) ((f12.I (y_wb_o (by omega) _)).trans t1) y12 hrl2
        have f3' : x_fr y_wb y_vt σ2 τ := by
          refine f3.fix (fun a u' h1 h2 => ?_)
          rcases h1 with h1 | ⟨rfl, rfl⟩
          · exact absurd (Or.inl h1) h2
          · rw [g3]; exact e132.symm
        refine x_op_fr hR _ ⟨_, rfl⟩ y_wb_per (Eq.trans ?_ a2) f12 (Eq.trans ?_ a3) f3'
        · show x_run (D + 8) 110 [.inr (.inr (some 0)), .inl (Int32.ofNat l), .inl (Int32.ofNat q)] σ = _
          rw [r110, e110_0, x_k0 hG, x_q0_0 hG, x_der_s, x_k1 hG, m65_in _ hG hn hl l2, x_cr_s, x_nul_s, m126, x_ci_s, x_b1_1 c2, if_neg one, x_k0 hG, x_q0_10 hG, x_der_s, x_k37 hG, a1, x_cv_s]
          rfl
        · show x_run (D + 8) 212 [.inr (.inr (some 78)), .inl (Int32.ofNat l), .inl (Int32.ofNat q)] σ2 = _
          have e : x_run (D + 7) 211 [.inr (.inr (some 78)), .inl (Int32.ofNat l), .inl (Int32.ofNat q)] σ2 = some (some (Sum.inl (x_it (y_lw P k m e s u y q) 0 t (-1, -1)).1), τ) := by
            rw [r211, e211_0, x_k78 hG2, e132]
            exact a3
          rw [r212, e212_0, x_k78 hG2, m135_in _ hG2 hn hl ((f12.I (y_wb_o (by omega) _)).trans l1), x_ci_s, if_neg one, m133, x_ci_s, x_b1_1 c2, if_neg one, x_k78 hG2, e, x_ci_s]
          exact a3.symm
      · refine fin (-7) ?_ ?_
        · rw [r110, e110_0, x_k0 hG, x_q0_0 hG, x_der_s, x_k1 hG, m65_in _ hG hn hl l2, x_cr_s, x_nul_s, m126, x_ci_s, x_b1_0 c2, if_pos rfl]
        · rw [r212, e212_0, x_k78 hG, m135_in _ hG hn hl l1, x_ci_s, if_neg one, m133, x_ci_s, x_b1_0 c2, if_pos rfl]
    · refine fin (-5) ?_ ?_
      · rw [r110, e110_0, x_k0 hG, x_q0_0 hG, x_der_s, x_k1 hG, m65_out _ hG ho l2, x_cr_s, x_nul_n]
      · rw [r212, e212_0, x_k78 hG, m135_out _ hG hn ho l1, x_ci_s, if_pos rfl]
