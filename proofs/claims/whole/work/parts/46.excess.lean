/-! excess, law -/
theorem x_fr.fix {W W' V : Nat → Nat → Prop} {σ τ : xS} (f : x_fr W V σ τ) (h : ∀ a u, W a u → ¬ W' a u → x_I τ a u = x_I σ a u) : x_fr W' V σ τ := by
  refine ⟨f.1, f.2.1, fun a u g => ?_, f.2.2.2⟩
  by_cases c : W a u
  · exact h a u c g
  · exact f.I c
theorem m12 (d : Nat) {σ : xS} (hG : x_G σ) {c a : Nat} (hc : Nat.beq (x_nth x_K c).1 2 = true) (ha : Nat.beq (x_nth x_K a).1 2 = true) (ne : a ≠ c) : ∃ τ, x_run (d + 1) 12 [.inr (.inr (some c)), .inr (.inr (some a))] σ = some (none, τ) ∧ x_fr (fun b _ => b = c) x_w0 σ τ ∧ ∀ u, u < 8 → x_I τ c u = x_I σ a u := by
  have kc : ∀ (τ : xS) (K : Option xR), x_G τ → x_ck τ c 2 K = K := fun τ K h => x_ckk h.1 hc K
  have ka : ∀ (τ : xS) (K : Option xR), x_G τ → x_ck τ a 2 K = K := fun τ K h => x_ckk h.1 ha K
  rw [r12, e12_0]
  simp only [↓x_der_s, x_der_s, ↓kc, ↓ka, hG, x_Gsi, x_Isi, ne, false_and, if_false]
  refine ⟨_, rfl, (((((((((x_fr.refl (fun b _ => b = c) x_w0 σ).si _ rfl).si _ rfl).si _ rfl).si _ rfl).si _ rfl).si _ rfl).si _ rfl).si _ rfl), fun u hu => ?_⟩
  rcases (show u = 0 ∨ u = 1 ∨ u = 2 ∨ u = 3 ∨ u = 4 ∨ u = 5 ∨ u = 6 ∨ u = 7 by omega) with rfl | rfl | rfl | rfl | rfl | rfl | rfl | rfl <;> simp [x_Isi]
def y_pe (i3 : Int32) (S : y_S) : Int64 := if i3 = 0 then Int64.ofNat S.2.2.1 else Int64.ofNat S.2.2.2.1
def y_ef (p : Nat → List Int32) (k m s u y : Int32) (q : Nat) (i3 : Int32) (i : Nat) (b : Int32 × Int64) : Int32 × Int64 := y_of b (Int32.ofNat (10 * i)) (y_pe i3 (y_all p k m (Int32.ofNat (10 * i)) s u y q))
theorem y_e10 {i : Nat} (h : i < 100) : x_bd (Int32.ofNat (10 * i)) 0 999 := x_bd_k (n := 999) (by omega) (by omega)
theorem y_10 (i : Nat) : Int32.ofNat (10 * i) + 10 = Int32.ofNat (10 * (i + 1)) := by
  rw [show (10 : Int32) = Int32.ofNat 10 from rfl, ← Int32.ofNat_add, Nat.mul_succ]
theorem l91 (D : Nat) {t r : Nat} {o : Nat → Nat} {p : Nat → List Int32} {k m s u y : Int32} (ht : t ≤ 6) (hr : r < t) (mb : x_bd m 0 9) (sb : x_bd s 0 100) {q : Nat} (hq : q ≤ 6) (i3 : Int32) : ∀ c i b σ, i + c = 100 → x_G σ → x_tv σ r o p → x_I σ 0 7 = Int32.ofNat t → x_I σ 1 6 = Int32.ofNat r → x_I σ 1 2 = y → (x_I σ 36 0 = k ∧ x_I σ 36 1 = m ∧ x_I σ 36 4 = s ∧ x_I σ 36 7 = u) → y_bs σ b → ∃ τ, x_f (D + 6) 91 59 [some (.inr (.inr (some 0))), none, some (.inl (Int32.ofNat q)), some (.inl i3), none, some (.inl (Int32.ofNat (10 * i)))] [] σ = some (some (.inl (x_it (y_ef p k m s u y q i3) i c b).1), τ) ∧ x_fr y_wb y_vt σ τ
  | 0, i, b, σ, hi, hG, hv, n7, e6, y2, hg, hb => by
    refine ⟨σ, ?_, x_fr.refl _ _ _⟩
    rw [x_feq, e91_59, if_pos (show (990 : Int32) < Int32.ofNat (10 * i) from Int32.not_le.mp (fun h => absurd ((x_le (b := 990) (by omega) (by omega)).mp h) (by omega))), x_k0 hG, x_q0_10 hG, x_der_s, x_k37 hG, hb.1]
    rfl
  | c + 1, i, b, σ, hi, hG, hv, n7, e6, y2, hg, hb => by
    have f0 : x_fr y_wb y_vt σ (x_si σ 36 3 (Int32.ofNat (10 * i))) := (x_fr.refl y_wb y_vt σ).si _ (Or.inr (Or.inl rfl))
    have hG0 := f0.G hG
    have n70 := (f0.I (y_wb_o (by omega) _)).trans n7
    have e60 := (f0.I (y_wb_o (by omega) _)).trans e6
    have y20 := (f0.I (y_wb_o (by omega) _)).trans y2
    have hcl : y_cl (x_si σ 36 3 (Int32.ofNat (10 * i))) 36 k m (Int32.ofNat (10 * i)) s u := ⟨hg.1, hg.2.1, rfl, hg.2.2.1, hg.2.2.2⟩
    obtain ⟨σ1, a1, f1, j1⟩ := m27 D hG0 (show r < 6 by omega) (hv.wb (by omega) f0) (c := 36) rfl hcl mb (y_e10 (show i < 100 by omega)) sb hq y
    have hG1 := f1.G hG0
    have g36 : ∀ w, x_I σ1 36 w = x_I (x_si σ 36 3 (Int32.ofNat (10 * i))) 36 w := fun w => f1.I (by unfold x_wt; omega)
    obtain ⟨σ2, a2, f2, b2⟩ := m9 (D + 5) hG1 (b := b) ⟨(f1.I (by unfold x_wt; omega)).trans hb.1, (f1.J (by unfold y_vj; omega)).trans hb.2⟩ (Int32.ofNat (10 * i)) (y_pe i3 (y_all p k m (Int32.ofNat (10 * i)) s u y q))
    have f02 := (f0.trans f1.wb).trans f2
    have h36 : ∀ w, x_I σ2 36 w = x_I (x_si σ 36 3 (Int32.ofNat (10 * i))) 36 w := by
      intro w
      rw [← g36 w]
      have a3 := a2
      rw [r9, e9_0, x_k37 hG1] at a3
      by_cases c : lg_cmp (y_pe i3 (y_all p k m (Int32.ofNat (10 * i)) s u y q)) (x_J σ1 37 1) ≤ 0
      · rw [if_pos c] at a3
        injection a3 with a3; injection a3 with _ a3; rw [← a3]
      · rw [if_neg c] at a3
        simp only [↓x_k37, hG1, x_Gsi] at a3
        injection a3 with a3; injection a3 with _ a3; rw [← a3]; rfl
    obtain ⟨τ, a3, f3⟩ := l91 D ht hr mb sb hq i3 c (i + 1) _ σ2 (by omega) (f02.G hG) (hv.wb (by omega) f02) ((f02.I (y_wb_o (by omega) _)).trans n7) ((f02.I (y_wb_o (by omega) _)).trans e6) ((f02.I (y_wb_o (by omega) _)).trans y2) ⟨(h36 0).trans hg.1, (h36 1).trans hg.2.1, (h36 4).trans hg.2.2.1, (h36 7).trans hg.2.2.2⟩ b2
    refine ⟨τ, ?_, f02.trans f3⟩
    rw [x_feq, e91_59, if_neg (show ¬ (990 : Int32) < Int32.ofNat (10 * i) from Int32.not_lt.mpr ((x_le (b := 990) (by omega) (by omega)).mpr (by omega)))]
    simp only [↓x_k0, ↓x_k1, ↓x_k36, ↓x_k38, hG, hG0, x_Gsi, x_Qsi, x_q0_0, x_q0_9, x_q0_11, m120 _ hG0 ht hr n70 e60, x_cr_s, x_der_s, ↓x_der_s, y20, a1, x_cv_s]
    rw [x_k0 hG1]
    refine Eq.trans ?_ a3
    unfold y_pe at a2
    by_cases c : i3 = 0
    · rw [if_pos c] at a2 ⊢
      simp only [↓x_k0, ↓x_k37, ↓x_k38, hG1, x_q0_10, x_q0_11, x_der_s, ↓x_der_s, j1.2.2.1, a2, x_cv_s, y_10]
    · rw [if_neg c] at a2 ⊢
      simp only [↓x_k0, ↓x_k37, ↓x_k38, hG1, x_q0_10, x_q0_11, x_der_s, ↓x_der_s, j1.2.2.2.1, a2, x_cv_s, y_10]
def y_we (l : Nat) (b u : Nat) : Prop := x_wt b u ∨ (b = 81 ∧ u = 6 * l + 1)
theorem y_we_t {t : Nat} (ht : t < 6) (l u : Nat) : ¬ y_we l (x_tc t + 1) u ∧ ¬ y_we l (x_tc t + 3) u := by
  unfold y_we x_wt
  rcases (show t = 0 ∨ t = 1 ∨ t = 2 ∨ t = 3 ∨ t = 4 ∨ t = 5 by omega) with rfl | rfl | rfl | rfl | rfl | rfl <;> simp [x_tc]
theorem x_tv.we {σ τ : xS} {V : Nat → Nat → Prop} {t l : Nat} {o : Nat → Nat} {p : Nat → List Int32} (ht : t < 6) (f : x_fr (y_we l) V σ τ) (h : x_tv σ t o p) : x_tv τ t o p := x_tv.at (fun u => f.I (by unfold y_we x_wt; omega)) (fun u => f.I (by unfold y_we x_wt; omega)) (fun u => f.I (y_we_t ht l u).1) (fun u => f.I (y_we_t ht l u).2) h
theorem l174 (D : Nat) {t r l : Nat} {o : Nat → Nat} {p : Nat → List Int32} {k m s u y w : Int32} (hr : r < 6) (hl : l < 5) (mb : x_bd m 0 9) (sb : x_bd s 0 100) {q : Nat} (hq : q ≤ 6) (i3 : Int32) : ∀ c i b σ, i + c = 100 → x_G σ → x_tv σ r o p → x_I σ 78 13 = Int32.ofNat r → x_I σ 78 4 = y → (x_I σ 79 l = k ∧ x_I σ 80 l = m ∧ x_I σ 81 (6 * l + 2) = s ∧ x_I σ 81 (6 * l + 5) = u) → ∃ τ, x_f (D + 6) 174 57 [some (.inr (.inr (some 78))), some (.inl (Int32.ofNat l)), some (.inl (Int32.ofNat q)), some (.inl i3), some (.inl w), some (.inl b.1), some (.inr (.inl b.2)), none, some (.inl (Int32.ofNat (10 * i))), none, none] [] σ = some (some (.inl (x_it (y_ef p k m s u y q i3) i c b).1), τ) ∧ x_fr (y_we l) y_vt σ τ ∧ x_I τ 81 (6 * l + 1) = w
  | 0, i, b, σ, hi, hG, hv, h13, hy, hg => by
    refine ⟨x_si σ 81 (6 * l + 1) w, ?_, (x_fr.refl (y_we l) y_vt σ).si _ (Or.inr ⟨rfl, rfl⟩), by rw [x_Isi, if_pos ⟨rfl, rfl⟩]⟩
    rw [x_feq, e174_57, if_pos (show (1000 : Int32) ≤ Int32.ofNat (10 * i) from (x_le (a := 1000) (by omega) (by omega)).mpr (by omega)), x_k78 hG, x_q78_3 hG, x_der_s, x_k81 hG, x_6i1 hl, x_6n1 hl]
    rfl
  | c + 1, i, b, σ, hi, hG, hv, h13, hy, hg => by
    have f0 : x_fr (y_we l) y_vt σ (x_si σ 81 (6 * l + 1) (Int32.ofNat (10 * i))) := (x_fr.refl (y_we l) y_vt σ).si _ (Or.inr ⟨rfl, rfl⟩)
    have hG0 := f0.G hG
    have ne : ∀ {b' : Nat}, (b' < 31 ∨ 93 < b' ∨ (69 < b' ∧ b' < 92)) → b' ≠ 81 → ∀ u', ¬ y_we l b' u' := fun h1 h2 u' => by unfold y_we x_wt; omega
    have hrl : y_rl (x_si σ 81 (6 * l + 1) (Int32.ofNat (10 * i))) l k m (Int32.ofNat (10 * i)) s u := by
      refine ⟨hg.1, hg.2.1, by rw [x_Isi, if_pos ⟨rfl, rfl⟩], ?_, ?_⟩
      · rw [x_Isi, if_neg (by omega)]; exact hg.2.2.1
      · rw [x_Isi, if_neg (by omega)]; exact hg.2.2.2
    obtain ⟨σ1, a1, f1, j1⟩ := m167 (D + 1) hG0 hr (hv.we hr f0) ((f0.I (ne (by omega) (by omega) _)).trans h13) hl hrl ((f0.I (ne (by omega) (by omega) _)).trans hy) mb (y_e10 (show i < 100 by omega)) sb hq
    have hG1 := f1.G hG0
    have f01 : x_fr (y_we l) y_vt σ σ1 := f0.trans (f1.mono (fun _ _ h => Or.inl h) (fun _ _ _ => trivial))
    have f1' : ∀ {b'}, b' = 79 ∨ b' = 80 ∨ b' = 81 → ∀ u', x_I σ1 b' u' = x_I (x_si σ 81 (6 * l + 1) (Int32.ofNat (10 * i))) b' u' := fun h u' => f1.I (by unfold x_wt; omega)
    obtain ⟨τ, a3, f3, g3⟩ := l174 D (t := t) (w := w) hr hl mb sb hq i3 c (i + 1) (y_ef p k m s u y q i3 i b) σ1 (by omega) hG1 (hv.we hr f01) ((f01.I (ne (by omega) (by omega) _)).trans h13) ((f01.I (ne (by omega) (by omega) _)).trans hy) ⟨(f1' (by omega) _).trans hrl.1, (f1' (by omega) _).trans hrl.2.1, (f1' (by omega) _).trans hrl.2.2.2.1, (f1' (by omega) _).trans hrl.2.2.2.2⟩
    refine ⟨τ, ?_, f01.trans f3, g3⟩
    rw [x_feq, e174_57, if_neg (show ¬ (1000 : Int32) ≤ Int32.ofNat (10 * i) from fun h => absurd ((x_le (a := 1000) (by omega) (by omega)).mp h) (by omega))]
    simp only [↓x_k78, ↓x_k81, x_q78_3, hG, x_Gsi, x_der_s, ↓x_der_s, x_6i1, x_6n1, hl, a1, x_cv_s]
    refine Eq.trans ?_ a3
    unfold y_ef y_of y_pe
    by_cases c : i3 = 0
    · simp only [if_pos c]
      rw [x_k78 hG1, j1.2.2.1]
      by_cases g : lg_cmp (Int64.ofNat (y_all p k m (Int32.ofNat (10 * i)) s u y q).2.2.1) b.2 ≤ 0
      · simp only [if_pos g]
        rw [x_feq, e174_116, if_pos g, y_10]
      · simp only [if_neg g]
        rw [x_feq, e174_116, if_neg g, y_10]
    · simp only [if_neg c]
      rw [x_k78 hG1, j1.2.2.2.1]
      by_cases g : lg_cmp (Int64.ofNat (y_all p k m (Int32.ofNat (10 * i)) s u y q).2.2.2.1) b.2 ≤ 0
      · simp only [if_pos g]
        rw [x_feq, e174_116, if_pos g, y_10]
      · simp only [if_neg g]
        rw [x_feq, e174_116, if_neg g, y_10]
theorem x_op_excess (D : Nat) : ∀ (σ : xS) (as : List Int32), as.length = 3 → x_R σ → x_stp (D + 7) x_R false 91 174 as σ := by
  intro σ as hl hR
  match as, hl with
  | [i1, i2, i3], _ =>
    obtain ⟨hG, n, t, z, hP⟩ := id hR
    obtain ⟨hn, ht, hz, ⟨l1, l2⟩, ⟨t1, t2⟩, -⟩ := id hP
    have one : ¬ (1 : Int32) = 0 := by decide
    have fin : ∀ v : Int32, x_run (D + 7) 91 [.inr (.inr (some 0)), .inl i1, .inl i2, .inl i3] σ = some (some (.inl v), σ) → x_run (D + 7) 174 [.inr (.inr (some 78)), .inl i1, .inl i2, .inl i3] σ = some (some (.inl v), σ) → x_stp (D + 7) x_R false 91 174 [i1, i2, i3] σ := fun v e1 e2 => x_op_eq hR (.inl v) ⟨v, rfl⟩ e1 e2
    rcases x_split hn i1 with ⟨l, hl, rfl⟩ | ho
    · by_cases c2 : 1 ≤ i2 ∧ i2 ≤ 6
      · by_cases c3 : 0 ≤ i3 ∧ i3 ≤ 1
        · obtain ⟨q, hq, rfl⟩ := x_bd_of (n := 6) (by omega) ⟨Int32.le_trans (by decide) c2.1, c2.2⟩ rfl
          have hl5 : l < 5 := by omega
          obtain ⟨r, o, p, y, k, m, e, s, u, hf⟩ := y_lf_of hP hl
          obtain ⟨σ1, a1, f1, b1⟩ := m8 (D + 5) hG
          have hG1 := f1.G hG
          obtain ⟨σ2, a2, f2, g2⟩ := m12 (D + 5) hG1 (c := 36) (a := 3 + l) rfl (x_kl hl5) (by omega)
          have f2' : x_fr y_wb y_vt σ1 σ2 := f2.mono (fun b u h => Or.inr (Or.inl h)) (fun _ _ _ => trivial)
          have f12 := f1.trans f2'
          have hG2 := f12.G hG
          obtain ⟨-, hr, hv, e13, e6, y1, y2, hcl, hrl, ⟨n7, n1, n0⟩, yb, kb, mb, eb, sb, ub⟩ := id (hf.wb hn ht.2 f12)
          have hcl1 := (hf.wb hn ht.2 f1).2.2.2.2.2.2.2.1
          obtain ⟨σ3, a3, f3⟩ := l91 D ht.2 hr mb sb hq i3 100 0 (-1, -1) σ2 (by omega) hG2 hv n7 e6 y2 ⟨(g2 0 (by omega)).trans hcl1.1, (g2 1 (by omega)).trans hcl1.2.1, (g2 4 (by omega)).trans hcl1.2.2.2.1, (g2 7 (by omega)).trans hcl1.2.2.2.2⟩ ⟨(f2.I (by omega)).trans b1.1, (f2.J (fun h => h)).trans b1.2⟩
          have f13 := f12.trans f3
          have hG3 := f13.G hG
          obtain ⟨-, -, hv3, e133, -, y13, -, -, hrl3, -⟩ := id (hf.wb hn ht.2 f13)
          obtain ⟨τ, a4, f4, g4⟩ := l174 D (t := t) (w := e) (show r < 6 by omega) hl5 mb sb hq i3 100 0 (-1, -1) σ3 (by omega) hG3 hv3 e133 y13 ⟨hrl3.1, hrl3.2.1, hrl3.2.2.2.1, hrl3.2.2.2.2⟩
          have f4' : x_fr y_wb y_vt σ3 τ := by
            refine f4.fix (fun a u' h1 h2 => ?_)
            rcases h1 with h1 | ⟨rfl, rfl⟩
            · exact absurd (Or.inl h1) h2
            · rw [g4]; exact hrl3.2.2.1.symm
          refine x_op_fr hR _ ⟨_, rfl⟩ y_wb_per (Eq.trans ?_ a3) f13 (Eq.trans ?_ a4) f4'
          · show x_run (D + 7) 91 [.inr (.inr (some 0)), .inl (Int32.ofNat l), .inl (Int32.ofNat q), .inl i3] σ = _
            rw [r91, e91_0, x_k0 hG, x_q0_0 hG, x_der_s, x_k1 hG, m65_in _ hG hn hl l2, x_cr_s, x_nul_s, m126, x_ci_s, x_b1_1 c2, if_neg one, m126, x_ci_s, x_b1_1 c3, if_neg one, x_k0 hG, x_q0_10 hG, x_der_s, x_k37 hG, a1, x_cv_s, x_k0 hG1, x_q0_9 hG1, x_der_s, x_k36 hG1, a2, x_cv_s]
            rfl
          · show x_run (D + 7) 174 [.inr (.inr (some 78)), .inl (Int32.ofNat l), .inl (Int32.ofNat q), .inl i3] σ3 = _
            rw [r174, e174_0, x_k78 hG3, m135_in _ hG3 hn hl ((f13.I (y_wb_o (by omega) _)).trans l1), x_ci_s, if_neg one, m133, x_ci_s, x_b1_1 c2, if_neg one, m133, x_ci_s, x_b1_1 c3, if_neg one, x_k78 hG3, x_q78_3 hG3, x_der_s, x_k81 hG3, x_6i1 hl5, x_6n1 hl5, hrl3.2.2.1]
            rfl
        · refine fin (-7) ?_ ?_
          · rw [r91, e91_0, x_k0 hG, x_q0_0 hG, x_der_s, x_k1 hG, m65_in _ hG hn hl l2, x_cr_s, x_nul_s, m126, x_ci_s, x_b1_1 c2, if_neg one, m126, x_ci_s, x_b1_0 c3, if_pos rfl]
          · rw [r174, e174_0, x_k78 hG, m135_in _ hG hn hl l1, x_ci_s, if_neg one, m133, x_ci_s, x_b1_1 c2, if_neg one, m133, x_ci_s, x_b1_0 c3, if_pos rfl]
      · refine fin (-7) ?_ ?_
        · rw [r91, e91_0, x_k0 hG, x_q0_0 hG, x_der_s, x_k1 hG, m65_in _ hG hn hl l2, x_cr_s, x_nul_s, m126, x_ci_s, x_b1_0 c2, if_pos rfl]
        · rw [r174, e174_0, x_k78 hG, m135_in _ hG hn hl l1, x_ci_s, if_neg one, m133, x_ci_s, x_b1_0 c2, if_pos rfl]
    · refine fin (-5) ?_ ?_
      · rw [r91, e91_0, x_k0 hG, x_q0_0 hG, x_der_s, x_k1 hG, m65_out _ hG ho l2, x_cr_s, x_nul_n]
      · rw [r174, e174_0, x_k78 hG, m135_out _ hG hn ho l1, x_ci_s, if_pos rfl]
