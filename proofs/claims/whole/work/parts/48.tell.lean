/-! told years: how likely, the first that cannot be -/
/-- a sheet on both sides: its size, its cells -/
def y_sh (σ : xS) (s N : Nat) (V : Nat → Int32) : Prop := s < 4 ∧ N ≤ 40 ∧ x_I σ (70 + 2 * s) 2 = Int32.ofNat N ∧ x_I σ 87 s = Int32.ofNat N ∧ ∀ i, i < 40 → x_I σ (71 + 2 * s) i = V i ∧ x_I σ 88 (40 * s + i) = V i
theorem y_sh.fr {W Q : Nat → Nat → Prop} {σ τ : xS} {s N : Nat} {V : Nat → Int32} (f : x_fr W Q σ τ) (hw : ∀ b, (70 ≤ b ∧ b ≤ 77) ∨ b = 87 ∨ b = 88 → ∀ u, ¬ W b u) (h : y_sh σ s N V) : y_sh τ s N V := by
  obtain ⟨h1, h2, h3, h4, h5⟩ := h
  exact ⟨h1, h2, (f.I (hw _ (by omega) _)).trans h3, (f.I (hw _ (by omega) _)).trans h4, fun i hi => ⟨(f.I (hw _ (by omega) _)).trans (h5 i hi).1, (f.I (hw _ (by omega) _)).trans (h5 i hi).2⟩⟩
theorem x_wt_s : ∀ b, (70 ≤ b ∧ b ≤ 77) ∨ b = 87 ∨ b = 88 → ∀ u, ¬ x_wt b u := fun b h u => x_wt_o (by omega) u
theorem m31 (d : Nat) {σ : xS} (hG : x_G σ) {s N i : Nat} {V : Nat → Int32} (h : y_sh σ s N V) (hi : i < 40) : x_run (d + 2) 31 [.inr (.inr (some (70 + 2 * s))), .inl (Int32.ofNat i)] σ = some (some (.inl (V i)), σ) := by
  have ha : x_nth x_K (71 + 2 * s) = (11, 40) := by
    have hs := h.1
    rcases (show s = 0 ∨ s = 1 ∨ s = 2 ∨ s = 3 by omega) with rfl | rfl | rfl | rfl <;> rfl
  rw [r31, e31_0, x_ks5 hG h.1, x_qs5 hG h.1, m129 d hG ha hi (by omega), x_ci_s, (h.2.2.2.2 i hi).1]
/-- a told year: how likely (in longs), how many windfalls behind it -/
def y_lf1 (p : Nat → List Int32) (k m e s1 y : Int32) (V : Nat → Int32) (i : Nat) (a : Int64 × Int32) : Int64 × Int32 := if V i = 0 then (a.1 * (100 - x_O p k m e s1 (y + Int32.ofNat i) a.2).toInt64 / 100, a.2) else (if V i = x_Z p k m e s1 (y + Int32.ofNat i) a.2 then a.1 * (x_O p k m e s1 (y + Int32.ofNat i) a.2).toInt64 / 100 else 0, a.2 + 1)
theorem l36 (d : Nat) {r s N c : Nat} (hr : r < 6) {o : Nat → Nat} {p : Nat → List Int32} {V : Nat → Int32} {y : Int32} (hc : Nat.beq (x_nth x_K c).1 2 = true) {k m e s1 u : Int32} (mb : x_bd m 0 9) : ∀ q i j w σ, i + q = N → x_G σ → x_tv σ r o p → y_cl σ c k m e s1 u → y_sh σ s N V → ∃ τ, x_f (d + 4) 36 14 [some (.inr (.inr (some (70 + 2 * s)))), some (.inr (.inr (some c))), some (.inr (.inr (some (x_tc r)))), some (.inl y), some (.inr (.inl j)), none, some (.inl w), some (.inl (Int32.ofNat i)), none, none, none] [] σ = some (some (.inr (.inl (x_it (y_lf1 p k m e s1 y V) i q (j, w)).1)), τ) ∧ x_fr x_wt x_w0 σ τ
  | 0, i, j, w, σ, hi, hG, hv, hcl, hs => by
    refine ⟨σ, ?_, x_fr.refl _ _ _⟩
    have h40 := hs.2.1
    rw [x_feq, e36_14, x_ks5 hG hs.1, hs.2.2.1, if_pos ((x_le (by omega) (by omega)).mpr (by omega))]
    rfl
  | q + 1, i, j, w, σ, hi, hG, hv, hcl, hs => by
    have h40 := hs.2.1
    have kc : ∀ (τ : xS) (K : Option xR), x_G τ → x_ck τ c 2 K = K := fun τ K h => x_ckk h.1 hc K
    obtain ⟨σ1, a1, f1⟩ := c16 d hG hr hv hc hcl mb (y + Int32.ofNat i) w
    have hG1 := f1.G hG
    have z100 : ¬ (100 : Int64) = 0 := by decide
    by_cases c0 : V i = 0
    · obtain ⟨τ, a2, f2⟩ := l36 d hr hc mb q (i + 1) (j * (100 - x_O p k m e s1 (y + Int32.ofNat i) w).toInt64 / 100) w σ1 (by omega) hG1 (hv.fr hr f1) (hcl.fr f1 (x_wt_c hc)) (hs.fr f1 x_wt_s)
      refine ⟨τ, ?_, f1.trans f2⟩
      rw [x_feq, e36_14, x_ks5 hG hs.1, hs.2.2.1, if_neg (fun h => absurd ((x_le (by omega) (by omega)).mp h) (by omega)), x_ks5 hG hs.1, m31 _ hG hs (show i < 40 by omega), x_ci_s, x_der_s, kc _ _ hG, a1, x_ci_s, if_pos c0, x_s1, a2]
      show _ = some (some (Sum.inr (Sum.inl (x_it (y_lf1 p k m e s1 y V) (i + 1) q (y_lf1 p k m e s1 y V i (j, w))).1)), τ)
      rw [show y_lf1 p k m e s1 y V i (j, w) = (j * (100 - x_O p k m e s1 (y + Int32.ofNat i) w).toInt64 / 100, w) from if_pos c0]
    · obtain ⟨σ2, a2, f2⟩ := c18 d hG1 hr (hv.fr hr f1) hc (hcl.fr f1 (x_wt_c hc)) (y + Int32.ofNat i) w
      have f12 := f1.trans f2
      have hG2 := f12.G hG
      obtain ⟨τ, a3, f3⟩ := l36 d hr hc mb q (i + 1) (if V i = x_Z p k m e s1 (y + Int32.ofNat i) w then j * (x_O p k m e s1 (y + Int32.ofNat i) w).toInt64 / 100 else 0) (w + 1) σ2 (by omega) hG2 (hv.fr hr f12) (hcl.fr f12 (x_wt_c hc)) (hs.fr f12 x_wt_s)
      refine ⟨τ, ?_, f12.trans f3⟩
      rw [x_feq, e36_14, x_ks5 hG hs.1, hs.2.2.1, if_neg (fun h => absurd ((x_le (by omega) (by omega)).mp h) (by omega)), x_ks5 hG hs.1, m31 _ hG hs (show i < 40 by omega), x_ci_s, x_der_s, kc _ _ hG, a1, x_ci_s, if_neg c0, x_der_s, kc _ _ hG1, a2, x_ci_s]
      refine Eq.trans ?_ (a3.trans ?_)
      · by_cases c1 : V i = x_Z p k m e s1 (y + Int32.ofNat i) w
        · rw [if_pos c1, if_pos c1, x_feq, e36_88, if_neg (by decide), x_s1]
        · rw [if_neg c1, if_neg c1, x_feq, e36_88, if_pos rfl, x_s1]
      · show some (some (Sum.inr (Sum.inl _)), τ) = some (some (Sum.inr (Sum.inl (x_it (y_lf1 p k m e s1 y V) (i + 1) q (y_lf1 p k m e s1 y V i (j, w))).1)), τ)
        rw [show y_lf1 p k m e s1 y V i (j, w) = (if V i = x_Z p k m e s1 (y + Int32.ofNat i) w then j * (x_O p k m e s1 (y + Int32.ofNat i) w).toInt64 / 100 else 0, w + 1) from if_neg c0]
def y_L (p : Nat → List Int32) (k m e s1 u y : Int32) (N : Nat) (V : Nat → Int32) : Int64 := (x_it (y_lf1 p k m e s1 y V) 0 N (1000000000, u)).1
theorem m36 (d : Nat) {r s N c : Nat} (hr : r < 6) {o : Nat → Nat} {p : Nat → List Int32} {V : Nat → Int32} {y : Int32} (hc : Nat.beq (x_nth x_K c).1 2 = true) {k m e s1 u : Int32} (mb : x_bd m 0 9) {σ : xS} (hG : x_G σ) (hv : x_tv σ r o p) (hcl : y_cl σ c k m e s1 u) (hs : y_sh σ s N V) : ∃ τ, x_run (d + 5) 36 [.inr (.inr (some (70 + 2 * s))), .inr (.inr (some c)), .inr (.inr (some (x_tc r))), .inl y] σ = some (some (.inr (.inl (y_L p k m e s1 u y N V))), τ) ∧ x_fr x_wt x_w0 σ τ := by
  obtain ⟨τ, a, f⟩ := l36 d (s := s) (N := N) (V := V) (y := y) hr hc mb N 0 1000000000 u σ (by omega) hG hv hcl hs
  refine ⟨τ, ?_, f⟩
  rw [r36, e36_0, x_der_s, x_ckk hG.1 hc, hcl.2.2.2.2]
  exact a
/-- a told year of the reference, of a hundred -/
def y_pt (p : Nat → List Int32) (k m e s1 y w v : Int32) : Int32 := if v = 0 then 100 - x_O p k m e s1 y w else if x_Z p k m e s1 y w = v then x_O p k m e s1 y w else 0
theorem m203 (d : Nat) {r l : Nat} (hr : r < 6) {o : Nat → Nat} {p : Nat → List Int32} {y : Int32} (hl : l < 5) {k m e s1 u : Int32} (mb : x_bd m 0 9) {σ : xS} (hG : x_G σ) (hv : x_tv σ r o p) (h13 : x_I σ 78 13 = Int32.ofNat r) (hrl : y_rl σ l k m e s1 u) (hy : x_I σ 78 4 = y) (i2 w v : Int32) : ∃ τ, x_run (d + 5) 203 [.inr (.inr (some 78)), .inl (Int32.ofNat l), .inl i2, .inl w, .inl v] σ = some (some (.inl (y_pt p k m e s1 (y + i2) w v)), τ) ∧ x_fr x_wt x_w0 σ τ := by
  obtain ⟨σ1, a1, f1⟩ := c160 d hG hr hv h13 hl hrl mb (y + i2) w
  have hG1 := f1.G hG
  have w9 : ∀ {b}, b = 79 ∨ b = 80 ∨ b = 81 ∨ b = 78 → ∀ u, ¬ x_wt b u := fun h => x_wt_o (by omega)
  by_cases c : v = 0
  · refine ⟨σ1, ?_, f1⟩
    rw [r203, e203_0, x_k78 hG, x_k78 hG, hy, a1, x_ci_s, if_pos c, show y_pt p k m e s1 (y + i2) w v = 100 - x_O p k m e s1 (y + i2) w from if_pos c]
  · obtain ⟨σ2, a2, f2⟩ := c161 d hG1 hr (hv.fr hr f1) ((f1.I (w9 (by omega) _)).trans h13) hl (hrl.fr f1 (w9 (by omega)) (w9 (by omega)) (w9 (by omega))) (y + i2) w
    refine ⟨σ2, ?_, f1.trans f2⟩
    rw [r203, e203_0, x_k78 hG, x_k78 hG, hy, a1, x_ci_s, if_neg c, x_k78 hG1, x_k78 hG1, (f1.I (w9 (by omega) _)).trans hy, a2, x_ci_s, show y_pt p k m e s1 (y + i2) w v = (if x_Z p k m e s1 (y + i2) w = v then x_O p k m e s1 (y + i2) w else 0) from if_neg c]
    split <;> rfl
theorem l206 (d : Nat) {r s N l : Nat} (hr : r < 6) {o : Nat → Nat} {p : Nat → List Int32} {V : Nat → Int32} {y : Int32} (hl : l < 5) {k m e s1 u : Int32} (mb : x_bd m 0 9) : ∀ q i j w σ, i + q = N → x_G σ → x_tv σ r o p → x_I σ 78 13 = Int32.ofNat r → y_rl σ l k m e s1 u → x_I σ 78 4 = y → y_sh σ s N V → ∃ τ, x_f (d + 5) 206 20 [some (.inr (.inr (some 78))), some (.inl (Int32.ofNat s)), some (.inl (Int32.ofNat l)), some (.inl w), some (.inr (.inl j)), none, some (.inl (Int32.ofNat i)), none] [] σ = some (some (.inr (.inl (x_it (y_lf1 p k m e s1 y V) i q (j, w)).1)), τ) ∧ x_fr x_wt x_w0 σ τ
  | 0, i, j, w, σ, hi, hG, hv, h13, hrl, hy, hs => by
    refine ⟨σ, ?_, x_fr.refl _ _ _⟩
    have h40 := hs.2.1
    have hs4 := hs.1
    rw [x_feq, e206_20, x_k78 hG, x_q78_23 hG, x_der_s, x_k87 hG, x_i4 hs4, x_n4 hs4, hs.2.2.2.1, if_pos ((x_le (by omega) (by omega)).mpr (by omega))]
    rfl
  | q + 1, i, j, w, σ, hi, hG, hv, h13, hrl, hy, hs => by
    have h40 := hs.2.1
    have hs4 := hs.1
    have hi40 : i < 40 := by omega
    have w9 : ∀ {b}, b = 79 ∨ b = 80 ∨ b = 81 ∨ b = 78 → ∀ u, ¬ x_wt b u := fun h => x_wt_o (by omega)
    obtain ⟨σ1, a1, f1⟩ := m203 d hr hl mb hG hv h13 hrl hy (Int32.ofNat i) w (V i)
    have hG1 := f1.G hG
    have z100 : ¬ (100 : Int64) = 0 := by decide
    obtain ⟨τ, a2, f2⟩ := l206 d hr hl mb q (i + 1) (y_lf1 p k m e s1 y V i (j, w)).1 (y_lf1 p k m e s1 y V i (j, w)).2 σ1 (by omega) hG1 (hv.fr hr f1) ((f1.I (w9 (by omega) _)).trans h13) (hrl.fr f1 (w9 (by omega)) (w9 (by omega)) (w9 (by omega))) ((f1.I (w9 (by omega) _)).trans hy) (hs.fr f1 x_wt_s)
    refine ⟨τ, ?_, f1.trans f2⟩
    rw [x_feq, e206_20, x_k78 hG, x_q78_23 hG, x_der_s, x_k87 hG, x_i4 hs4, x_n4 hs4, hs.2.2.2.1, if_neg (fun h => absurd ((x_le (by omega) (by omega)).mp h) (by omega)), x_k78 hG, x_q78_24 hG, x_der_s, x_k88 hG, x_40, x_40i hs4 hi40, x_40n hs4 hi40, (hs.2.2.2.2 i hi40).2, x_k78 hG, a1, x_ci_s]
    refine Eq.trans ?_ a2
    unfold y_lf1 y_pt
    by_cases c0 : V i = 0
    · simp only [if_pos c0]
      rw [Int32.add_zero, x_s1]
    · simp only [if_neg c0]
      by_cases c1 : V i = x_Z p k m e s1 (y + Int32.ofNat i) w
      · simp only [if_pos c1, if_pos c1.symm]
        rw [x_s1]
      · have c2 : ¬ x_Z p k m e s1 (y + Int32.ofNat i) w = V i := fun h => c1 h.symm
        simp only [if_neg c1, if_neg c2]
        rw [x_s1, show j * (0 : Int32).toInt64 / 100 = 0 from by rw [show (0 : Int32).toInt64 = 0 from rfl, Int64.mul_zero]; rfl]
theorem m206 (d : Nat) {r s N l : Nat} (hr : r < 6) {o : Nat → Nat} {p : Nat → List Int32} {V : Nat → Int32} {y : Int32} (hl : l < 5) {k m e s1 u : Int32} (mb : x_bd m 0 9) {σ : xS} (hG : x_G σ) (hv : x_tv σ r o p) (h13 : x_I σ 78 13 = Int32.ofNat r) (hrl : y_rl σ l k m e s1 u) (hy : x_I σ 78 4 = y) (hs : y_sh σ s N V) : ∃ τ, x_run (d + 6) 206 [.inr (.inr (some 78)), .inl (Int32.ofNat s), .inl (Int32.ofNat l)] σ = some (some (.inr (.inl (y_L p k m e s1 u y N V))), τ) ∧ x_fr x_wt x_w0 σ τ := by
  obtain ⟨τ, a, f⟩ := l206 d (s := s) (N := N) (V := V) hr hl mb N 0 1000000000 u σ (by omega) hG hv h13 hrl hy hs
  refine ⟨τ, ?_, f⟩
  rw [r206, e206_0, x_k78 hG, x_q78_3 hG, x_der_s, x_k81 hG, x_6i5 hl, x_6n5 hl, hrl.2.2.2.2]
  exact a
/-- the first told year that cannot be -/
def y_fi (p : Nat → List Int32) (k m e s1 y : Int32) (V : Nat → Int32) : Nat → Nat → Int32 → Int32
  | _, 0, _ => -1
  | i, q + 1, w => if y_pt p k m e s1 (y + Int32.ofNat i) w (V i) = 0 then Int32.ofNat i else y_fi p k m e s1 y V (i + 1) q (if V i = 0 then w else w + 1)
theorem l204 (d : Nat) {r s N l : Nat} (hr : r < 6) {o : Nat → Nat} {p : Nat → List Int32} {V : Nat → Int32} {y : Int32} (hl : l < 5) {k m e s1 u : Int32} (mb : x_bd m 0 9) : ∀ q i w σ, i + q = N → x_G σ → x_tv σ r o p → x_I σ 78 13 = Int32.ofNat r → y_rl σ l k m e s1 u → x_I σ 78 4 = y → y_sh σ s N V → ∃ τ, x_f (d + 5) 204 15 [some (.inr (.inr (some 78))), some (.inl (Int32.ofNat s)), some (.inl (Int32.ofNat l)), some (.inl w), some (.inl (Int32.ofNat i)), none] [] σ = some (some (.inl (y_fi p k m e s1 y V i q w)), τ) ∧ x_fr x_wt x_w0 σ τ
  | 0, i, w, σ, hi, hG, hv, h13, hrl, hy, hs => by
    refine ⟨σ, ?_, x_fr.refl _ _ _⟩
    have h40 := hs.2.1
    have hs4 := hs.1
    rw [x_feq, e204_15, x_k78 hG, x_q78_23 hG, x_der_s, x_k87 hG, x_i4 hs4, x_n4 hs4, hs.2.2.2.1, if_pos ((x_le (by omega) (by omega)).mpr (by omega))]
    rfl
  | q + 1, i, w, σ, hi, hG, hv, h13, hrl, hy, hs => by
    have h40 := hs.2.1
    have hs4 := hs.1
    have hi40 : i < 40 := by omega
    have w9 : ∀ {b}, b = 79 ∨ b = 80 ∨ b = 81 ∨ b = 78 → ∀ u, ¬ x_wt b u := fun h => x_wt_o (by omega)
    obtain ⟨σ1, a1, f1⟩ := m203 d hr hl mb hG hv h13 hrl hy (Int32.ofNat i) w (V i)
    have hG1 := f1.G hG
    have a0 : x_f (d + 5) 204 15 [some (.inr (.inr (some 78))), some (.inl (Int32.ofNat s)), some (.inl (Int32.ofNat l)), some (.inl w), some (.inl (Int32.ofNat i)), none] [] σ = if y_pt p k m e s1 (y + Int32.ofNat i) w (V i) = 0 then some (some (.inl (Int32.ofNat i)), σ1) else x_f (d + 5) 204 15 [some (.inr (.inr (some 78))), some (.inl (Int32.ofNat s)), some (.inl (Int32.ofNat l)), some (.inl (if V i = 0 then w else w + 1)), some (.inl (Int32.ofNat (i + 1))), none] [] σ1 := by
      rw [x_feq, e204_15, x_k78 hG, x_q78_23 hG, x_der_s, x_k87 hG, x_i4 hs4, x_n4 hs4, hs.2.2.2.1, if_neg (fun h => absurd ((x_le (by omega) (by omega)).mp h) (by omega)), x_k78 hG, x_q78_24 hG, x_der_s, x_k88 hG, x_40, x_40i hs4 hi40, x_40n hs4 hi40, (hs.2.2.2.2 i hi40).2, x_k78 hG, a1, x_ci_s, Int32.add_zero, x_s1]
      by_cases g : y_pt p k m e s1 (y + Int32.ofNat i) w (V i) = 0
      · rw [if_pos g, if_pos g]
      · rw [if_neg g, if_neg g]
        by_cases c0 : V i = 0
        · rw [if_pos c0, if_pos c0]
        · rw [if_neg c0, if_neg c0]
    rw [a0]
    unfold y_fi
    by_cases g : y_pt p k m e s1 (y + Int32.ofNat i) w (V i) = 0
    · rw [if_pos g, if_pos g]
      exact ⟨σ1, rfl, f1⟩
    · rw [if_neg g, if_neg g]
      obtain ⟨τ, a2, f2⟩ := l204 d hr hl mb q (i + 1) (if V i = 0 then w else w + 1) σ1 (by omega) hG1 (hv.fr hr f1) ((f1.I (w9 (by omega) _)).trans h13) (hrl.fr f1 (w9 (by omega)) (w9 (by omega)) (w9 (by omega))) ((f1.I (w9 (by omega) _)).trans hy) (hs.fr f1 x_wt_s)
      exact ⟨τ, a2, f1.trans f2⟩
theorem y_h100 {v : Int32} (h : x_bd v 0 100) : 100 - v = 0 ↔ v = 100 := by
  obtain ⟨a, ha, rfl⟩ := x_bd_of (n := 100) (by omega) h rfl
  rw [show (100 : Int32) = Int32.ofNat 100 from rfl, x_sb ha (by omega)]
  constructor
  · intro g
    have := x_inj32 (b := 0) (by omega) (by omega) g
    rw [show a = 100 by omega]
  · intro g
    have := x_inj32 (by omega) (by omega) g
    subst this
    rfl
theorem l35 (d : Nat) {r s N c : Nat} (hr : r < 6) {o : Nat → Nat} {p : Nat → List Int32} {V : Nat → Int32} {y : Int32} (hc : Nat.beq (x_nth x_K c).1 2 = true) {k m e s1 u : Int32} (mb : x_bd m 0 9) : ∀ q i w σ, i + q = N → x_G σ → x_tv σ r o p → y_cl σ c k m e s1 u → y_sh σ s N V → ∃ τ, x_f (d + 4) 35 9 [some (.inr (.inr (some (70 + 2 * s)))), some (.inr (.inr (some c))), some (.inr (.inr (some (x_tc r)))), some (.inl y), some (.inl w), some (.inl (Int32.ofNat i)), none, none] [] σ = some (some (.inl (y_fi p k m e s1 y V i q w)), τ) ∧ x_fr x_wt x_w0 σ τ
  | 0, i, w, σ, hi, hG, hv, hcl, hs => by
    refine ⟨σ, ?_, x_fr.refl _ _ _⟩
    have h40 := hs.2.1
    rw [x_feq, e35_9, x_ks5 hG hs.1, hs.2.2.1, if_pos ((x_le (by omega) (by omega)).mpr (by omega))]
    rfl
  | q + 1, i, w, σ, hi, hG, hv, hcl, hs => by
    have h40 := hs.2.1
    have kc : ∀ (τ : xS) (K : Option xR), x_G τ → x_ck τ c 2 K = K := fun τ K h => x_ckk h.1 hc K
    obtain ⟨σ1, a1, f1⟩ := c16 d hG hr hv hc hcl mb (y + Int32.ofNat i) w
    have hG1 := f1.G hG
    have ob := x_O_b p k m e s1 (y + Int32.ofNat i) w
    unfold y_fi y_pt
    rw [x_feq, e35_9, x_ks5 hG hs.1, hs.2.2.1, if_neg (fun h => absurd ((x_le (by omega) (by omega)).mp h) (by omega)), x_ks5 hG hs.1, m31 _ hG hs (show i < 40 by omega), x_ci_s, x_der_s, kc _ _ hG, a1, x_ci_s]
    by_cases c0 : V i = 0
    · simp only [if_pos c0]
      by_cases c1 : x_O p k m e s1 (y + Int32.ofNat i) w = 100
      · rw [if_pos c1, if_pos ((y_h100 ob).mpr c1)]
        exact ⟨σ1, rfl, f1⟩
      · rw [if_neg c1, if_neg (fun h => c1 ((y_h100 ob).mp h)), x_feq, e35_54, if_pos c0, x_feq, e35_83, if_pos c0, Int32.add_zero, x_s1]
        obtain ⟨τ, a2, f2⟩ := l35 d hr hc mb q (i + 1) w σ1 (by omega) hG1 (hv.fr hr f1) (hcl.fr f1 (x_wt_c hc)) (hs.fr f1 x_wt_s)
        exact ⟨τ, a2, f1.trans f2⟩
    · simp only [if_neg c0]
      rw [x_feq, e35_54, if_neg c0]
      by_cases c1 : x_O p k m e s1 (y + Int32.ofNat i) w = 0
      · rw [if_pos c1, c1, if_pos (show (if x_Z p k m e s1 (y + Int32.ofNat i) w = V i then (0 : Int32) else 0) = 0 from by split <;> rfl)]
        exact ⟨σ1, rfl, f1⟩
      · rw [if_neg c1, x_der_s, kc _ _ hG1]
        obtain ⟨σ2, a2, f2⟩ := c18 d hG1 hr (hv.fr hr f1) hc (hcl.fr f1 (x_wt_c hc)) (y + Int32.ofNat i) w
        have f12 := f1.trans f2
        have hG2 := f12.G hG
        rw [a2, x_ci_s]
        by_cases c2 : V i = x_Z p k m e s1 (y + Int32.ofNat i) w
        · rw [if_pos c2, if_pos c2.symm, if_neg c1, x_feq, e35_83, if_neg c0, x_s1]
          obtain ⟨τ, a3, f3⟩ := l35 d hr hc mb q (i + 1) (w + 1) σ2 (by omega) hG2 (hv.fr hr f12) (hcl.fr f12 (x_wt_c hc)) (hs.fr f12 x_wt_s)
          exact ⟨τ, a3, f12.trans f3⟩
        · have c3 : ¬ x_Z p k m e s1 (y + Int32.ofNat i) w = V i := fun h => c2 h.symm
          rw [if_neg c2, if_neg c3, if_pos rfl]
          exact ⟨σ2, rfl, f12⟩
