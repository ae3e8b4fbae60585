/-! the reference's years, their bounds -/
theorem l167i (d : Nat) {r : Nat} (hr : r < 6) {o : Nat → Nat} {p : Nat → List Int32} {l : Nat} (hl : l < 5) {k m e s u y : Int32} (mb : x_bd m 0 9) (eb : x_bd e 0 999) (sb : x_bd s 0 100) (i2 : Int32) (i : Nat) : ∀ (w : Nat) (S : y_S) (σ : xS), w < 6 → x_G σ → x_tv σ r o p → x_I σ 78 13 = Int32.ofNat r → y_rl σ l k m e s u → x_I σ 78 4 = y → y_jr σ S → ∃ τ, x_f (d + 4) 167 107 [some (.inr (.inr (some 78))), some (.inl (Int32.ofNat l)), some (.inl i2), some (.inl (Int32.ofNat i)), some (.inl (Int32.ofNat w)), none, none, none, none, none, none, none] [] σ = x_f (d + 4) 167 51 [some (.inr (.inr (some 78))), some (.inl (Int32.ofNat l)), some (.inl i2), some (.inl (Int32.ofNat (i + 1))), none, none, none, none, none, none, none, none] [] τ ∧ x_fr x_wt y_vr σ τ ∧ y_jr τ (y_yr (y_o p k m e s u (y + Int32.ofNat i)) (y_z p k m e s u (y + Int32.ofNat i)) (y_t p k m e s u (y + Int32.ofNat i)) w S)
  | 0, S, σ, hw, hG, hv, h13, hrl, hy, hj => by
    obtain ⟨τ, a, f, j⟩ := l167w d hr hl mb eb sb i2 i (w := 0) hw hG hv h13 hrl hy hj
    refine ⟨τ, ?_, f, j⟩
    rw [a, x_feq, e167_107, if_pos (by decide), x_s1]
  | w + 1, S, σ, hw, hG, hv, h13, hrl, hy, hj => by
    obtain ⟨σ1, a, f, j⟩ := l167w d hr hl mb eb sb i2 i (w := w + 1) hw hG hv h13 hrl hy hj
    have w9 : ∀ {b}, b = 79 ∨ b = 80 ∨ b = 81 ∨ b = 78 → ∀ u, ¬ x_wt b u := fun h => x_wt_o (by omega)
    obtain ⟨τ, a2, f2, j2⟩ := l167i d hr hl mb eb sb i2 i w _ σ1 (by omega) (f.G hG) (hv.fr hr f) ((f.I (w9 (by omega) _)).trans h13) (hrl.fr f (w9 (by omega)) (w9 (by omega)) (w9 (by omega))) ((f.I (w9 (by omega) _)).trans hy) j
    refine ⟨τ, ?_, f.trans f2, j2⟩
    rw [a, x_pm1, a2]
theorem l167 (d : Nat) {r : Nat} (hr : r < 6) {o : Nat → Nat} {p : Nat → List Int32} {l : Nat} (hl : l < 5) {k m e s u y : Int32} (mb : x_bd m 0 9) (eb : x_bd e 0 999) (sb : x_bd s 0 100) {n : Nat} (hn : n ≤ 6) : ∀ (q i : Nat) (S : y_S) (σ : xS), i + q = n → x_G σ → x_tv σ r o p → x_I σ 78 13 = Int32.ofNat r → y_rl σ l k m e s u → x_I σ 78 4 = y → y_jr σ S → ∃ τ, x_f (d + 4) 167 51 [some (.inr (.inr (some 78))), some (.inl (Int32.ofNat l)), some (.inl (Int32.ofNat n)), some (.inl (Int32.ofNat i)), none, none, none, none, none, none, none, none] [] σ = some (none, τ) ∧ x_fr x_wt y_vr σ τ ∧ y_jr τ (x_it (y_F p k m e s u y) i q S)
  | 0, i, S, σ, hi, hG, hv, h13, hrl, hy, hj => by
    refine ⟨σ, ?_, x_fr.refl _ _ _, hj⟩
    rw [x_feq, e167_51, if_pos ((x_le (by omega) (by omega)).mpr (by omega))]
  | q + 1, i, S, σ, hi, hG, hv, h13, hrl, hy, hj => by
    have w9 : ∀ {b}, b = 79 ∨ b = 80 ∨ b = 81 ∨ b = 78 → ∀ u, ¬ x_wt b u := fun h => x_wt_o (by omega)
    have f0 : x_fr x_wt y_vr σ (x_sl (x_sl (x_sl (x_sl σ 78 38 (x_J σ 78 38 * 100)) 78 39 (x_J σ 78 39 * 100)) 78 40 (x_J σ 78 40 * 100)) 78 41 (x_J σ 78 41 * 100)) := ((((x_fr.refl x_wt y_vr σ).sl _ (Or.inr ⟨rfl, by omega, by omega⟩)).sl _ (Or.inr ⟨rfl, by omega, by omega⟩)).sl _ (Or.inr ⟨rfl, by omega, by omega⟩)).sl _ (Or.inr ⟨rfl, by omega, by omega⟩)
    have j0 : y_jr (x_sl (x_sl (x_sl (x_sl σ 78 38 (x_J σ 78 38 * 100)) 78 39 (x_J σ 78 39 * 100)) 78 40 (x_J σ 78 40 * 100)) 78 41 (x_J σ 78 41 * 100)) (y_x S) := by
      obtain ⟨j0, j1, j2, j3, j4⟩ := hj
      refine ⟨fun k hk => ?_, ?_, ?_, ?_, ?_⟩
      · simp [x_Jsl, j0 k hk, y_x]
      · show x_J σ 78 38 * 100 = Int64.ofNat (S.2.1 * 100)
        rw [j1, y_h64]
      · show x_J σ 78 39 * 100 = Int64.ofNat (S.2.2.1 * 100)
        rw [j2, y_h64]
      · show x_J σ 78 40 * 100 = Int64.ofNat (S.2.2.2.1 * 100)
        rw [j3, y_h64]
      · show x_J σ 78 41 * 100 = Int64.ofNat (S.2.2.2.2 * 100)
        rw [j4, y_h64]
    obtain ⟨σ1, a1, f1, j1⟩ := l167i d hr hl mb eb sb (Int32.ofNat n) i i (y_x S) _ (by omega) (f0.G hG) (hv.fr hr f0) ((f0.I (w9 (by omega) _)).trans h13) (hrl.fr f0 (w9 (by omega)) (w9 (by omega)) (w9 (by omega))) ((f0.I (w9 (by omega) _)).trans hy) j0
    have f01 := f0.trans f1
    obtain ⟨τ, a2, f2, j2⟩ := l167 d hr hl mb eb sb hn q (i + 1) _ σ1 (by omega) (f01.G hG) (hv.fr hr f01) ((f01.I (w9 (by omega) _)).trans h13) (hrl.fr f01 (w9 (by omega)) (w9 (by omega)) (w9 (by omega))) ((f01.I (w9 (by omega) _)).trans hy) j1
    refine ⟨τ, ?_, f01.trans f2, j2⟩
    rw [x_feq, e167_51, if_neg (fun h => absurd ((x_le (by omega) (by omega)).mp h) (by omega))]
    simp only [↓x_k78, hG, x_Gsl]
    rw [x_feq, e167_68]
    simp only [↓x_k78, hG, x_Gsl]
    rw [x_feq, e167_104]
    refine Eq.trans ?_ (a1.trans a2)
    have e1 : ∀ v, x_J (x_sl σ 78 38 v) 78 39 = x_J σ 78 39 := fun v => rfl
    have e2 : ∀ v w, x_J (x_sl (x_sl σ 78 38 v) 78 39 w) 78 40 = x_J σ 78 40 := fun v w => rfl
    have e3 : ∀ v w x, x_J (x_sl (x_sl (x_sl σ 78 38 v) 78 39 w) 78 40 x) 78 41 = x_J σ 78 41 := fun v w x => rfl
    simp only [e1, e2, e3]
theorem l22 (d : Nat) (l : Nat) (i2 : Int32) : ∀ m i σ, i + m = 8 → x_G σ → ∃ τ, x_f d 167 22 [some (.inr (.inr (some 78))), some (.inl (Int32.ofNat l)), some (.inl i2), some (.inl (Int32.ofNat i)), none, none, none, none, none, none, none, none] [] σ = x_f d 167 51 [some (.inr (.inr (some 78))), some (.inl (Int32.ofNat l)), some (.inl i2), some (.inl 0), none, none, none, none, none, none, none, none] [] τ ∧ x_fr x_wt (fun b u => b = 94 ∧ i ≤ u ∧ u < 8) σ τ ∧ ∀ k, i ≤ k → k < 8 → x_J τ 94 k = if k = 0 then 1 else 0
  | 0, i, σ, hi, hG => by
    refine ⟨σ, ?_, x_fr.refl _ _ _, fun k h1 h2 => absurd h2 (by omega)⟩
    rw [x_feq, e167_22, if_pos (show (8 : Int32) ≤ Int32.ofNat (i) from (x_le (a := 8) (by omega) (by omega)).mpr (by omega))]
  | m + 1, i, σ, hi, hG => by
    have hi8 : i < 8 := by omega
    obtain ⟨τ, e, f, g⟩ := l22 d l i2 m (i + 1) (x_sl σ 94 i (if i = 0 then 1 else 0)) (by omega) hG
    refine ⟨τ, ?_, ((x_fr.refl x_wt (fun b u => b = 94 ∧ i ≤ u ∧ u < 8) σ).sl (if i = 0 then 1 else 0) ⟨rfl, by omega, by omega⟩).trans (f.mono (fun _ _ h => h) (fun b u h => ⟨h.1, by omega, h.2.2⟩)), fun k h1 h2 => ?_⟩
    · rw [← e, x_feq, e167_22, if_neg (show ¬ (8 : Int32) ≤ Int32.ofNat (i) from fun h => absurd ((x_le (a := 8) (by omega) (by omega)).mp h) (by omega))]
      by_cases c : i = 0
      · rw [if_pos c]
        subst c
        rw [x_k78 hG, if_pos (show Int32.ofNat 0 = 0 from rfl), x_q78_37 hG, x_der_s, x_k94 hG, y_i8 hi8, y_n8 hi8, x_s1]
      · have c2 : ¬ Int32.ofNat i = 0 := fun h => c (x_inj32 (b := 0) (by omega) (by omega) h)
        rw [if_neg c, x_k78 hG, if_neg c2, x_q78_37 hG, x_der_s, x_k94 hG, y_i8 hi8, y_n8 hi8, x_s1]
    · by_cases c : k = i
      · subst c
        rw [f.J (fun h => absurd h.2.1 (by omega)), x_Jsl, if_pos ⟨rfl, rfl⟩]
      · exact g k (by omega) h2
theorem m167 (d : Nat) {σ : xS} (hG : x_G σ) {r : Nat} (hr : r < 6) {o : Nat → Nat} {p : Nat → List Int32} (hv : x_tv σ r o p) (h13 : x_I σ 78 13 = Int32.ofNat r) {l : Nat} (hl : l < 5) {k m e s u y : Int32} (hrl : y_rl σ l k m e s u) (hy : x_I σ 78 4 = y) (mb : x_bd m 0 9) (eb : x_bd e 0 999) (sb : x_bd s 0 100) {n : Nat} (hn : n ≤ 6) : ∃ τ, x_run (d + 5) 167 [.inr (.inr (some 78)), .inl (Int32.ofNat l), .inl (Int32.ofNat n)] σ = some (none, τ) ∧ x_fr x_wt y_vr σ τ ∧ y_jr τ (y_all p k m e s u y n) := by
  have w9 : ∀ {b}, b = 79 ∨ b = 80 ∨ b = 81 ∨ b = 78 → ∀ u, ¬ x_wt b u := fun h => x_wt_o (by omega)
  have f0 : x_fr x_wt y_vr σ (x_sl (x_sl (x_sl (x_sl σ 78 38 1) 78 39 0) 78 40 0) 78 41 0) := ((((x_fr.refl x_wt y_vr σ).sl _ (Or.inr ⟨rfl, by omega, by omega⟩)).sl _ (Or.inr ⟨rfl, by omega, by omega⟩)).sl _ (Or.inr ⟨rfl, by omega, by omega⟩)).sl _ (Or.inr ⟨rfl, by omega, by omega⟩)
  obtain ⟨σ1, a1, f1, g1⟩ := l22 (d + 4) l (Int32.ofNat n) 8 0 _ (by omega) (f0.G hG)
  have q : ∀ u, 38 ≤ u → u ≤ 41 → x_J σ1 78 u = x_J (x_sl (x_sl (x_sl (x_sl σ 78 38 1) 78 39 0) 78 40 0) 78 41 0) 78 u := fun u _ _ => f1.J (by omega)
  have f1 : x_fr x_wt y_vr _ σ1 := f1.mono (fun _ _ h => h) (fun b u h => Or.inl h.1)
  have f01 := f0.trans f1
  have j0 : y_jr σ1 y_0 := by
    refine ⟨fun k hk => ?_, ?_, ?_, ?_, ?_⟩
    · rw [g1 k (by omega) (by omega)]
      show _ = Int64.ofNat (if k = 0 then 1 else 0)
      split <;> rfl
    · rw [q 38 (by omega) (by omega)]; rfl
    · rw [q 39 (by omega) (by omega)]; rfl
    · rw [q 40 (by omega) (by omega)]; rfl
    · rw [q 41 (by omega) (by omega)]; rfl
  obtain ⟨τ, a2, f2, j2⟩ := l167 d hr hl mb eb sb hn n 0 y_0 σ1 (by omega) (f01.G hG) (hv.fr hr f01) ((f01.I (w9 (by omega) _)).trans h13) (hrl.fr f01 (w9 (by omega)) (w9 (by omega)) (w9 (by omega))) ((f01.I (w9 (by omega) _)).trans hy) j0
  refine ⟨τ, ?_, f01.trans f2, j2⟩
  rw [r167, e167_0]
  simp only [↓x_k78, hG, x_Gsl]
  rw [x_feq, e167_15]
  simp only [↓x_k78, hG, x_Gsl]
  exact a1.trans a2
/-! bounds -/
def y_T : Nat → Nat
  | 0 => 0
  | i + 1 => 100 * y_T i + (i + 1) * (899100 * 200 ^ i)
def y_bb (i : Nat) (S : y_S) : Prop := (∀ k, S.1 k ≤ 200 ^ i) ∧ S.2.1 = 100 ^ i ∧ S.2.2.1 ≤ y_T i ∧ S.2.2.2.1 ≤ y_T i ∧ S.2.2.2.2 ≤ y_T i
theorem y_yr_b {o z t : Nat → Nat} (ho : ∀ w, o w ≤ 100) (hz : ∀ w, z w ≤ 8991) (ht : ∀ w, t w ≤ z w) (B : Nat) : ∀ (w : Nat) (S : y_S), (∀ k, k ≤ w → S.1 k ≤ B) → S.1 (w + 1) ≤ 100 * B → (∀ k, S.1 k ≤ 200 * B) → (∀ k, (y_yr o z t w S).1 k ≤ 200 * B) ∧ (y_yr o z t w S).2.1 = S.2.1 ∧ (y_yr o z t w S).2.2.1 ≤ S.2.2.1 + (w + 1) * (899100 * B) ∧ (y_yr o z t w S).2.2.2.1 ≤ S.2.2.2.1 + (w + 1) * (899100 * B) ∧ (y_yr o z t w S).2.2.2.2 ≤ S.2.2.2.2 + (w + 1) * (899100 * B) := by
  have one : ∀ (w : Nat) (S : y_S), (∀ k, k ≤ w → S.1 k ≤ B) → S.1 (w + 1) ≤ 100 * B → (∀ k, S.1 k ≤ 200 * B) → (∀ k, k < w → (y_w (o w) (z w) (t w) w S).1 k ≤ B) ∧ (y_w (o w) (z w) (t w) w S).1 w ≤ 100 * B ∧ (∀ k, (y_w (o w) (z w) (t w) w S).1 k ≤ 200 * B) ∧ (y_w (o w) (z w) (t w) w S).2.2.1 ≤ S.2.2.1 + 899100 * B ∧ (y_w (o w) (z w) (t w) w S).2.2.2.1 ≤ S.2.2.2.1 + 899100 * B ∧ (y_w (o w) (z w) (t w) w S).2.2.2.2 ≤ S.2.2.2.2 + 899100 * B := by
    intro w S h1 h2 h3
    have c : S.1 w * o w ≤ B * 100 := Nat.mul_le_mul (h1 w (Nat.le_refl w)) (ho w)
    have c2 : S.1 w * (100 - o w) ≤ B * 100 := Nat.mul_le_mul (h1 w (Nat.le_refl w)) (Nat.sub_le _ _)
    have c3 : S.1 w * o w * t w ≤ B * 100 * 8991 := Nat.mul_le_mul c (Nat.le_trans (ht w) (hz w))
    have c4 : S.1 w * o w * (z w - t w) ≤ B * 100 * 8991 := Nat.mul_le_mul c (Nat.le_trans (Nat.sub_le _ _) (hz w))
    have e : ∀ k, (y_w (o w) (z w) (t w) w S).1 k = if k = w then S.1 w * (100 - o w) else if k = w + 1 then S.1 (w + 1) + S.1 w * o w else S.1 k := fun k => rfl
    refine ⟨fun k hk => ?_, ?_, fun k => ?_, ?_, ?_, ?_⟩
    · rw [e, if_neg (by omega), if_neg (by omega)]; exact h1 k (by omega)
    · rw [e, if_pos rfl]; omega
    · rw [e]
      split
      · omega
      · split
        · omega
        · exact h3 k
    · show S.2.2.1 + S.1 w * o w * t w ≤ _
      omega
    · show S.2.2.2.1 + S.1 w * o w * (z w - t w) ≤ _
      omega
    · show S.2.2.2.2 + S.1 w * o w ≤ _
      omega
  intro w
  induction w with
  | zero =>
    intro S h1 h2 h3
    obtain ⟨-, -, q3, q4, q5, q6⟩ := one 0 S h1 h2 h3
    exact ⟨q3, rfl, by rw [Nat.zero_add, Nat.one_mul]; exact q4, by rw [Nat.zero_add, Nat.one_mul]; exact q5, by rw [Nat.zero_add, Nat.one_mul]; exact q6⟩
  | succ w ih =>
    intro S h1 h2 h3
    obtain ⟨q1, q2, q3, q4, q5, q6⟩ := one (w + 1) S h1 h2 h3
    obtain ⟨p1, p2, p3, p4, p5⟩ := ih (y_w (o (w + 1)) (z (w + 1)) (t (w + 1)) (w + 1) S) (fun k hk => q1 k (by omega)) q2 q3
    have e : (w + 1 + 1) * (899100 * B) = (w + 1) * (899100 * B) + 899100 * B := Nat.succ_mul _ _
    rw [show y_yr o z t (w + 1) S = y_yr o z t w (y_w (o (w + 1)) (z (w + 1)) (t (w + 1)) (w + 1) S) from rfl, e]
    exact ⟨p1, p2, by omega, by omega, by omega⟩
theorem y_F_b (p : Nat → List Int32) {k m e s u y : Int32} (eb : x_bd e 0 999) (sb : x_bd s 0 100) {i : Nat} {S : y_S} (h : y_bb i S) : y_bb (i + 1) (y_F p k m e s u y i S) := by
  obtain ⟨h1, h2, h3, h4, h5⟩ := h
  have g := fun w => y_ozt p (k := k) (m := m) (u := u) (y := y + Int32.ofNat i) eb sb w
  obtain ⟨p1, p2, p3, p4, p5⟩ := y_yr_b (fun w => (g w).1.2) (fun w => (g w).2.1.2) (fun w => (g w).2.2.2) (200 ^ i) i (y_x S) (fun k _ => h1 k) (Nat.le_trans (h1 (i + 1)) (by omega)) (fun k => Nat.le_trans (h1 k) (by omega))
  have q3 : (y_x S).2.2.1 = S.2.2.1 * 100 := rfl
  have q4 : (y_x S).2.2.2.1 = S.2.2.2.1 * 100 := rfl
  have q5 : (y_x S).2.2.2.2 = S.2.2.2.2 * 100 := rfl
  have eT : y_T (i + 1) = 100 * y_T i + (i + 1) * (899100 * 200 ^ i) := rfl
  unfold y_F
  refine ⟨fun k => ?_, ?_, ?_, ?_, ?_⟩
  · have := p1 k
    rw [Nat.pow_succ]; omega
  · rw [p2, Nat.pow_succ, ← h2]; rfl
  · rw [eT]; omega
  · rw [eT]; omega
  · rw [eT]; omega
theorem y_all_b (p : Nat → List Int32) {k m e s u y : Int32} (eb : x_bd e 0 999) (sb : x_bd s 0 100) (n : Nat) : y_bb n (y_all p k m e s u y n) := by
  have go : ∀ q i S, y_bb i S → y_bb (i + q) (x_it (y_F p k m e s u y) i q S) := by
    intro q
    induction q with
    | zero => intro i S h; exact h
    | succ q ih =>
      intro i S h
      have := ih (i + 1) _ (y_F_b p (k := k) (m := m) (u := u) (y := y) eb sb h)
      rw [show i + (q + 1) = i + 1 + q by omega]
      exact this
  have h := go n 0 y_0 ⟨fun k => by show (if k = 0 then 1 else 0) ≤ 1; split <;> omega, rfl, Nat.le_refl 0, Nat.le_refl 0, Nat.le_refl 0⟩
  rw [Nat.zero_add] at h
  exact h
theorem y_T6 {n : Nat} (hn : n ≤ 6) : y_T n < 4000000000000000000 ∧ 200 ^ n < 4000000000000000000 ∧ 100 ^ n ≤ 1000000000000 ∧ 0 < 100 ^ n := by
  rcases (show n = 0 ∨ n = 1 ∨ n = 2 ∨ n = 3 ∨ n = 4 ∨ n = 5 ∨ n = 6 by omega) with rfl | rfl | rfl | rfl | rfl | rfl | rfl <;> decide
