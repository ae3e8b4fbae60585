/-! image, back -/
def y_wld (w : Nat) : Prop := w = 1 ∨ w = 8 ∨ w = 15
theorem y_w8k {σ : xS} (h : x_G σ) {w : Nat} (hw : y_wld w) (K : Option xR) : x_ck σ w 8 K = K := by
  rcases hw with rfl | rfl | rfl
  · exact x_k1 h K
  · exact x_k8 h K
  · exact x_k15 h K
theorem y_wq {σ : xS} (h : x_G σ) {w : Nat} (hw : y_wld w) : x_Q σ w 0 = some (w + 1) := by
  rcases hw with rfl | rfl | rfl
  · exact x_q1_0 h
  · exact x_q8_0 h
  · exact x_q15_0 h
theorem y_wa {σ : xS} (h : x_G σ) {w : Nat} (hw : y_wld w) (K : Nat → Option xR) : x_aa σ (w + 1) K = K 5 := by
  rcases hw with rfl | rfl | rfl
  · exact x_m2 h K
  · exact x_m9 h K
  · exact x_m16 h K
theorem y_wr5 {σ : xS} (h : x_G σ) {w : Nat} (hw : y_wld w) (K : Nat → Option xR) : x_aq σ (w + 1) K = K 5 := by
  rcases hw with rfl | rfl | rfl
  · exact x_k2 h K
  · exact x_k9 h K
  · exact x_k16 h K
theorem y_wl5 {σ : xS} (h : x_G σ) {w l : Nat} (hw : y_wld w) (hl : l < 5) : x_Q σ (w + 1) l = some (w + 2 + l) := by
  rcases hw with rfl | rfl | rfl
  · exact x_ql2 h hl
  · exact x_ql9 h hl
  · exact x_ql16 h hl
theorem y_wk2 {w l : Nat} (hw : y_wld w) (hl : l < 5) : Nat.beq (x_nth x_K (w + 2 + l)).1 2 = true := by
  rcases hw with rfl | rfl | rfl <;> rcases (show l = 0 ∨ l = 1 ∨ l = 2 ∨ l = 3 ∨ l = 4 by omega) with rfl | rfl | rfl | rfl | rfl <;> rfl
theorem l66 (d : Nat) {c a : Nat} (hc : y_wld c) (ha : y_wld a) (ne : c ≠ a) : ∀ q i σ, i + q = 5 → x_G σ → ∃ τ, x_f (d + 1) 66 2 [some (.inr (.inr (some c))), some (.inr (.inr (some a))), some (.inl (Int32.ofNat i))] [] σ = x_f (d + 1) 66 59 [some (.inr (.inr (some c))), some (.inr (.inr (some a))), none] [] τ ∧ x_fr (fun b _ => c + 2 + i ≤ b ∧ b < c + 7) x_w0 σ τ ∧ ∀ l u, i ≤ l → l < 5 → u < 8 → x_I τ (c + 2 + l) u = x_I σ (a + 2 + l) u
  | 0, i, σ, hi, hG => by
    refine ⟨σ, ?_, x_fr.refl _ _ _, fun l u h1 h2 => absurd h2 (by omega)⟩
    rw [x_feq d.succ 66 2, e66_2, y_w8k hG hc, y_wq hG hc, x_der_s, y_wa hG hc, if_pos ((x_le (by omega) (by omega)).mpr (by omega))]
  | q + 1, i, σ, hi, hG => by
    have hi5 : i < 5 := by omega
    have far : ∀ {l : Nat}, l < 5 → ¬ (c + 2 ≤ a + 2 + l ∧ a + 2 + l < c + 7) := by
      intro l hl
      rcases hc with rfl | rfl | rfl <;> rcases ha with rfl | rfl | rfl <;> omega
    obtain ⟨σ1, a1, f1, g1⟩ := m12 d hG (y_wk2 hc hi5) (y_wk2 ha hi5) (by
      have := far hi5
      omega)
    obtain ⟨τ, a2, f2, g2⟩ := l66 d hc ha ne q (i + 1) σ1 (by omega) (f1.G hG)
    refine ⟨τ, ?_, (f1.mono (fun b u h => by omega) (fun _ _ h => h)).trans (f2.mono (fun b u h => by omega) (fun _ _ h => h)), fun l u h1 h2 h3 => ?_⟩
    · have hle : ¬ Int32.ofNat 5 ≤ Int32.ofNat i := fun h => absurd ((x_le (by omega) (by omega)).mp h) (by omega)
      have kl : ∀ K, x_ck σ (c + 2 + i) 2 K = K := fun K => x_ckk hG.1 (y_wk2 hc hi5) K
      refine Eq.trans ?_ a2
      rw [x_feq, e66_2]
      simp only [↓y_w8k, y_wq, ↓y_wa, ↓y_wr5, y_wl5, hG, hc, ha, hi5, x_der_s, ↓x_der_s, x_nul_s, ↓x_nul_s, hle, if_false, x_i5, x_n5, ↓kl, a1, x_cv_s, x_s1]
    · by_cases c1 : l = i
      · subst c1
        rw [f2.I (by omega), g1 u h3]
      · rw [g2 l u (by omega) h2 h3, f1.I]
        have := far h2
        omega
theorem m66 (d : Nat) {c a : Nat} (hc : y_wld c) (ha : y_wld a) (ne : c ≠ a) {σ : xS} (hG : x_G σ) : ∃ τ, x_run (d + 2) 66 [.inr (.inr (some c)), .inr (.inr (some a))] σ = some (none, τ) ∧ x_fr (fun b u => (b = c ∧ 1 ≤ u ∧ u ≤ 9) ∨ (c + 2 ≤ b ∧ b < c + 7)) x_w0 σ τ ∧ (∀ l u, l < 5 → u < 8 → x_I τ (c + 2 + l) u = x_I σ (a + 2 + l) u) ∧ (∀ u, 1 ≤ u → u ≤ 6 → x_I τ c u = x_I σ a u) ∧ x_I τ c 7 = 0 ∧ x_I τ c 8 = -1 ∧ x_I τ c 9 = -1 := by
  obtain ⟨σ1, a1, f1, g1⟩ := l66 d hc ha ne 5 0 σ (by omega) hG
  have hG1 := f1.G hG
  have kc : ∀ (τ : xS) (K : Option xR), x_G τ → x_ck τ c 8 K = K := fun τ K h => y_w8k h hc K
  have ka : ∀ (τ : xS) (K : Option xR), x_G τ → x_ck τ a 8 K = K := fun τ K h => y_w8k h ha K
  have na : ¬ a = c := fun h => ne h.symm
  have fa : ∀ u, x_I σ1 a u = x_I σ a u := fun u => f1.I (by rcases hc with rfl | rfl | rfl <;> rcases ha with rfl | rfl | rfl <;> omega)
  have e0 : x_run (d + 2) 66 [.inr (.inr (some c)), .inr (.inr (some a))] σ = x_f (d + 1) 66 59 [some (.inr (.inr (some c))), some (.inr (.inr (some a))), none] [] σ1 := by
    rw [r66, e66_0]
    exact a1
  rw [e0, x_feq, e66_59]
  simp only [↓x_der_s, x_der_s, ↓kc, ↓ka, hG1, x_Gsi, x_Isi, na, false_and, if_false, fa]
  have W : ∀ u, 1 ≤ u → u ≤ 9 → (fun b u => (b = c ∧ 1 ≤ u ∧ u ≤ 9) ∨ (c + 2 ≤ b ∧ b < c + 7)) c u := fun u h1 h2 => Or.inl ⟨rfl, h1, h2⟩
  refine ⟨_, rfl, (f1.mono (fun b u h => Or.inr ⟨by omega, h.2⟩) (fun _ _ h => h)).trans ((((((((((x_fr.refl (fun b u => (b = c ∧ 1 ≤ u ∧ u ≤ 9) ∨ (c + 2 ≤ b ∧ b < c + 7)) x_w0 σ1).si _ (W 1 (by omega) (by omega))).si _ (W 2 (by omega) (by omega))).si _ (W 3 (by omega) (by omega))).si _ (W 4 (by omega) (by omega))).si _ (W 5 (by omega) (by omega))).si _ (W 6 (by omega) (by omega))).si _ (W 7 (by omega) (by omega))).si _ (W 8 (by omega) (by omega))).si _ (W 9 (by omega) (by omega))), fun l u hl hu => ?_, fun u h1 h2 => ?_, ?_, ?_, ?_⟩
  · have nc : ¬ c + 2 + l = c := by omega
    simp only [x_Isi, nc, false_and, if_false]
    exact g1 l u (by omega) hl hu
  · rcases (show u = 1 ∨ u = 2 ∨ u = 3 ∨ u = 4 ∨ u = 5 ∨ u = 6 by omega) with rfl | rfl | rfl | rfl | rfl | rfl <;> simp [x_Isi]
  · simp [x_Isi]
  · simp [x_Isi]
  · simp [x_Isi]
theorem l214 (d : Nat) : ∀ q i σ, i + q = 30 → x_G σ → ∃ τ, x_f d 214 55 [some (.inr (.inr (some 78))), some (.inl (Int32.ofNat i))] [] σ = some (some (.inl (x_I σ 78 0)), τ) ∧ x_fr (fun b u => b = 85 ∧ i ≤ u ∧ u < 30) x_w0 σ τ ∧ ∀ k, i ≤ k → k < 30 → x_I τ 85 k = x_I σ 81 k
  | 0, i, σ, hi, hG => by
    refine ⟨σ, ?_, x_fr.refl _ _ _, fun k h1 h2 => absurd h2 (by omega)⟩
    rw [x_feq, e214_55, if_pos (show (30 : Int32) ≤ Int32.ofNat (i) from (x_le (a := 30) (by omega) (by omega)).mpr (by omega)), x_k78 hG]
  | q + 1, i, σ, hi, hG => by
    have hi3 : i < 30 := by omega
    obtain ⟨τ, a, f, g⟩ := l214 d q (i + 1) (x_si σ 85 i (x_I σ 81 i)) (by omega) hG
    refine ⟨τ, ?_, ((x_fr.refl (fun b u => b = 85 ∧ i ≤ u ∧ u < 30) x_w0 σ).si _ ⟨rfl, by omega, by omega⟩).trans (f.mono (fun b u h => ⟨h.1, by omega, h.2.2⟩) (fun _ _ h => h)), fun k h1 h2 => ?_⟩
    · rw [x_feq, e214_55, if_neg (show ¬ (30 : Int32) ≤ Int32.ofNat (i) from fun h => absurd ((x_le (a := 30) (by omega) (by omega)).mp h) (by omega))]
      simp only [↓x_k78, ↓x_k81, ↓x_k85, x_q78_3, x_q78_21, hG, x_der_s, ↓x_der_s, x_i30, x_n30, hi3, x_s1]
      exact a
    · by_cases c : k = i
      · subst c
        rw [f.I (by omega), x_Isi, if_pos ⟨rfl, rfl⟩]
      · rw [g k (by omega) h2, x_Isi, if_neg (by omega)]
theorem l215 (d : Nat) : ∀ q i σ, i + q = 30 → x_G σ → ∃ τ, x_f d 215 60 [some (.inr (.inr (some 78))), some (.inl (Int32.ofNat i))] [] σ = some (some (.inl (x_I σ 78 0)), τ) ∧ x_fr (fun b u => b = 81 ∧ i ≤ u ∧ u < 30) x_w0 σ τ ∧ ∀ k, i ≤ k → k < 30 → x_I τ 81 k = x_I σ 85 k
  | 0, i, σ, hi, hG => by
    refine ⟨σ, ?_, x_fr.refl _ _ _, fun k h1 h2 => absurd h2 (by omega)⟩
    rw [x_feq, e215_60, if_pos (show (30 : Int32) ≤ Int32.ofNat (i) from (x_le (a := 30) (by omega) (by omega)).mpr (by omega)), x_k78 hG]
  | q + 1, i, σ, hi, hG => by
    have hi3 : i < 30 := by omega
    obtain ⟨τ, a, f, g⟩ := l215 d q (i + 1) (x_si σ 81 i (x_I σ 85 i)) (by omega) hG
    refine ⟨τ, ?_, ((x_fr.refl (fun b u => b = 81 ∧ i ≤ u ∧ u < 30) x_w0 σ).si _ ⟨rfl, by omega, by omega⟩).trans (f.mono (fun b u h => ⟨h.1, by omega, h.2.2⟩) (fun _ _ h => h)), fun k h1 h2 => ?_⟩
    · rw [x_feq, e215_60, if_neg (show ¬ (30 : Int32) ≤ Int32.ofNat (i) from fun h => absurd ((x_le (a := 30) (by omega) (by omega)).mp h) (by omega))]
      simp only [↓x_k78, ↓x_k81, ↓x_k85, x_q78_3, x_q78_21, hG, x_der_s, ↓x_der_s, x_i30, x_n30, hi3, x_s1]
      exact a
    · by_cases c : k = i
      · subst c
        rw [f.I (by omega), x_Isi, if_pos ⟨rfl, rfl⟩]
      · rw [g k (by omega) h2, x_Isi, if_neg (by omega)]
theorem x_op_image (D : Nat) : ∀ (σ : xS) (as : List Int32), as.length = 0 → x_R σ → x_stp (D + 3) x_R false 112 214 as σ := by
  intro σ as hl hR
  match as, hl with
  | [], _ =>
    obtain ⟨hG, n, t, z, hP⟩ := id hR
    obtain ⟨hn, ht, hz, ⟨l1, l2⟩, ⟨t1, t2⟩, ⟨z1, z2⟩, hnum, hli, hb, htx, him, hsh, hw⟩ := id hP
    obtain ⟨σ1, a1, f1, p1, p2, p3⟩ := m66 D (c := 8) (a := 1) (Or.inr (Or.inl rfl)) (Or.inl rfl) (by omega) hG
    have hG1 := f1.G hG
    have fA : x_fr (fun b u => (b = 8 ∧ 1 ≤ u ∧ u ≤ 9) ∨ (10 ≤ b ∧ b < 15) ∨ (b = 0 ∧ u = 3)) x_w0 σ (x_si σ1 0 3 1) := (f1.mono (fun b u h => by omega) (fun _ _ h => h)).si _ (Or.inr (Or.inr ⟨rfl, rfl⟩))
    let σ2 := x_si σ1 0 3 1
    have hG2 : x_G σ2 := hG1
    let σ3 := x_si (x_si (x_si (x_si (x_si (x_si (x_si σ2 78 14 1) 78 15 (x_I σ2 78 0)) 78 16 (x_I σ2 78 4)) 78 17 (x_I σ2 78 5)) 78 18 (x_I σ2 78 6)) 78 19 (x_I σ2 78 7)) 78 20 (x_I σ2 78 13)
    have fB : x_fr (fun b u => b = 78 ∧ 14 ≤ u ∧ u ≤ 20) x_w0 σ2 σ3 := (((((((x_fr.refl (fun b u => b = 78 ∧ 14 ≤ u ∧ u ≤ 20) x_w0 σ2).si _ ⟨rfl, by omega, by omega⟩).si _ ⟨rfl, by omega, by omega⟩).si _ ⟨rfl, by omega, by omega⟩).si _ ⟨rfl, by omega, by omega⟩).si _ ⟨rfl, by omega, by omega⟩).si _ ⟨rfl, by omega, by omega⟩).si _ ⟨rfl, by omega, by omega⟩
    have hG3 : x_G σ3 := hG1
    obtain ⟨τ, a4, f4, g4⟩ := l214 (D + 2) 30 0 σ3 (by omega) hG3
    have E : ∀ {b u : Nat}, ¬ ((b = 8 ∧ 1 ≤ u ∧ u ≤ 9) ∨ (10 ≤ b ∧ b < 15) ∨ (b = 0 ∧ u = 3)) → ¬ (b = 78 ∧ 14 ≤ u ∧ u ≤ 20) → b ≠ 85 → x_I τ b u = x_I σ b u := fun h1 h2 h3 => (f4.I (fun g => h3 g.1)).trans ((fB.I h2).trans (fA.I h1))
    have E3 : ∀ {b u : Nat}, ¬ ((b = 8 ∧ 1 ≤ u ∧ u ≤ 9) ∨ (10 ≤ b ∧ b < 15) ∨ (b = 0 ∧ u = 3)) → ¬ (b = 78 ∧ 14 ≤ u ∧ u ≤ 20) → x_I σ3 b u = x_I σ b u := fun h1 h2 => (fB.I h2).trans (fA.I h1)
    have I8 : ∀ u, 1 ≤ u → u ≤ 6 → x_I τ 8 u = x_I σ 1 u := fun u h1 h2 => (f4.I (by omega)).trans ((fB.I (by omega)).trans (((x_Isi _ _ _ _ _ _).trans (if_neg (by omega))).trans (p2 u h1 h2)))
    have IL : ∀ l u, l < 5 → u < 8 → x_I τ (10 + l) u = x_I σ (3 + l) u := fun l u h1 h2 => (f4.I (by omega)).trans ((fB.I (by omega)).trans (((x_Isi _ _ _ _ _ _).trans (if_neg (by omega))).trans (p1 l u h1 h2)))
    have e4 : x_I τ 0 3 = 1 := (f4.I (by omega)).trans ((fB.I (by omega)).trans ((x_Isi _ _ _ _ _ _).trans (if_pos ⟨rfl, rfl⟩)))
    have J : ∀ u, x_I τ 78 u = x_I σ3 78 u := fun u => f4.I (by omega)
    have j14 : x_I τ 78 14 = 1 := (J 14).trans rfl
    have fA2 : ∀ u, x_I σ2 78 u = x_I σ 78 u := fun u => fA.I (by omega)
    have j15 : x_I τ 78 15 = x_I σ 78 0 := (J 15).trans (show x_I σ3 78 15 = x_I σ 78 0 from fA2 0)
    have j16 : x_I τ 78 16 = x_I σ 78 4 := (J 16).trans (show x_I σ3 78 16 = x_I σ 78 4 from fA2 4)
    have j17 : x_I τ 78 17 = x_I σ 78 5 := (J 17).trans (show x_I σ3 78 17 = x_I σ 78 5 from fA2 5)
    have j18 : x_I τ 78 18 = x_I σ 78 6 := (J 18).trans (show x_I σ3 78 18 = x_I σ 78 6 from fA2 6)
    have j19 : x_I τ 78 19 = x_I σ 78 7 := (J 19).trans (show x_I σ3 78 19 = x_I σ 78 7 from fA2 7)
    have j20 : x_I τ 78 20 = x_I σ 78 13 := (J 20).trans (show x_I σ3 78 20 = x_I σ 78 13 from fA2 13)
    have r85 : ∀ k, k < 30 → x_I τ 85 k = x_I σ 81 k := fun k hk => (g4 k (by omega) hk).trans (E3 (by omega) (by omega))
    refine ⟨.inl (Int32.ofNat n), σ2, τ, ⟨_, rfl⟩, ?_, hG2.1, ?_, f4.G hG3, n, t, z, hn, ht, hz, ⟨by rw [E (by omega) (by omega) (by omega)]; exact l1, by rw [E (by omega) (by omega) (by omega)]; exact l2⟩, ⟨by rw [E (by omega) (by omega) (by omega)]; exact t1, by rw [E (by omega) (by omega) (by omega)]; exact t2⟩, ⟨by rw [E (by omega) (by omega) (by omega)]; exact z1, by rw [E (by omega) (by omega) (by omega)]; exact z2⟩, ?_, fun l hl => ?_, fun k hk => ?_, fun k hk => ?_, ?_, fun s hs => ?_, fun q hq hq2 => ?_⟩
    · show x_run (D + 3) 112 [.inr (.inr (some 0))] σ = _
      rw [r112, e112_0, x_k0 hG, x_k0 hG, x_q0_1 hG, x_der_s, x_k8 hG, x_q0_0 hG, a1, x_cv_s, x_k0 hG1]
      simp only [↓x_k0, ↓x_k1, hG1, x_Gsi, x_Qsi, x_q0_0, x_der_s, ↓x_der_s]
      rw [show x_I (x_si σ1 0 3 1) 1 1 = x_I σ 1 1 from fA.I (by omega), l2]
    · show x_run (D + 3) 214 [.inr (.inr (some 78))] σ2 = _
      have i78 : ∀ (σ : xS) (v : Int32) (u : Nat), 14 ≤ u → u ≤ 20 → ∀ w, (w < 14 ∨ 20 < w) → x_I (x_si σ 78 u v) 78 w = x_I σ 78 w := fun σ v u h1 h2 w h3 => by rw [x_Isi, if_neg (by omega)]
      rw [r214, e214_0]
      simp only [↓x_k78, hG2, x_Gsi, x_Isi, true_and, show ¬ (0 = 14) by decide, show ¬ (4 = 15) by decide, show ¬ (4 = 14) by decide, show ¬ (5 = 16) by decide, show ¬ (5 = 15) by decide, show ¬ (5 = 14) by decide, show ¬ (6 = 17) by decide, show ¬ (6 = 16) by decide, show ¬ (6 = 15) by decide, show ¬ (6 = 14) by decide, show ¬ (7 = 18) by decide, show ¬ (7 = 17) by decide, show ¬ (7 = 16) by decide, show ¬ (7 = 15) by decide, show ¬ (7 = 14) by decide, show ¬ (13 = 19) by decide, show ¬ (13 = 18) by decide, show ¬ (13 = 17) by decide, show ¬ (13 = 16) by decide, show ¬ (13 = 15) by decide, show ¬ (13 = 14) by decide, if_false]
      have a5 := a4
      rw [show x_I σ3 78 0 = Int32.ofNat n from (E3 (by omega) (by omega)).trans l1] at a5
      exact a5
    · exact x_num.at (E (by omega) (by omega) (by omega)) (E (by omega) (by omega) (by omega)) (E (by omega) (by omega) (by omega)) (E (by omega) (by omega) (by omega)) (E (by omega) (by omega) (by omega)) (E (by omega) (by omega) (by omega)) (E (by omega) (by omega) (by omega)) (E (by omega) (by omega) (by omega)) (E (by omega) (by omega) (by omega)) (E (by omega) (by omega) (by omega)) hnum
    · exact ⟨x_row6.at (fun u => E (by omega) (by omega) (by omega)) (fun u => E (by omega) (by omega) (by omega)) (hli l hl).1, x_kin.at (fun u => E (by omega) (by omega) (by omega)) (fun u => E (by omega) (by omega) (by omega)) (fun u => E (by omega) (by omega) (by omega)) (hli l hl).2⟩
    · rw [E (by omega) (by omega) (by omega), E (by omega) (by omega) (by omega)]; exact hb k hk
    · have hc : 29 ≤ x_tc k ∧ x_tc k + 3 < 70 := by
        rcases (show k = 0 ∨ k = 1 ∨ k = 2 ∨ k = 3 ∨ k = 4 ∨ k = 5 by omega) with rfl | rfl | rfl | rfl | rfl | rfl <;> exact ⟨Nat.le_of_ble_eq_true rfl, Nat.le_of_ble_eq_true rfl⟩
      exact x_txt.at (fun u => E (by omega) (by omega) (by omega)) (fun u => E (by omega) (by omega) (by omega)) (fun u => E (by omega) (by omega) (by omega)) (fun u => E (by omega) (by omega) (by omega)) (htx k hk)
    · refine ⟨e4.trans j14.symm, Or.inr ⟨j14, n, Nat.le_refl n, j15.trans l1, (I8 1 (by omega) (by omega)).trans l2, ?_, fun l hl => ⟨?_, ?_, ?_⟩⟩⟩
      · unfold x_num at hnum ⊢
        rw [I8 2 (by omega) (by omega), I8 3 (by omega) (by omega), I8 4 (by omega) (by omega), I8 5 (by omega) (by omega), I8 6 (by omega) (by omega), j16, j17, j18, j19, j20]
        exact hnum
      · obtain ⟨r1, r2⟩ := x_row6_iff.mp (hli l hl).1
        refine x_row6_iff.mpr ⟨fun k hk => ?_, fun k hk => ?_⟩
        · rw [IL l _ (by omega) (by omega), r85 _ (by omega)]; exact r1 k hk
        · rw [r85 _ (by omega)]; exact r2 k hk
      · rw [IL l 0 (by omega) (by omega), E (by omega) (by omega) (by omega)]; exact (hli l hl).2.1.1
      · rw [IL l 1 (by omega) (by omega), E (by omega) (by omega) (by omega)]; exact (hli l hl).2.2.1
    · exact x_she.at (fun u => E (by omega) (by omega) (by omega)) (fun u => E (by omega) (by omega) (by omega)) (E (by omega) (by omega) (by omega)) (E (by omega) (by omega) (by omega)) (fun k _ => E (by omega) (by omega) (by omega)) (hsh s hs)
    · rw [E (by omega) (by omega) (by omega)]; exact hw q hq hq2
theorem x_op_back (D : Nat) : ∀ (σ : xS) (as : List Int32), as.length = 0 → x_R σ → x_stp (D + 3) x_R false 113 215 as σ := by
  intro σ as hl hR
  match as, hl with
  | [], _ =>
    obtain ⟨hG, n, t, z, hP⟩ := id hR
    obtain ⟨hn, ht, hz, ⟨l1, l2⟩, ⟨t1, t2⟩, ⟨z1, z2⟩, hnum, hli, hb, htx, him, hsh, hw⟩ := id hP
    obtain ⟨h3, him⟩ := him
    rcases him with h14 | ⟨h14, i, hin, k15, k81, knum, kl⟩
    · refine x_op_eq hR (.inl (-3)) ⟨_, rfl⟩ ?_ ?_
      · show x_run (D + 3) 113 [.inr (.inr (some 0))] σ = _
        rw [r113, e113_0, x_k0 hG, h3, h14, if_pos rfl]
      · show x_run (D + 3) 215 [.inr (.inr (some 78))] σ = _
        rw [r215, e215_0, x_k78 hG, h14, if_pos rfl]
    · have one : ¬ (1 : Int32) = 0 := by decide
      obtain ⟨σ1, a1, f1, p1, p2, p3⟩ := m66 D (c := 1) (a := 8) (Or.inl rfl) (Or.inr (Or.inl rfl)) (by omega) hG
      have hG1 := f1.G hG
      let σ3 := x_si (x_si (x_si (x_si (x_si (x_si σ1 78 0 (x_I σ1 78 15)) 78 4 (x_I σ1 78 16)) 78 5 (x_I σ1 78 17)) 78 6 (x_I σ1 78 18)) 78 7 (x_I σ1 78 19)) 78 13 (x_I σ1 78 20)
      have fB : x_fr (fun b u => b = 78 ∧ (u = 0 ∨ u = 4 ∨ u = 5 ∨ u = 6 ∨ u = 7 ∨ u = 13)) x_w0 σ1 σ3 := ((((((x_fr.refl (fun b u => b = 78 ∧ (u = 0 ∨ u = 4 ∨ u = 5 ∨ u = 6 ∨ u = 7 ∨ u = 13)) x_w0 σ1).si _ ⟨rfl, by omega⟩).si _ ⟨rfl, by omega⟩).si _ ⟨rfl, by omega⟩).si _ ⟨rfl, by omega⟩).si _ ⟨rfl, by omega⟩).si _ ⟨rfl, by omega⟩
      have hG3 : x_G σ3 := hG1
      obtain ⟨τ, a4, f4, g4⟩ := l215 (D + 2) 30 0 σ3 (by omega) hG3
      have E : ∀ {b u : Nat}, ¬ ((b = 1 ∧ 1 ≤ u ∧ u ≤ 9) ∨ (3 ≤ b ∧ b < 8)) → ¬ (b = 78 ∧ (u = 0 ∨ u = 4 ∨ u = 5 ∨ u = 6 ∨ u = 7 ∨ u = 13)) → b ≠ 81 → x_I τ b u = x_I σ b u := fun h1 h2 h3 => (f4.I (fun g => h3 g.1)).trans ((fB.I h2).trans (f1.I h1))
      have I1 : ∀ u, 1 ≤ u → u ≤ 6 → x_I τ 1 u = x_I σ 8 u := fun u h1 h2 => (f4.I (by omega)).trans ((fB.I (by omega)).trans (p2 u h1 h2))
      have IL : ∀ l u, l < 5 → u < 8 → x_I τ (3 + l) u = x_I σ (10 + l) u := fun l u h1 h2 => (f4.I (by omega)).trans ((fB.I (by omega)).trans (p1 l u h1 h2))
      have J : ∀ u, x_I τ 78 u = x_I σ3 78 u := fun u => f4.I (by omega)
      have F : ∀ u, x_I σ1 78 u = x_I σ 78 u := fun u => f1.I (by omega)
      have j0 : x_I τ 78 0 = x_I σ 78 15 := (J 0).trans (show x_I σ3 78 0 = x_I σ 78 15 from F 15)
      have j4 : x_I τ 78 4 = x_I σ 78 16 := (J 4).trans (show x_I σ3 78 4 = x_I σ 78 16 from F 16)
      have j5 : x_I τ 78 5 = x_I σ 78 17 := (J 5).trans (show x_I σ3 78 5 = x_I σ 78 17 from F 17)
      have j6 : x_I τ 78 6 = x_I σ 78 18 := (J 6).trans (show x_I σ3 78 6 = x_I σ 78 18 from F 18)
      have j7 : x_I τ 78 7 = x_I σ 78 19 := (J 7).trans (show x_I σ3 78 7 = x_I σ 78 19 from F 19)
      have j13 : x_I τ 78 13 = x_I σ 78 20 := (J 13).trans (show x_I σ3 78 13 = x_I σ 78 20 from F 20)
      have r81 : ∀ k, k < 30 → x_I τ 81 k = x_I σ 85 k := fun k hk => (g4 k (by omega) hk).trans ((fB.I (by omega)).trans (f1.I (by omega)))
      refine ⟨.inl (Int32.ofNat i), σ1, τ, ⟨_, rfl⟩, ?_, hG1.1, ?_, f4.G hG3, i, t, z, by omega, ht, hz, ⟨j0.trans k15, (I1 1 (by omega) (by omega)).trans k81⟩, ⟨by rw [E (by omega) (by omega) (by omega)]; exact t1, by rw [E (by omega) (by omega) (by omega)]; exact t2⟩, ⟨by rw [E (by omega) (by omega) (by omega)]; exact z1, by rw [E (by omega) (by omega) (by omega)]; exact z2⟩, ?_, fun l hl => ?_, fun k hk => ?_, fun k hk => ?_, ?_, fun s hs => ?_, fun q hq hq2 => ?_⟩
      · show x_run (D + 3) 113 [.inr (.inr (some 0))] σ = _
        rw [r113, e113_0, x_k0 hG, h3, h14, if_neg one, x_k0 hG, x_k0 hG, x_q0_0 hG, x_der_s, x_k1 hG, x_q0_1 hG, a1, x_cv_s, x_k0 hG1, x_q0_0 hG1, x_der_s, x_k1 hG1, p2 1 (by omega) (by omega), k81]
      · show x_run (D + 3) 215 [.inr (.inr (some 78))] σ1 = _
        rw [r215, e215_0, x_k78 hG1, F, h14, if_neg one]
        simp only [↓x_k78, hG1, x_Gsi, x_Isi, true_and, show ¬ (16 = 0) by decide, show ¬ (17 = 0) by decide, show ¬ (18 = 0) by decide, show ¬ (19 = 0) by decide, show ¬ (20 = 0) by decide, show ¬ (17 = 4) by decide, show ¬ (18 = 4) by decide, show ¬ (19 = 4) by decide, show ¬ (20 = 4) by decide, show ¬ (18 = 5) by decide, show ¬ (19 = 5) by decide, show ¬ (20 = 5) by decide, show ¬ (19 = 6) by decide, show ¬ (20 = 6) by decide, show ¬ (20 = 7) by decide, if_false]
        have a5 := a4
        rw [show x_I σ3 78 0 = Int32.ofNat i from (F 15).trans k15] at a5
        exact a5
      · unfold x_num at knum ⊢
        rw [I1 2 (by omega) (by omega), I1 3 (by omega) (by omega), I1 4 (by omega) (by omega), I1 5 (by omega) (by omega), I1 6 (by omega) (by omega), j4, j5, j6, j7, j13]
        exact knum
      · obtain ⟨r, q0, q1⟩ := kl l hl
        obtain ⟨r1, r2⟩ := x_row6_iff.mp r
        obtain ⟨⟨-, b0⟩, ⟨-, b1⟩⟩ := (hli l (by omega)).2
        have E9 : x_I τ 79 l = x_I σ 79 l := E (by omega) (by omega) (by omega)
        have E0 : x_I τ 80 l = x_I σ 80 l := E (by omega) (by omega) (by omega)
        refine ⟨x_row6_iff.mpr ⟨fun k hk => ?_, fun k hk => ?_⟩, ⟨?_, by rw [E9]; exact b0⟩, ⟨?_, by rw [E0]; exact b1⟩⟩
        · rw [IL l _ (by omega) (by omega), r81 _ (by omega)]; exact r1 k hk
        · rw [r81 _ (by omega)]; exact r2 k hk
        · rw [IL l 0 (by omega) (by omega), E9]; exact q0
        · rw [IL l 1 (by omega) (by omega), E0]; exact q1
      · rw [E (by omega) (by omega) (by omega), E (by omega) (by omega) (by omega)]; exact hb k hk
      · have hc : 29 ≤ x_tc k ∧ x_tc k + 3 < 70 := by
          rcases (show k = 0 ∨ k = 1 ∨ k = 2 ∨ k = 3 ∨ k = 4 ∨ k = 5 by omega) with rfl | rfl | rfl | rfl | rfl | rfl <;> exact ⟨Nat.le_of_ble_eq_true rfl, Nat.le_of_ble_eq_true rfl⟩
        exact x_txt.at (fun u => E (by omega) (by omega) (by omega)) (fun u => E (by omega) (by omega) (by omega)) (fun u => E (by omega) (by omega) (by omega)) (fun u => E (by omega) (by omega) (by omega)) (htx k hk)
      · have F8 : ∀ {b u : Nat}, (b = 0 ∨ b = 8 ∨ (10 ≤ b ∧ b < 15) ∨ b = 79 ∨ b = 80 ∨ b = 85 ∨ (b = 78 ∧ 14 ≤ u ∧ u ≤ 20)) → x_I τ b u = x_I σ b u := fun h => E (by omega) (by omega) (by omega)
        refine ⟨by rw [F8 (by omega), F8 (by omega)]; exact h3, Or.inr ⟨by rw [F8 (by omega)]; exact h14, i, Nat.le_refl i, by rw [F8 (by omega)]; exact k15, by rw [F8 (by omega)]; exact k81, ?_, fun l hl => ?_⟩⟩
        · exact x_num.at (F8 (by omega)) (F8 (by omega)) (F8 (by omega)) (F8 (by omega)) (F8 (by omega)) (F8 (by omega)) (F8 (by omega)) (F8 (by omega)) (F8 (by omega)) (F8 (by omega)) knum
        · obtain ⟨r, q0, q1⟩ := kl l hl
          exact ⟨x_row6.at (fun u => F8 (by omega)) (fun u => F8 (by omega)) r, by rw [F8 (by omega), F8 (by omega)]; exact q0, by rw [F8 (by omega), F8 (by omega)]; exact q1⟩
      · exact x_she.at (fun u => E (by omega) (by omega) (by omega)) (fun u => E (by omega) (by omega) (by omega)) (E (by omega) (by omega) (by omega)) (E (by omega) (by omega) (by omega)) (fun k _ => E (by omega) (by omega) (by omega)) (hsh s hs)
      · rw [E (by omega) (by omega) (by omega)]; exact hw q hq hq2
