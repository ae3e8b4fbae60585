/-! what so many years bring: both sides reckon the same -/
theorem y_tk_n {a b c : Nat} (ha : a ≤ 99999) (hb : b ≤ 999) (hc : c ≤ 100) : x_tk (Int32.ofNat b) (Int32.ofNat c) (Int32.ofNat a) = Int32.ofNat (if a ≤ b then 0 else (a - b) * c / 100) ∧ (if a ≤ b then 0 else (a - b) * c / 100) ≤ a := by
  unfold x_tk
  by_cases h : a ≤ b
  · rw [if_pos ((x_le (by omega) (by omega)).mpr h), if_pos h]
    exact ⟨rfl, Nat.zero_le _⟩
  · rw [if_neg (fun g => h ((x_le (by omega) (by omega)).mp g)), if_neg h]
    have h2 : (a - b) * c ≤ (a - b) * 100 := Nat.mul_le_mul_left _ hc
    refine ⟨?_, by omega⟩
    rw [x_sb (by omega) (by omega), ← Int32.ofNat_mul, show (100 : Int32) = Int32.ofNat 100 from rfl, x_dv (by omega) (by omega)]
theorem y_tk_b {e s v : Int32} (he : x_bd e 0 999) (hs : x_bd s 0 100) (hv : x_bd v 0 99999) : ∃ a q, v = Int32.ofNat a ∧ x_tk e s v = Int32.ofNat q ∧ q ≤ a ∧ a ≤ 99999 := by
  obtain ⟨b, hb, rfl⟩ := x_bd_of (n := 999) (by omega) he rfl
  obtain ⟨c, hc, rfl⟩ := x_bd_of (n := 100) (by omega) hs rfl
  obtain ⟨a, ha, rfl⟩ := x_bd_of (n := 99999) (by omega) hv rfl
  obtain ⟨e1, e2⟩ := y_tk_n ha hb hc
  exact ⟨a, _, rfl, e1, e2, ha⟩
def y_o (p : Nat → List Int32) (k m e s u y : Int32) (w : Nat) : Nat := (x_O p k m e s y (u + Int32.ofNat w)).toNatClampNeg
def y_z (p : Nat → List Int32) (k m e s u y : Int32) (w : Nat) : Nat := (x_Z p k m e s y (u + Int32.ofNat w)).toNatClampNeg
def y_t (p : Nat → List Int32) (k m e s u y : Int32) (w : Nat) : Nat := (x_tk e s (x_Z p k m e s y (u + Int32.ofNat w))).toNatClampNeg
theorem y_ozt (p : Nat → List Int32) {k m e s u y : Int32} (he : x_bd e 0 999) (hs : x_bd s 0 100) (w : Nat) : (x_O p k m e s y (u + Int32.ofNat w) = Int32.ofNat (y_o p k m e s u y w) ∧ y_o p k m e s u y w ≤ 100) ∧ (x_Z p k m e s y (u + Int32.ofNat w) = Int32.ofNat (y_z p k m e s u y w) ∧ y_z p k m e s u y w ≤ 8991) ∧ x_tk e s (x_Z p k m e s y (u + Int32.ofNat w)) = Int32.ofNat (y_t p k m e s u y w) ∧ y_t p k m e s u y w ≤ y_z p k m e s u y w := by
  obtain ⟨o, ho, e1⟩ := x_bd_of (n := 100) (by omega) (x_O_b p k m e s y (u + Int32.ofNat w)) rfl
  obtain ⟨z, hz, e2⟩ := x_bd_of (n := 8991) (by omega) (x_Z_b p k m e s y (u + Int32.ofNat w)) rfl
  obtain ⟨a, q, e3, e4, hq, ha⟩ := y_tk_b he hs (y_big (x_Z_b p k m e s y (u + Int32.ofNat w)) (by decide))
  have az : a = z := x_inj32 (by omega) (by omega) (e3.symm.trans e2)
  have q1 : y_o p k m e s u y w = o := by unfold y_o; rw [e1, x_tn (by omega)]
  have q2 : y_z p k m e s u y w = z := by unfold y_z; rw [e2, x_tn (by omega)]
  have q3 : y_t p k m e s u y w = q := by unfold y_t; rw [e4, x_tn (by omega)]
  rw [q1, q2, q3]
  exact ⟨⟨e1, ho⟩, ⟨e2, hz⟩, e4, by omega⟩
/-- chances, below, taken, kept, windfalls -/
abbrev y_S : Type := (Nat → Nat) × (Nat × (Nat × (Nat × Nat)))
def y_w (o z t w : Nat) (S : y_S) : y_S := (fun k => if k = w then S.1 w * (100 - o) else if k = w + 1 then S.1 (w + 1) + S.1 w * o else S.1 k, S.2.1, S.2.2.1 + S.1 w * o * t, S.2.2.2.1 + S.1 w * o * (z - t), S.2.2.2.2 + S.1 w * o)
def y_yr (o z t : Nat → Nat) : Nat → y_S → y_S
  | 0, S => y_w (o 0) (z 0) (t 0) 0 S
  | w + 1, S => y_yr o z t w (y_w (o (w + 1)) (z (w + 1)) (t (w + 1)) (w + 1) S)
def y_x (S : y_S) : y_S := (S.1, S.2.1 * 100, S.2.2.1 * 100, S.2.2.2.1 * 100, S.2.2.2.2 * 100)
def y_F (p : Nat → List Int32) (k m e s u y : Int32) (i : Nat) (S : y_S) : y_S := y_yr (y_o p k m e s u (y + Int32.ofNat i)) (y_z p k m e s u (y + Int32.ofNat i)) (y_t p k m e s u (y + Int32.ofNat i)) i (y_x S)
def y_0 : y_S := (fun k => if k = 0 then 1 else 0, 1, 0, 0, 0)
def y_all (p : Nat → List Int32) (k m e s u y : Int32) (n : Nat) : y_S := x_it (y_F p k m e s u y) 0 n y_0
def y_jc (σ : xS) (S : y_S) : Prop := (∀ k, k < 7 → x_J σ 39 k = Int64.ofNat (S.1 k)) ∧ x_J σ 38 1 = Int64.ofNat S.2.1 ∧ x_J σ 38 2 = Int64.ofNat S.2.2.1 ∧ x_J σ 38 3 = Int64.ofNat S.2.2.2.1 ∧ x_J σ 38 4 = Int64.ofNat S.2.2.2.2
def y_jr (σ : xS) (S : y_S) : Prop := (∀ k, k < 7 → x_J σ 94 k = Int64.ofNat (S.1 k)) ∧ x_J σ 78 38 = Int64.ofNat S.2.1 ∧ x_J σ 78 39 = Int64.ofNat S.2.2.1 ∧ x_J σ 78 40 = Int64.ofNat S.2.2.2.1 ∧ x_J σ 78 41 = Int64.ofNat S.2.2.2.2
def y_vj (b _ : Nat) : Prop := b = 38 ∨ b = 39
def y_vr (b u : Nat) : Prop := b = 94 ∨ (b = 78 ∧ 38 ≤ u ∧ u ≤ 41)
theorem y_jc.fr {σ τ : xS} {S : y_S} {W : Nat → Nat → Prop} (f : x_fr W x_w0 σ τ) (h : y_jc σ S) : y_jc τ S := by
  have e : ∀ a u, x_J τ a u = x_J σ a u := fun a u => f.J (fun g => g)
  unfold y_jc at h ⊢
  simp only [e]
  exact h
theorem y_jr.fr {σ τ : xS} {S : y_S} {W : Nat → Nat → Prop} (f : x_fr W x_w0 σ τ) (h : y_jr σ S) : y_jr τ S := by
  have e : ∀ a u, x_J τ a u = x_J σ a u := fun a u => f.J (fun g => g)
  unfold y_jr at h ⊢
  simp only [e]
  exact h
theorem x_fr.w0 {W V : Nat → Nat → Prop} {σ τ : xS} (f : x_fr W x_w0 σ τ) : x_fr W V σ τ := f.mono (fun _ _ h => h) (fun _ _ h => h.elim)
theorem y_i7 {w : Nat} (hw : w < 7) (K : Option xR) : x_ix (Int32.ofNat w) 7 K = K := x_ixk (by omega) (by omega) K
theorem y_i8 {w : Nat} (hw : w < 8) (K : Option xR) : x_ix (Int32.ofNat w) 8 K = K := x_ixk (by omega) (by omega) K
theorem y_n8 {w : Nat} (hw : w < 8) : (Int32.ofNat w).toNatClampNeg = w := x_tn (by omega)
theorem m28 (d : Nat) {σ : xS} (hG : x_G σ) {r : Nat} (hr : r < 6) {o : Nat → Nat} {p : Nat → List Int32} (hv : x_tv σ r o p) {c : Nat} (hc : Nat.beq (x_nth x_K c).1 2 = true) {k m e s u : Int32} (hcl : y_cl σ c k m e s u) (mb : x_bd m 0 9) (eb : x_bd e 0 999) (sb : x_bd s 0 100) {w : Nat} (hw : w < 6) (y : Int32) {S : y_S} (hj : y_jc σ S) : ∃ τ, x_run (d + 5) 28 [.inr (.inr (some 38)), .inr (.inr (some c)), .inr (.inr (some (x_tc r))), .inl y, .inl (Int32.ofNat w)] σ = some (none, τ) ∧ x_fr x_wt y_vj σ τ ∧ y_jc τ (y_w (y_o p k m e s u y w) (y_z p k m e s u y w) (y_t p k m e s u y w) w S) := by
  obtain ⟨σ1, a1, f1⟩ := c16 d hG hr hv hc hcl mb y (u + Int32.ofNat w)
  have hG1 := f1.G hG
  obtain ⟨σ2, a2, f2⟩ := c18 d hG1 hr (hv.fr hr f1) hc (hcl.fr f1 (x_wt_c hc)) y (u + Int32.ofNat w)
  have f12 := f1.trans f2
  have hG2 := f12.G hG
  have a3 := c20 (d + 3) hG2 hc (hcl.fr f12 (x_wt_c hc)) (x_Z p k m e s y (u + Int32.ofNat w))
  have hj2 := hj.fr f12
  obtain ⟨⟨o1, o2⟩, ⟨z1, z2⟩, t1, t2⟩ := y_ozt p (k := k) (m := m) (u := u) (y := y) eb sb w
  rw [o1] at a1
  rw [t1] at a3
  rw [z1] at a2 a3
  generalize y_o p k m e s u y w = o at *
  generalize y_z p k m e s u y w = z at *
  generalize y_t p k m e s u y w = t at *
  have n1 : ¬ Int32.ofNat w < 0 := x_nn0 (by omega)
  have n2 : Int32.ofNat (w + 1) < Int32.ofNat 7 := by
    exact Int32.not_le.mp (fun h => absurd ((x_le (by omega) (by omega)).mp h) (by omega))
  have kc : ∀ (τ : xS) (K : Option xR), x_G τ → x_ck τ c 2 K = K := fun τ K h => x_ckk h.1 hc K
  have w7 : w < 7 := by omega
  have w17 : w + 1 < 7 := by omega
  have w8 : w < 8 := by omega
  have w18 : w + 1 < 8 := by omega
  rw [r28, e28_0]
  simp only [n1, n2, if_false, if_true, ↓x_k38, ↓x_k39, ↓x_m39, x_q38_0, hG, hG1, hG2, x_Gsl, x_Qsl, ↓x_der_s, x_der_s, ↓kc, hcl.2.2.2.2, a1, a2, a3, x_ci_s, x_s1, y_i7, y_n8, w7, w8, w17, w18]
  refine ⟨_, rfl, ?_, ?_⟩
  · exact (((((f12.w0 (V := y_vj)).sl _ (Or.inl rfl)).sl _ (Or.inl rfl)).sl _ (Or.inl rfl)).sl _ (Or.inr rfl)).sl _ (Or.inr rfl)
  · obtain ⟨j0, j1, j2, j3, j4⟩ := hj2
    have e1 : (100 - Int32.ofNat o).toInt64 = Int64.ofNat (100 - o) := by
      rw [show (100 : Int32) = Int32.ofNat 100 from rfl, x_sb o2 (by omega), x_to64 (by omega)]
    have e2 : (Int32.ofNat z - Int32.ofNat t).toInt64 = Int64.ofNat (z - t) := by
      rw [x_sb t2 (by omega), x_to64 (by omega)]
    refine ⟨fun q hq => ?_, ?_, ?_, ?_, ?_⟩
    · simp only [x_Jsl, x_to64 (show o < 2 ^ 31 by omega), e1, true_and, j0 w w7, j0 (w + 1) w17, ← Int64.ofNat_mul, ← Int64.ofNat_add, show ¬ (39 = 38) by decide, false_and, if_false, show ¬ w = w + 1 by omega]
      show _ = Int64.ofNat (if q = w then S.1 w * (100 - o) else if q = w + 1 then S.1 (w + 1) + S.1 w * o else S.1 q)
      by_cases q1 : q = w
      · rw [if_pos q1, if_pos q1]
      · rw [if_neg q1, if_neg q1]
        by_cases q2 : q = w + 1
        · rw [if_pos q2, if_pos q2]
        · rw [if_neg q2, if_neg q2, j0 q hq]
    · simp [x_Jsl, j1, y_w]
    · simp [x_Jsl, j2, y_w, j0 w w7, x_to64 (show o < 2 ^ 31 by omega), x_to64 (show t < 2 ^ 31 by omega), ← Int64.ofNat_mul, ← Int64.ofNat_add]
    · simp [x_Jsl, j3, y_w, j0 w w7, x_to64 (show o < 2 ^ 31 by omega), e2, ← Int64.ofNat_mul, ← Int64.ofNat_add]
    · simp [x_Jsl, j4, y_w, j0 w w7, x_to64 (show o < 2 ^ 31 by omega), ← Int64.ofNat_mul, ← Int64.ofNat_add]
theorem l27w (d : Nat) {r : Nat} (hr : r < 6) {o : Nat → Nat} {p : Nat → List Int32} {c : Nat} (hc : Nat.beq (x_nth x_K c).1 2 = true) {k m e s u y : Int32} (mb : x_bd m 0 9) (eb : x_bd e 0 999) (sb : x_bd s 0 100) (i4 : Int32) (i : Nat) : ∀ (w : Nat) (S : y_S) (σ : xS), w < 6 → x_G σ → x_tv σ r o p → y_cl σ c k m e s u → y_jc σ S → ∃ τ, x_f (d + 5) 27 97 [some (.inr (.inr (some 38))), some (.inr (.inr (some c))), some (.inr (.inr (some (x_tc r)))), some (.inl y), some (.inl i4), some (.inl (Int32.ofNat i)), some (.inl (Int32.ofNat w))] [] σ = x_f (d + 5) 27 38 [some (.inr (.inr (some 38))), some (.inr (.inr (some c))), some (.inr (.inr (some (x_tc r)))), some (.inl y), some (.inl i4), some (.inl (Int32.ofNat (i + 1))), none] [] τ ∧ x_fr x_wt y_vj σ τ ∧ y_jc τ (y_yr (y_o p k m e s u (y + Int32.ofNat i)) (y_z p k m e s u (y + Int32.ofNat i)) (y_t p k m e s u (y + Int32.ofNat i)) w S)
  | 0, S, σ, hw, hG, hv, hcl, hj => by
    obtain ⟨τ, a, f, j⟩ := m28 d hG hr hv hc hcl mb eb sb (w := 0) hw (y + Int32.ofNat i) hj
    refine ⟨τ, ?_, f, j⟩
    rw [x_feq, e27_97, if_neg (x_nn0 (by omega)), x_k38 hG, a, x_cv_s, x_feq, e27_97, if_pos (by decide), x_s1]
  | w + 1, S, σ, hw, hG, hv, hcl, hj => by
    obtain ⟨σ1, a, f, j⟩ := m28 d hG hr hv hc hcl mb eb sb (w := w + 1) hw (y + Int32.ofNat i) hj
    obtain ⟨τ, a2, f2, j2⟩ := l27w d hr hc mb eb sb i4 i w _ σ1 (by omega) (f.G hG) (hv.fr hr f) (hcl.fr f (x_wt_c hc)) j
    refine ⟨τ, ?_, f.trans f2, j2⟩
    rw [x_feq, e27_97, if_neg (x_nn0 (by omega)), x_k38 hG, a, x_cv_s, x_pm1, a2]
theorem l27 (d : Nat) {r : Nat} (hr : r < 6) {o : Nat → Nat} {p : Nat → List Int32} {c : Nat} (hc : Nat.beq (x_nth x_K c).1 2 = true) {k m e s u y : Int32} (mb : x_bd m 0 9) (eb : x_bd e 0 999) (sb : x_bd s 0 100) {n : Nat} (hn : n ≤ 6) : ∀ (q i : Nat) (S : y_S) (σ : xS), i + q = n → x_G σ → x_tv σ r o p → y_cl σ c k m e s u → y_jc σ S → ∃ τ, x_f (d + 5) 27 38 [some (.inr (.inr (some 38))), some (.inr (.inr (some c))), some (.inr (.inr (some (x_tc r)))), some (.inl y), some (.inl (Int32.ofNat n)), some (.inl (Int32.ofNat i)), none] [] σ = some (none, τ) ∧ x_fr x_wt y_vj σ τ ∧ y_jc τ (x_it (y_F p k m e s u y) i q S)
  | 0, i, S, σ, hi, hG, hv, hcl, hj => by
    refine ⟨σ, ?_, x_fr.refl _ _ _, hj⟩
    rw [x_feq, e27_38, if_pos ((x_le (by omega) (by omega)).mpr (by omega))]
  | q + 1, i, S, σ, hi, hG, hv, hcl, hj => by
    have f0 : x_fr x_wt y_vj σ (x_sl (x_sl (x_sl (x_sl σ 38 1 (x_J σ 38 1 * 100)) 38 2 (x_J σ 38 2 * 100)) 38 3 (x_J σ 38 3 * 100)) 38 4 (x_J σ 38 4 * 100)) := ((((x_fr.refl x_wt y_vj σ).sl _ (Or.inl rfl)).sl _ (Or.inl rfl)).sl _ (Or.inl rfl)).sl _ (Or.inl rfl)
    have j0 : y_jc (x_sl (x_sl (x_sl (x_sl σ 38 1 (x_J σ 38 1 * 100)) 38 2 (x_J σ 38 2 * 100)) 38 3 (x_J σ 38 3 * 100)) 38 4 (x_J σ 38 4 * 100)) (y_x S) := by
      obtain ⟨j0, j1, j2, j3, j4⟩ := hj
      refine ⟨fun k hk => ?_, ?_, ?_, ?_, ?_⟩
      · simp [x_Jsl, j0 k hk, y_x]
      · show x_J σ 38 1 * 100 = Int64.ofNat (S.2.1 * 100)
        rw [j1, y_h64]
      · show x_J σ 38 2 * 100 = Int64.ofNat (S.2.2.1 * 100)
        rw [j2, y_h64]
      · show x_J σ 38 3 * 100 = Int64.ofNat (S.2.2.2.1 * 100)
        rw [j3, y_h64]
      · show x_J σ 38 4 * 100 = Int64.ofNat (S.2.2.2.2 * 100)
        rw [j4, y_h64]
    obtain ⟨σ1, a1, f1, j1⟩ := l27w d hr hc mb eb sb (Int32.ofNat n) i i (y_x S) _ (by omega) (f0.G hG) (hv.fr hr f0) (hcl.fr f0 (x_wt_c hc)) j0
    have f01 := f0.trans f1
    obtain ⟨τ, a2, f2, j2⟩ := l27 d hr hc mb eb sb hn q (i + 1) _ σ1 (by omega) (f01.G hG) (hv.fr hr f01) (hcl.fr f01 (x_wt_c hc)) j1
    refine ⟨τ, ?_, f01.trans f2, j2⟩
    rw [x_feq, e27_38, if_neg (fun h => absurd ((x_le (by omega) (by omega)).mp h) (by omega))]
    simp only [↓x_k38, hG, x_Gsl]
    refine Eq.trans ?_ (a1.trans a2)
    have e1 : ∀ v, x_J (x_sl σ 38 1 v) 38 2 = x_J σ 38 2 := fun v => rfl
    have e2 : ∀ v w, x_J (x_sl (x_sl σ 38 1 v) 38 2 w) 38 3 = x_J σ 38 3 := fun v w => rfl
    have e3 : ∀ v w x, x_J (x_sl (x_sl (x_sl σ 38 1 v) 38 2 w) 38 3 x) 38 4 = x_J σ 38 4 := fun v w x => rfl
    simp only [e1, e2, e3]
theorem l224 (d : Nat) {a n : Nat} (hn : n ≤ 200) (hk : ∀ τ, x_G τ → ∀ K, x_ak τ a 12 K = K n) (v : Int64) : ∀ m i σ, i + m = n → x_G σ → ∃ τ, x_f d 224 6 [some (.inr (.inr (some a))), some (.inr (.inl v)), none, some (.inl (Int32.ofNat i)), some (.inl (Int32.ofNat n))] [] σ = some (none, τ) ∧ x_fr x_w0 (fun b u => b = a ∧ i ≤ u ∧ u < n) σ τ ∧ ∀ k, i ≤ k → k < n → x_J τ a k = v
  | 0, i, σ, hi, hG => by
    refine ⟨σ, ?_, x_fr.refl _ _ _, fun k h1 h2 => absurd h2 (by omega)⟩
    rw [x_feq, e224_6, if_pos ((x_le (by omega) (by omega)).mpr (by omega))]
  | m + 1, i, σ, hi, hG => by
    obtain ⟨τ, e, f, g⟩ := l224 d hn hk v m (i + 1) (x_sl σ a i v) (by omega) hG
    refine ⟨τ, ?_, ((x_fr.refl x_w0 (fun b u => b = a ∧ i ≤ u ∧ u < n) σ).sl v ⟨rfl, by omega, by omega⟩).trans (f.mono (fun _ _ h => h) (fun b u h => ⟨h.1, by omega, h.2.2⟩)), fun k h1 h2 => ?_⟩
    · rw [x_feq, e224_6, if_neg (fun h => absurd ((x_le (by omega) (by omega)).mp h) (by omega)), x_der_s, hk σ hG, x_ixk (by omega) (by omega), x_tn (by omega), x_s1, e]
    · by_cases c : k = i
      · subst c
        rw [f.J (fun h => absurd h.2.1 (by omega)), x_Jsl, if_pos ⟨rfl, rfl⟩]
      · exact g k (by omega) h2
theorem m27 (d : Nat) {σ : xS} (hG : x_G σ) {r : Nat} (hr : r < 6) {o : Nat → Nat} {p : Nat → List Int32} (hv : x_tv σ r o p) {c : Nat} (hc : Nat.beq (x_nth x_K c).1 2 = true) {k m e s u : Int32} (hcl : y_cl σ c k m e s u) (mb : x_bd m 0 9) (eb : x_bd e 0 999) (sb : x_bd s 0 100) {n : Nat} (hn : n ≤ 6) (y : Int32) : ∃ τ, x_run (d + 6) 27 [.inr (.inr (some 38)), .inr (.inr (some c)), .inr (.inr (some (x_tc r))), .inl y, .inl (Int32.ofNat n)] σ = some (none, τ) ∧ x_fr x_wt y_vj σ τ ∧ y_jc τ (y_all p k m e s u y n) := by
  obtain ⟨σ1, a1, f1, g1⟩ := l224 (d + 4) (a := 39) (n := 7) (by omega) (fun τ h K => x_k39 h K) 0 7 0 σ (by omega) hG
  have f1 : x_fr x_wt y_vj σ σ1 := f1.mono (fun _ _ h => h.elim) (fun b u h => Or.inr h.1)
  have hG1 := f1.G hG
  have f0 : x_fr x_wt y_vj σ1 (x_sl (x_sl (x_sl (x_sl (x_sl σ1 39 0 1) 38 1 1) 38 2 0) 38 3 0) 38 4 0) := (((((x_fr.refl x_wt y_vj σ1).sl _ (Or.inr rfl)).sl _ (Or.inl rfl)).sl _ (Or.inl rfl)).sl _ (Or.inl rfl)).sl _ (Or.inl rfl)
  have f01 := f1.trans f0
  have j0 : y_jc (x_sl (x_sl (x_sl (x_sl (x_sl σ1 39 0 1) 38 1 1) 38 2 0) 38 3 0) 38 4 0) y_0 := by
    refine ⟨fun k hk => ?_, rfl, rfl, rfl, rfl⟩
    rcases k with _ | k
    · rfl
    · simp [x_Jsl, g1 (k + 1) (by omega) hk, y_0]
  obtain ⟨τ, a2, f2, j2⟩ := l27 d hr hc mb eb sb hn n 0 y_0 _ (by omega) (f01.G hG) (hv.fr hr f01) (hcl.fr f01 (x_wt_c hc)) j0
  refine ⟨τ, ?_, f01.trans f2, j2⟩
  have b1 : x_run (d + 5) 224 [.inr (.inr (some 39)), .inr (.inl 0)] σ = some (none, σ1) := by
    rw [r224, e224_0, x_der_s, x_m39 hG]
    exact a1
  rw [r27, e27_0, x_k38 hG, x_q38_0 hG, b1, x_cv_s]
  simp only [↓x_k38, ↓x_k39, hG1, x_Gsl, x_q38_0, ↓x_der_s, x_der_s, x_ixl (show (decide ((0 : Int32) < 0) || Nat.ble 7 (0 : Int32).toNatClampNeg) = false by decide)]
  exact a2
/-! the reference -/
theorem l167w (d : Nat) {r : Nat} (hr : r < 6) {o : Nat → Nat} {p : Nat → List Int32} {l : Nat} (hl : l < 5) {k m e s u y : Int32} (mb : x_bd m 0 9) (eb : x_bd e 0 999) (sb : x_bd s 0 100) (i2 : Int32) (i : Nat) {w : Nat} (hw : w < 6) {S : y_S} {σ : xS} (hG : x_G σ) (hv : x_tv σ r o p) (h13 : x_I σ 78 13 = Int32.ofNat r) (hrl : y_rl σ l k m e s u) (hy : x_I σ 78 4 = y) (hj : y_jr σ S) : ∃ τ, x_f (d + 4) 167 107 [some (.inr (.inr (some 78))), some (.inl (Int32.ofNat l)), some (.inl i2), some (.inl (Int32.ofNat i)), some (.inl (Int32.ofNat w)), none, none, none, none, none, none, none] [] σ = x_f (d + 4) 167 107 [some (.inr (.inr (some 78))), some (.inl (Int32.ofNat l)), some (.inl i2), some (.inl (Int32.ofNat i)), some (.inl (Int32.ofNat w + (-1))), none, none, none, none, none, none, none] [] τ ∧ x_fr x_wt y_vr σ τ ∧ y_jr τ (y_w (y_o p k m e s u (y + Int32.ofNat i) w) (y_z p k m e s u (y + Int32.ofNat i) w) (y_t p k m e s u (y + Int32.ofNat i) w) w S) := by
  have w9 : ∀ {b}, b = 79 ∨ b = 80 ∨ b = 81 ∨ b = 78 → ∀ u, ¬ x_wt b u := fun h => x_wt_o (by omega)
  obtain ⟨σ1, a1, f1⟩ := c160 d hG hr hv h13 hl hrl mb (y + Int32.ofNat i) (u + Int32.ofNat w)
  have hG1 := f1.G hG
  obtain ⟨σ2, a2, f2⟩ := c161 d hG1 hr (hv.fr hr f1) ((f1.I (w9 (by omega) _)).trans h13) hl (hrl.fr f1 (w9 (by omega)) (w9 (by omega)) (w9 (by omega))) (y + Int32.ofNat i) (u + Int32.ofNat w)
  have f12 := f1.trans f2
  have hG2 := f12.G hG
  have a3 := c163 (d + 3) hG2 hl (hrl.fr f12 (w9 (by omega)) (w9 (by omega)) (w9 (by omega))) eb (y_big (x_Z_b p k m e s (y + Int32.ofNat i) (u + Int32.ofNat w)) (by decide))
  have hj2 := hj.fr f12
  have hy1 : x_I σ1 78 4 = y := (f1.I (w9 (by omega) _)).trans hy
  obtain ⟨⟨o1, o2⟩, ⟨z1, z2⟩, t1, t2⟩ := y_ozt p (k := k) (m := m) (u := u) (y := y + Int32.ofNat i) eb sb w
  rw [o1] at a1
  rw [t1] at a3
  rw [z1] at a2 a3
  generalize y_o p k m e s u (y + Int32.ofNat i) w = o at *
  generalize y_z p k m e s u (y + Int32.ofNat i) w = z at *
  generalize y_t p k m e s u (y + Int32.ofNat i) w = t at *
  have n1 : ¬ Int32.ofNat w < 0 := x_nn0 (by omega)
  have w7 : w < 7 := by omega
  have w17 : w + 1 < 7 := by omega
  have w8 : w < 8 := by omega
  have w18 : w + 1 < 8 := by omega
  rw [x_feq, e167_107, if_neg n1]
  simp only [↓x_k78, ↓x_k81, ↓x_k94, x_q78_3, x_q78_37, hG, hG1, hG2, x_Gsl, x_Qsl, ↓x_der_s, x_der_s, hy, hy1, x_6i5, x_6n5, hl, hrl.2.2.2.2, a1, a2, a3, x_ci_s, y_i8, y_n8, w8]
  rw [x_feq, e167_195]
  simp only [↓x_k78, ↓x_k94, x_q78_37, hG2, x_Gsl, x_Qsl, ↓x_der_s, x_der_s, x_s1, y_i8, y_n8, w18]
  rw [x_feq, e167_238]
  simp only [↓x_k78, ↓x_k94, x_q78_37, hG2, x_Gsl, x_Qsl, ↓x_der_s, x_der_s, y_i8, y_n8, w8]
  refine ⟨_, rfl, ?_, ?_⟩
  · exact (((((f12.w0 (V := y_vr)).sl _ (Or.inr ⟨rfl, by omega, by omega⟩)).sl _ (Or.inr ⟨rfl, by omega, by omega⟩)).sl _ (Or.inr ⟨rfl, by omega, by omega⟩)).sl _ (Or.inl rfl)).sl _ (Or.inl rfl)
  · obtain ⟨j0, j1, j2, j3, j4⟩ := hj2
    have e1 : 100 - Int64.ofNat o = Int64.ofNat (100 - o) := by
      rw [show (100 : Int64) = Int64.ofNat 100 from rfl, x_sb64 o2 (by omega)]
    have e2 : (Int32.ofNat z - Int32.ofNat t).toInt64 = Int64.ofNat (z - t) := by
      rw [x_sb t2 (by omega), x_to64 (by omega)]
    refine ⟨fun q hq => ?_, ?_, ?_, ?_, ?_⟩
    · simp only [x_Jsl, e1, x_to64 (show o < 2 ^ 31 by omega), true_and, j0 w w7, j0 (w + 1) w17, ← Int64.ofNat_mul, ← Int64.ofNat_add, show ¬ (94 = 78) by decide, false_and, if_false, show ¬ w = w + 1 by omega]
      show _ = Int64.ofNat (if q = w then S.1 w * (100 - o) else if q = w + 1 then S.1 (w + 1) + S.1 w * o else S.1 q)
      by_cases q1 : q = w
      · rw [if_pos q1, if_pos q1]
      · rw [if_neg q1, if_neg q1]
        by_cases q2 : q = w + 1
        · rw [if_pos q2, if_pos q2]
        · rw [if_neg q2, if_neg q2, j0 q hq]
    · simp [x_Jsl, j1, y_w]
    · simp [x_Jsl, j2, y_w, j0 w w7, x_to64 (show o < 2 ^ 31 by omega), x_to64 (show t < 2 ^ 31 by omega), ← Int64.ofNat_mul, ← Int64.ofNat_add]
    · simp [x_Jsl, j3, y_w, j0 w w7, x_to64 (show o < 2 ^ 31 by omega), e2, ← Int64.ofNat_mul, ← Int64.ofNat_add]
    · simp [x_Jsl, j4, y_w, j0 w w7, x_to64 (show o < 2 ^ 31 by omega), ← Int64.ofNat_mul, ← Int64.ofNat_add]
