/-! life, livesBy -/
abbrev y_ok3 (a b c : Int32) : Prop := (0 ≤ a ∧ a ≤ 59) ∧ (0 ≤ b ∧ b ≤ 99999) ∧ (0 ≤ c ∧ c ≤ 11)
def y_cm (σ : xS) (x : Nat) (a b c : Int32) : Prop := x_I σ x 0 = a / 10 ∧ x_I σ x 1 = a - a / 10 * 10 ∧ x_I σ x 2 = b ∧ x_I σ x 3 = 10 ∧ x_I σ x 4 = 50 ∧ x_I σ x 5 = c ∧ x_I σ x 6 = -1 ∧ x_I σ x 7 = 0
theorem m11 (d : Nat) {σ : xS} (hG : x_G σ) {l : Nat} (hl : l < 5) (a b c : Int32) : ∃ τ, x_run (d + 1) 11 [.inr (.inr (some (3 + l))), .inl a, .inl b, .inl c] σ = some (none, τ) ∧ x_fr (fun x _ => x = 3 + l) x_w0 σ τ ∧ y_cm τ (3 + l) a b c := by
  rw [r11, e11_0]
  simp only [↓x_kl3, hG, hl, x_Gsi]
  refine ⟨_, rfl, (((((((((x_fr.refl (fun x _ => x = 3 + l) x_w0 σ).si _ rfl).si _ rfl).si _ rfl).si _ rfl).si _ rfl).si _ rfl).si _ rfl).si _ rfl), ?_⟩
  unfold y_cm
  simp [x_Isi]
theorem m67_ok (d : Nat) {σ : xS} (hG : x_G σ) {n : Nat} (hn : n < 5) (h1 : x_I σ 1 1 = Int32.ofNat n) {a b c : Int32} (ok : y_ok3 a b c) : ∃ τ, x_run (d + 2) 67 [.inr (.inr (some 1)), .inl a, .inl b, .inl c] σ = some (some (.inl (Int32.ofNat n)), τ) ∧ x_fr (fun x u => (x = 1 ∧ u = 1) ∨ x = 3 + n) x_w0 σ τ ∧ x_I τ 1 1 = Int32.ofNat (n + 1) ∧ y_cm τ (3 + n) a b c := by
  have one : ¬ (1 : Int32) = 0 := by decide
  have lt : Int32.ofNat n < 5 := Int32.not_le.mp (fun h => absurd ((x_le (a := 5) (by omega) (by omega)).mp h) (by omega))
  obtain ⟨τ, e, f, g⟩ := m11 d (σ := x_si σ 1 1 (Int32.ofNat (n + 1))) hG hn a b c
  have q : x_I τ 1 1 = Int32.ofNat (n + 1) := by rw [f.I (by omega), x_Isi, if_pos ⟨rfl, rfl⟩]
  refine ⟨τ, ?_, ((x_fr.refl (fun x u => (x = 1 ∧ u = 1) ∨ x = 3 + n) x_w0 σ).si _ (Or.inl ⟨rfl, rfl⟩)).trans (f.mono (fun _ _ h => Or.inr h) (fun _ _ h => h)), q, g⟩
  have h65 := m65_in d (σ := x_si σ 1 1 (Int32.ofNat (n + 1))) hG (n := n + 1) (l := n) (by omega) (by omega) (by rw [x_Isi, if_pos ⟨rfl, rfl⟩])
  have hG' : x_G τ := f.G hG
  rw [r67, e67_0, m126, x_ci_s, x_b1_1 ok.1, if_neg one, m126, x_ci_s, x_b1_1 ok.2.1, if_neg one, m126, x_ci_s, x_b1_1 ok.2.2, if_neg one, x_k1 hG, h1, if_pos lt, x_k1 hG, x_k1 hG, x_s1]
  simp only [↓x_k1, hG, x_Gsi, x_I_same, x_p1]
  have h65' : x_run (d + 1) 65 [.inr (.inr (some 1)), .inl (Int32.ofNat n)] (x_si σ 1 1 (Int32.ofNat (n + 1))) = some (some (.inr (.inr (some (3 + n)))), x_si σ 1 1 (Int32.ofNat (n + 1))) := h65
  rw [h65', x_cr_s, x_nul_s, x_der_s, x_kl3 (σ := x_si σ 1 1 (Int32.ofNat (n + 1))) hG hn, e, x_cv_s, x_k1 hG', q, x_p1]
theorem m67_no (d : Nat) {σ : xS} (hG : x_G σ) {n : Nat} (hn : n ≤ 5) (h1 : x_I σ 1 1 = Int32.ofNat n) {a b c : Int32} (no : ¬ (y_ok3 a b c ∧ n < 5)) : x_run (d + 2) 67 [.inr (.inr (some 1)), .inl a, .inl b, .inl c] σ = some (some (.inl (if y_ok3 a b c then -4 else -2)), σ) := by
  have one : ¬ (1 : Int32) = 0 := by decide
  rw [r67, e67_0, m126, x_ci_s]
  by_cases c1 : 0 ≤ a ∧ a ≤ 59
  · rw [x_b1_1 c1, if_neg one, m126, x_ci_s]
    by_cases c2 : 0 ≤ b ∧ b ≤ 99999
    · rw [x_b1_1 c2, if_neg one, m126, x_ci_s]
      by_cases c3 : 0 ≤ c ∧ c ≤ 11
      · have h5 : n = 5 := by
          have : ¬ n < 5 := fun h => no ⟨⟨c1, c2, c3⟩, h⟩
          omega
        subst h5
        rw [x_b1_1 c3, if_neg one, x_k1 hG, h1, if_neg (by decide), if_pos ⟨c1, c2, c3⟩]
      · rw [x_b1_0 c3, if_pos rfl, if_neg (fun h : y_ok3 a b c => c3 h.2.2)]
    · rw [x_b1_0 c2, if_pos rfl, if_neg (fun h : y_ok3 a b c => c2 h.2.1)]
  · rw [x_b1_0 c1, if_pos rfl, if_neg (fun h : y_ok3 a b c => c1 h.1)]
def y_rm (σ : xS) (l : Nat) (a b c : Int32) : Prop := x_I σ 79 l = a / 10 ∧ x_I σ 80 l = a - a / 10 * 10 ∧ x_I σ 81 (6 * l) = b ∧ x_I σ 81 (6 * l + 1) = 10 ∧ x_I σ 81 (6 * l + 2) = 50 ∧ x_I σ 81 (6 * l + 3) = c ∧ x_I σ 81 (6 * l + 4) = -1 ∧ x_I σ 81 (6 * l + 5) = 0
def y_w6 (l b u : Nat) : Prop := (b = 78 ∧ u = 0) ∨ (b = 79 ∧ u = l) ∨ (b = 80 ∧ u = l) ∨ (b = 81 ∧ 6 * l ≤ u ∧ u < 6 * l + 6)
theorem m156_ok (d : Nat) {σ : xS} (hG : x_G σ) {n : Nat} (hn : n < 5) (h0 : x_I σ 78 0 = Int32.ofNat n) {a b c : Int32} (ok : y_ok3 a b c) : ∃ τ, x_run (d + 2) 156 [.inr (.inr (some 78)), .inl a, .inl b, .inl c] σ = some (some (.inl (Int32.ofNat n)), τ) ∧ x_fr (y_w6 n) x_w0 σ τ ∧ x_I τ 78 0 = Int32.ofNat (n + 1) ∧ y_rm τ n a b c := by
  have one : ¬ (1 : Int32) = 0 := by decide
  have ne : ¬ Int32.ofNat n = 5 := fun h => absurd (x_inj32 (b := 5) (by omega) (by omega) h) (by omega)
  have i79 : ∀ (σ : xS) (u w : Nat) (v : Int32), x_I (x_si σ 79 u v) 78 w = x_I σ 78 w := fun _ _ _ _ => rfl
  have i80 : ∀ (σ : xS) (u w : Nat) (v : Int32), x_I (x_si σ 80 u v) 78 w = x_I σ 78 w := fun _ _ _ _ => rfl
  have i81 : ∀ (σ : xS) (u w : Nat) (v : Int32), x_I (x_si σ 81 u v) 78 w = x_I σ 78 w := fun _ _ _ _ => rfl
  rw [r156, e156_0, m133, x_ci_s, x_b1_1 ok.1, if_neg one, m133, x_ci_s, x_b1_1 ok.2.1, if_neg one, m133, x_ci_s, x_b1_1 ok.2.2, if_neg one, x_k78 hG, h0, if_neg ne]
  simp only [↓x_k78, ↓x_k79, ↓x_k80, ↓x_k81, x_q78_1, x_q78_2, x_q78_3, hG, x_Gsi, x_Qsi, x_der_s, ↓x_der_s, i79, i80, i81, h0, x_i5, x_n5, hn, x_6i0, x_6i1, x_6i2, x_6i3, x_6i4, x_6i5, x_6n0, x_6n1, x_6n2, x_6n3, x_6n4, x_6n5, x_s1, x_I_same, x_p1]
  refine ⟨_, rfl, ?_, ?_, ?_⟩
  · refine (((((((((x_fr.refl (y_w6 n) x_w0 σ).si _ ?_).si _ ?_).si _ ?_).si _ ?_).si _ ?_).si _ ?_).si _ ?_).si _ ?_).si _ ?_ <;> (unfold y_w6; omega)
  · exact x_I_same _
  · unfold y_rm
    simp [x_Isi]
theorem m156_no (d : Nat) {σ : xS} (hG : x_G σ) {n : Nat} (hn : n ≤ 5) (h0 : x_I σ 78 0 = Int32.ofNat n) {a b c : Int32} (no : ¬ (y_ok3 a b c ∧ n < 5)) : x_run (d + 2) 156 [.inr (.inr (some 78)), .inl a, .inl b, .inl c] σ = some (some (.inl (if y_ok3 a b c then -4 else -2)), σ) := by
  have one : ¬ (1 : Int32) = 0 := by decide
  rw [r156, e156_0, m133, x_ci_s]
  by_cases c1 : 0 ≤ a ∧ a ≤ 59
  · rw [x_b1_1 c1, if_neg one, m133, x_ci_s]
    by_cases c2 : 0 ≤ b ∧ b ≤ 99999
    · rw [x_b1_1 c2, if_neg one, m133, x_ci_s]
      by_cases c3 : 0 ≤ c ∧ c ≤ 11
      · have h5 : n = 5 := by
          have : ¬ n < 5 := fun h => no ⟨⟨c1, c2, c3⟩, h⟩
          omega
        subst h5
        rw [x_b1_1 c3, if_neg one, x_k78 hG, h0, if_pos (by decide), if_pos ⟨c1, c2, c3⟩]
      · rw [x_b1_0 c3, if_pos rfl, if_neg (fun h : y_ok3 a b c => c3 h.2.2)]
    · rw [x_b1_0 c2, if_pos rfl, if_neg (fun h : y_ok3 a b c => c2 h.2.1)]
  · rw [x_b1_0 c1, if_pos rfl, if_neg (fun h : y_ok3 a b c => c1 h.1)]
set_option maxRecDepth 10000 in
theorem y_59 : ∀ k, k < 60 → (0 ≤ Int32.ofNat k / 10 ∧ Int32.ofNat k / 10 ≤ 5) ∧ (0 ≤ Int32.ofNat k - Int32.ofNat k / 10 * 10 ∧ Int32.ofNat k - Int32.ofNat k / 10 * 10 ≤ 9) := by decide +kernel
theorem y_bk_mono {n N k : Nat} {v : Int32} (hN : N < 100) (h : n ≤ N) (hk : k < 6) (g : x_bk n k v) : x_bk N k v := by
  match k, hk, g with
  | 0, _, g => exact (show x_bd v 0 99999 from g)
  | 1, _, g => exact (show x_bd v 0 999 from g)
  | 2, _, g => exact (show x_bd v 0 100 from g)
  | 3, _, g => exact (show x_bd v 0 11 from g)
  | 4, _, g =>
    have g : -1 ≤ v ∧ v < Int32.ofNat n := g
    exact (show -1 ≤ v ∧ v < Int32.ofNat N from ⟨g.1, Int32.not_le.mp (fun q => absurd g.2 (Int32.not_lt.mpr (Int32.le_trans ((x_le (by omega) (by omega)).mpr h) q)))⟩)
  | 5, _, g => exact (show x_bd v 0 99 from g)
/-- lives came: N now, with what each slot's last came -/
theorem y_Rp_liv {σ τ : xS} {n t z N : Nat} (hP : x_Rp n t z σ) (hN : N ≤ 5) (hnN : n ≤ N) (e : ∀ a u, ¬ (a = 1 ∧ u = 1) → ¬ (a = 78 ∧ u = 0) → ¬ (3 + n ≤ a ∧ a < 8) → ¬ (a = 79 ∧ n ≤ u) → ¬ (a = 80 ∧ n ≤ u) → ¬ (a = 81 ∧ 6 * n ≤ u) → x_I τ a u = x_I σ a u) (h1 : x_I τ 1 1 = Int32.ofNat N) (h0 : x_I τ 78 0 = Int32.ofNat N) (L : Nat → Int32 × Int32 × Int32) (hL : ∀ l, n ≤ l → l < N → y_ok3 (L l).1 (L l).2.1 (L l).2.2 ∧ y_cm τ (3 + l) (L l).1 (L l).2.1 (L l).2.2 ∧ y_rm τ l (L l).1 (L l).2.1 (L l).2.2) : x_Rp N t z τ := by
  obtain ⟨hn, ht, hz, ⟨l1, l2⟩, ⟨t1, t2⟩, ⟨z1, z2⟩, hnum, hli, hb, htx, him, hsh, hw⟩ := hP
  have e' : ∀ a u, (8 ≤ a ∧ a ≠ 78 ∧ a ≠ 79 ∧ a ≠ 80 ∧ a ≠ 81) ∨ (a < 3 ∧ ¬ (a = 1 ∧ u = 1)) ∨ (a = 78 ∧ u ≠ 0) → x_I τ a u = x_I σ a u := fun a u h => e a u (by omega) (by omega) (by omega) (by omega) (by omega) (by omega)
  refine ⟨hN, ht, hz, ⟨h0, h1⟩, ⟨by rw [e' 78 12 (by omega)]; exact t1, by rw [e' 0 7 (by omega)]; exact t2⟩, ⟨by rw [e' 78 9 (by omega)]; exact z1, by rw [e' 22 2 (by omega)]; exact z2⟩, ?_, fun l hl => ?_, fun k hk => ?_, fun k hk => ?_, ?_, fun s hs => ?_, fun q hq hq2 => ?_⟩
  · exact x_num.at (e' 1 2 (by omega)) (e' 1 3 (by omega)) (e' 1 4 (by omega)) (e' 1 5 (by omega)) (e' 1 6 (by omega)) (e' 78 4 (by omega)) (e' 78 5 (by omega)) (e' 78 6 (by omega)) (e' 78 7 (by omega)) (e' 78 13 (by omega)) hnum
  · by_cases c : l < n
    · obtain ⟨hr, hk⟩ := hli l c
      obtain ⟨r1, r2⟩ := x_row6_iff.mp hr
      refine ⟨x_row6_iff.mpr ⟨fun k hk => ?_, fun k hk => ?_⟩, ?_⟩
      · rw [e _ _ (by omega) (by omega) (by omega) (by omega) (by omega) (by omega), e _ _ (by omega) (by omega) (by omega) (by omega) (by omega) (by omega)]
        exact r1 k hk
      · rw [e _ _ (by omega) (by omega) (by omega) (by omega) (by omega) (by omega)]
        exact y_bk_mono (by omega) hnN hk (r2 k hk)
      · obtain ⟨⟨a1, a2⟩, ⟨b1, b2⟩⟩ := hk
        have E : ∀ a u, (a = 3 + l ∨ (a = 79 ∧ u = l) ∨ (a = 80 ∧ u = l)) → x_I τ a u = x_I σ a u := fun a u h => e a u (by omega) (by omega) (by omega) (by omega) (by omega) (by omega)
        exact ⟨⟨by rw [E _ _ (by omega), E 79 _ (by omega)]; exact a1, by rw [E 79 _ (by omega)]; exact a2⟩, ⟨by rw [E _ _ (by omega), E 80 _ (by omega)]; exact b1, by rw [E 80 _ (by omega)]; exact b2⟩⟩
    · obtain ⟨ok, ⟨c0, c1, c2, c3, c4, c5, c6, c7⟩, ⟨d0, d1, d2, d3, d4, d5, d6, d7⟩⟩ := hL l (by omega) hl
      obtain ⟨a, ha, ea⟩ := x_bd_of (n := 59) (by omega) ok.1 rfl
      have q := y_59 a (by omega)
      rw [← ea] at q
      refine ⟨x_row6_iff.mpr ⟨fun k hk => ?_, fun k hk => ?_⟩, ⟨c0.trans d0.symm, by rw [d0]; exact q.1⟩, ⟨c1.trans d1.symm, by rw [d1]; exact q.2⟩⟩
      · rcases (show k = 0 ∨ k = 1 ∨ k = 2 ∨ k = 3 ∨ k = 4 ∨ k = 5 by omega) with rfl | rfl | rfl | rfl | rfl | rfl
        · exact c2.trans d2.symm
        · exact c3.trans d3.symm
        · exact c4.trans d4.symm
        · exact c5.trans d5.symm
        · exact c6.trans d6.symm
        · exact c7.trans d7.symm
      · rcases (show k = 0 ∨ k = 1 ∨ k = 2 ∨ k = 3 ∨ k = 4 ∨ k = 5 by omega) with rfl | rfl | rfl | rfl | rfl | rfl
        · show x_bd (x_I τ 81 (6 * l)) 0 99999
          rw [d2]; exact ok.2.1
        · show x_bd (x_I τ 81 (6 * l + 1)) 0 999
          rw [d3]; unfold x_bd; decide
        · show x_bd (x_I τ 81 (6 * l + 2)) 0 100
          rw [d4]; unfold x_bd; decide
        · show x_bd (x_I τ 81 (6 * l + 3)) 0 11
          rw [d5]; exact ok.2.2
        · show -1 ≤ x_I τ 81 (6 * l + 4) ∧ x_I τ 81 (6 * l + 4) < Int32.ofNat N
          rw [d6]
          refine ⟨Int32.le_refl _, ?_⟩
          exact Int32.not_le.mp (fun g => x_nn0 (show N < 2 ^ 31 by omega) (Int32.not_le.mp (fun g2 => absurd (Int32.le_trans g2 g) (by decide))))
        · show x_bd (x_I τ 81 (6 * l + 5)) 0 99
          rw [d7]; unfold x_bd; decide
  · rw [e' 23 _ (by omega), e' 82 _ (by omega)]; exact hb k hk
  · have hc : 8 ≤ x_tc k := by
      rcases k with _ | k
      · exact Nat.le_of_ble_eq_true rfl
      · show 8 ≤ 45 + 5 * k
        omega
    have hd : x_tc k + 3 < 70 := by
      rcases (show k = 0 ∨ k = 1 ∨ k = 2 ∨ k = 3 ∨ k = 4 ∨ k = 5 by omega) with rfl | rfl | rfl | rfl | rfl | rfl <;> exact Nat.le_of_ble_eq_true rfl
    exact x_txt.at (fun u => e' 83 u (by omega)) (fun u => e' 84 u (by omega)) (fun u => e' _ u (by omega)) (fun u => e' _ u (by omega)) (htx k hk)
  · obtain ⟨k1, k2⟩ := x_img.at (τ := τ) hn (e' 0 3 (by omega)) (fun u _ _ => e' 78 u (by omega)) (fun u _ _ => e' 8 u (by omega)) (fun l hl u => e' _ u (by omega)) (fun u => e' 85 u (by omega)) (fun l hl => e 79 l (by omega) (by omega) (by omega) (by omega) (by omega) (by omega)) (fun l hl => e 80 l (by omega) (by omega) (by omega) (by omega) (by omega) (by omega)) him
    refine ⟨k1, k2.elim Or.inl (fun ⟨k2, i, hi, h⟩ => Or.inr ⟨k2, i, by omega, h⟩)⟩
  · exact x_she.at (fun u => e' _ u (by omega)) (fun u => e' _ u (by omega)) (e' 86 s (by omega)) (e' 87 s (by omega)) (fun k _ => e' 88 _ (by omega)) (hsh s hs)
  · rw [e' 90 _ (by omega)]; exact hw q hq hq2
theorem x_op_life (D : Nat) : ∀ (σ : xS) (as : List Int32), as.length = 3 → x_R σ → x_stp (D + 3) x_R false 82 156 as σ := by
  intro σ as hl hR
  match as, hl with
  | [a, b, c], _ =>
    obtain ⟨hG, n, t, z, hP⟩ := id hR
    obtain ⟨hn, ht, hz, ⟨l1, l2⟩, -⟩ := id hP
    by_cases ok : y_ok3 a b c ∧ n < 5
    · obtain ⟨σ1, a1, f1, p1, q1⟩ := m67_ok D hG ok.2 l2 ok.1
      have hG1 := f1.G hG
      obtain ⟨τ, a2, f2, p2, q2⟩ := m156_ok (D + 1) hG1 ok.2 ((f1.I (by omega)).trans l1) ok.1
      refine ⟨.inl (Int32.ofNat n), σ1, τ, ⟨_, rfl⟩, ?_, hG1.1, a2, f2.G hG1, n + 1, t, z, y_Rp_liv hP (N := n + 1) (by omega) (by omega) (fun x u h1 h2 h3 h4 h5 h6 => ?_) ?_ p2 (fun _ => (a, b, c)) (fun l g1 g2 => ?_)⟩
      · show x_run (D + 3) 82 [.inr (.inr (some 0)), .inl a, .inl b, .inl c] σ = _
        rw [r82, e82_0, x_k0 hG, x_q0_0 hG, x_der_s, x_k1 hG, a1, x_ci_s]
      · rw [f2.I (by unfold y_w6; omega), f1.I (by omega)]
      · rw [f2.I (by unfold y_w6; omega)]; exact p1
      · obtain rfl : l = n := by omega
        refine ⟨ok.1, ?_, q2⟩
        unfold y_cm at q1 ⊢
        have E : ∀ u, x_I τ (3 + l) u = x_I σ1 (3 + l) u := fun u => f2.I (by unfold y_w6; omega)
        simp only [E]
        exact q1
    · refine x_op_eq hR (.inl (if y_ok3 a b c then -4 else -2)) ⟨_, rfl⟩ ?_ (m156_no (D + 1) hG hn l1 ok)
      show x_run (D + 3) 82 [.inr (.inr (some 0)), .inl a, .inl b, .inl c] σ = _
      rw [r82, e82_0, x_k0 hG, x_q0_0 hG, x_der_s, x_k1 hG, m67_no _ hG hn l2 ok, x_ci_s]
