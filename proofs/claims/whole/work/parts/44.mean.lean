/-! mean, keeps, likely, fair (wip/whole/gen44.py) -/
def y_vt (_ _ : Nat) : Prop := True
theorem x_fr.vt {W V : Nat → Nat → Prop} {σ τ : xS} (f : x_fr W V σ τ) : x_fr W y_vt σ τ := f.mono (fun _ _ h => h) (fun _ _ _ => trivial)
/-- both reckon, one behind the other -/
theorem y_both (D : Nat) {σ : xS} {n t l r : Nat} {o : Nat → Nat} {p : Nat → List Int32} {y k m e s u : Int32} (hn : n ≤ 5) (ht : t ≤ 6) (hG : x_G σ) (hf : y_lf n t σ l r o p y k m e s u) {q : Nat} (hq : q ≤ 6) : ∃ σ1 σ2, x_run (D + 6) 27 [.inr (.inr (some 38)), .inr (.inr (some (3 + l))), .inr (.inr (some (x_tc r))), .inl y, .inl (Int32.ofNat q)] σ = some (none, σ1) ∧ x_fr x_wt y_vt σ σ1 ∧ y_jc σ1 (y_all p k m e s u y q) ∧ x_run (D + 6) 167 [.inr (.inr (some 78)), .inl (Int32.ofNat l), .inl (Int32.ofNat q)] σ1 = some (none, σ2) ∧ x_fr x_wt y_vt σ1 σ2 ∧ y_jr σ2 (y_all p k m e s u y q) ∧ x_G σ1 ∧ x_G σ2 ∧ y_lf n t σ1 l r o p y k m e s u ∧ x_I σ1 78 0 = Int32.ofNat n := by
  obtain ⟨hl, hr, hv, e13, e6, y1, y2, hcl, hrl, ⟨n7, n1, n0⟩, yb, kb, mb, eb, sb, ub⟩ := id hf
  obtain ⟨σ1, a1, f1, j1⟩ := m27 D hG (show r < 6 by omega) hv (x_kl (show l < 5 by omega)) hcl mb eb sb hq y
  have hG1 := f1.G hG
  have hf1 := hf.fr hn ht f1
  obtain ⟨-, -, hv1, e131, -, y11, -, -, hrl1, ⟨-, -, n01⟩, -⟩ := id hf1
  obtain ⟨σ2, a2, f2, j2⟩ := m167 (D + 1) hG1 (show r < 6 by omega) hv1 e131 (show l < 5 by omega) hrl1 y11 mb eb sb hq
  exact ⟨σ1, σ2, a1, f1.vt, j1, a2, f2.vt, j2, hG1, f2.G hG1, hf1, n01⟩
theorem m169 (d : Nat) {σ : xS} (hG : x_G σ) {n : Nat} (hn : n ≤ 5) {i1 i2 i3 : Int32} (h0 : x_I σ 78 0 = Int32.ofNat n) : x_run (d + 3) 169 [.inr (.inr (some 78)), .inl i1, .inl i2, .inl i3] σ = some (some (.inl (x_b1 ((∃ l, l < n ∧ i1 = Int32.ofNat l) ∧ (0 ≤ i2 ∧ i2 ≤ 6) ∧ (0 ≤ i3 ∧ i3 ≤ 1)))), σ) := by
  have one : ¬ (1 : Int32) = 0 := by decide
  rw [r169, e169_0, x_k78 hG]
  rcases x_split hn i1 with ⟨l, hl, rfl⟩ | ho
  · rw [m135_in _ hG hn hl h0, x_ci_s, if_neg one, m133, x_ci_s]
    by_cases c2 : 0 ≤ i2 ∧ i2 ≤ 6
    · rw [x_b1_1 c2, if_neg one, m133, x_ci_s]
      by_cases c3 : 0 ≤ i3 ∧ i3 ≤ 1
      · rw [x_b1_1 c3, if_neg one, x_b1_1 (c := (∃ l_1, l_1 < n ∧ Int32.ofNat l = Int32.ofNat l_1) ∧ (0 ≤ i2 ∧ i2 ≤ 6) ∧ (0 ≤ i3 ∧ i3 ≤ 1)) ⟨⟨l, hl, rfl⟩, c2, c3⟩]
      · rw [x_b1_0 c3, if_pos rfl, x_b1_0 (c := (∃ l_1, l_1 < n ∧ Int32.ofNat l = Int32.ofNat l_1) ∧ (0 ≤ i2 ∧ i2 ≤ 6) ∧ (0 ≤ i3 ∧ i3 ≤ 1)) (fun h => c3 h.2.2)]
    · rw [x_b1_0 c2, if_pos rfl, x_b1_0 (c := (∃ l_1, l_1 < n ∧ Int32.ofNat l = Int32.ofNat l_1) ∧ (0 ≤ i2 ∧ i2 ≤ 6) ∧ (0 ≤ i3 ∧ i3 ≤ 1)) (fun h => c2 h.2.1)]
  · rw [m135_out _ hG hn ho h0, x_ci_s, if_pos rfl, x_b1_0]
    rintro ⟨⟨l, hl, rfl⟩, -⟩
    rcases ho with ho | ho
    · exact x_nn0 (by omega) ho
    · exact absurd ((x_le (by omega) (by omega)).mp ho) (by omega)
theorem x_op_mean (D : Nat) : ∀ (σ : xS) (as : List Int32), as.length = 3 → x_R σ → x_stp (D + 7) x_R true 87 170 as σ := by
  intro σ as hl hR
  match as, hl with
  | [i1, i2, i3], _ =>
    obtain ⟨hG, n, t, z, hP⟩ := id hR
    obtain ⟨hn, ht, hz, ⟨l1, l2⟩, ⟨t1, t2⟩, -⟩ := id hP
    have one : ¬ (1 : Int32) = 0 := by decide
    have fin : x_run (D + 7) 87 [.inr (.inr (some 0)), .inl i1, .inl i2, .inl i3] σ = some (some (.inr (.inl (-4611686018427387904))), σ) → x_run (D + 7) 170 [.inr (.inr (some 78)), .inl i1, .inl i2, .inl i3] σ = some (some (.inr (.inl (-4611686018427387904))), σ) → x_stp (D + 7) x_R true 87 170 [i1, i2, i3] σ := fun e1 e2 => x_op_eq hR (.inr (.inl _)) ⟨_, rfl⟩ e1 e2
    have h169 := m169 (D + 3) (σ := σ) hG hn (i1 := i1) (i2 := i2) (i3 := i3) l1
    rcases x_split hn i1 with ⟨l, hl, rfl⟩ | ho
    · by_cases c2 : 0 ≤ i2 ∧ i2 ≤ 6
      · by_cases c4 : 0 ≤ i3 ∧ i3 ≤ 1
        · obtain ⟨q2, hq2, rfl⟩ := x_bd_of (n := 6) (by omega) c2 rfl
          obtain ⟨q, hq, rfl⟩ := y_part c4
          obtain ⟨r, o, p, y, k, m, e, s, u, hf⟩ := y_lf_of hP hl
          obtain ⟨σ1, σ2, a1, f1, j1, a2, f2, j2, hG1, hG2, hf1, n01⟩ := y_both D hn ht.2 hG hf hq2
          obtain ⟨-, hr, hv, e13, e6, y1, y2, hcl, hrl, ⟨n7, n1, n0⟩, yb, kb, mb, eb, sb, ub⟩ := id hf
          obtain ⟨b0, b1, b2, b3, b4⟩ := y_all_b p (k := k) (m := m) (u := u) (y := y) eb sb q2
          obtain ⟨g1, g2, g3, g4⟩ := y_T6 hq2
          obtain ⟨v, v1, v2⟩ := x_low (D + 5) (D + 5) (a := (y_all p k m e s u y q2).2.2.1) (b := (y_all p k m e s u y q2).2.1) (q := q) (by have := b2; omega) (by rw [b1]; omega) (by rw [b1]; exact g4) hq
          refine x_op_fr hR (.inr (.inl v)) ⟨_, rfl⟩ x_wt_per ?_ f1 ?_ f2
          · show x_run (D + 7) 87 [.inr (.inr (some 0)), .inl (Int32.ofNat l), .inl (Int32.ofNat q2), .inl (Int32.ofNat q)] σ = _
            rw [r87, e87_0, x_k0 hG, x_q0_0 hG, x_der_s, x_k1 hG, m65_in _ hG hn hl l2, x_cr_s, x_nul_s, m126, x_ci_s, x_b1_1 c2, if_neg one, m126, x_ci_s, x_b1_1 c4, if_neg one]
            simp only [↓x_k0, ↓x_k1, ↓x_k38, hG, hG1, x_q0_0, x_q0_11, m120 _ hG ht.2 hr t2 e6, x_cr_s, x_der_s, ↓x_der_s, y2, a1, x_cv_s, j1.2.2.1, j1.2.1, v1, x_cl_s]
          · show x_run (D + 7) 170 [.inr (.inr (some 78)), .inl (Int32.ofNat l), .inl (Int32.ofNat q2), .inl (Int32.ofNat q)] σ1 = _
            rw [r170, e170_0, x_k78 hG1, m169 (D + 3) hG1 hn n01, x_ci_s, x_b1_1 (c := (∃ l_1, l_1 < n ∧ Int32.ofNat l = Int32.ofNat l_1) ∧ (0 ≤ Int32.ofNat q2 ∧ Int32.ofNat q2 ≤ 6) ∧ (0 ≤ Int32.ofNat q ∧ Int32.ofNat q ≤ 1)) ⟨⟨l, hl, rfl⟩, c2, c4⟩, if_neg one]
            simp only [↓x_k78, hG1, hG2, a2, x_cv_s, j2.2.2.1, j2.2.1, v2, x_cl_s]
        · refine fin ?_ ?_
          · rw [r87, e87_0, x_k0 hG, x_q0_0 hG, x_der_s, x_k1 hG, m65_in _ hG hn hl l2, x_cr_s, x_nul_s, m126, x_ci_s, x_b1_1 c2, if_neg one, m126, x_ci_s, x_b1_0 c4, if_pos rfl]
          · rw [r170, e170_0, x_k78 hG, h169, x_ci_s, x_b1_0 (show ¬ ((∃ l_1, l_1 < n ∧ Int32.ofNat l = Int32.ofNat l_1) ∧ (0 ≤ i2 ∧ i2 ≤ 6) ∧ (0 ≤ i3 ∧ i3 ≤ 1)) from fun h => c4 h.2.2), if_pos rfl]
      · refine fin ?_ ?_
        · rw [r87, e87_0, x_k0 hG, x_q0_0 hG, x_der_s, x_k1 hG, m65_in _ hG hn hl l2, x_cr_s, x_nul_s, m126, x_ci_s, x_b1_0 c2, if_pos rfl]
        · rw [r170, e170_0, x_k78 hG, h169, x_ci_s, x_b1_0 (show ¬ ((∃ l_1, l_1 < n ∧ Int32.ofNat l = Int32.ofNat l_1) ∧ (0 ≤ i2 ∧ i2 ≤ 6) ∧ (0 ≤ i3 ∧ i3 ≤ 1)) from fun h => c2 h.2.1), if_pos rfl]
    · refine fin ?_ ?_
      · rw [r87, e87_0, x_k0 hG, x_q0_0 hG, x_der_s, x_k1 hG, m65_out _ hG ho l2, x_cr_s, x_nul_n]
      · have hno : ¬ ((∃ l_1, l_1 < n ∧ i1 = Int32.ofNat l_1) ∧ (0 ≤ i2 ∧ i2 ≤ 6) ∧ (0 ≤ i3 ∧ i3 ≤ 1)) := by
          rintro ⟨⟨l, hl, rfl⟩, -⟩
          rcases ho with ho | ho
          · exact x_nn0 (by omega) ho
          · exact absurd ((x_le (by omega) (by omega)).mp ho) (by omega)
        rw [r170, e170_0, x_k78 hG, h169, x_ci_s, x_b1_0 hno, if_pos rfl]
theorem x_op_keeps (D : Nat) : ∀ (σ : xS) (as : List Int32), as.length = 3 → x_R σ → x_stp (D + 7) x_R true 88 171 as σ := by
  intro σ as hl hR
  match as, hl with
  | [i1, i2, i3], _ =>
    obtain ⟨hG, n, t, z, hP⟩ := id hR
    obtain ⟨hn, ht, hz, ⟨l1, l2⟩, ⟨t1, t2⟩, -⟩ := id hP
    have one : ¬ (1 : Int32) = 0 := by decide
    have fin : x_run (D + 7) 88 [.inr (.inr (some 0)), .inl i1, .inl i2, .inl i3] σ = some (some (.inr (.inl (-4611686018427387904))), σ) → x_run (D + 7) 171 [.inr (.inr (some 78)), .inl i1, .inl i2, .inl i3] σ = some (some (.inr (.inl (-4611686018427387904))), σ) → x_stp (D + 7) x_R true 88 171 [i1, i2, i3] σ := fun e1 e2 => x_op_eq hR (.inr (.inl _)) ⟨_, rfl⟩ e1 e2
    have h169 := m169 (D + 3) (σ := σ) hG hn (i1 := i1) (i2 := i2) (i3 := i3) l1
    rcases x_split hn i1 with ⟨l, hl, rfl⟩ | ho
    · by_cases c2 : 0 ≤ i2 ∧ i2 ≤ 6
      · by_cases c4 : 0 ≤ i3 ∧ i3 ≤ 1
        · obtain ⟨q2, hq2, rfl⟩ := x_bd_of (n := 6) (by omega) c2 rfl
          obtain ⟨q, hq, rfl⟩ := y_part c4
          obtain ⟨r, o, p, y, k, m, e, s, u, hf⟩ := y_lf_of hP hl
          obtain ⟨σ1, σ2, a1, f1, j1, a2, f2, j2, hG1, hG2, hf1, n01⟩ := y_both D hn ht.2 hG hf hq2
          obtain ⟨-, hr, hv, e13, e6, y1, y2, hcl, hrl, ⟨n7, n1, n0⟩, yb, kb, mb, eb, sb, ub⟩ := id hf
          obtain ⟨b0, b1, b2, b3, b4⟩ := y_all_b p (k := k) (m := m) (u := u) (y := y) eb sb q2
          obtain ⟨g1, g2, g3, g4⟩ := y_T6 hq2
          obtain ⟨v, v1, v2⟩ := x_low (D + 5) (D + 5) (a := (y_all p k m e s u y q2).2.2.2.1) (b := (y_all p k m e s u y q2).2.1) (q := q) (by have := b3; omega) (by rw [b1]; omega) (by rw [b1]; exact g4) hq
          refine x_op_fr hR (.inr (.inl v)) ⟨_, rfl⟩ x_wt_per ?_ f1 ?_ f2
          · show x_run (D + 7) 88 [.inr (.inr (some 0)), .inl (Int32.ofNat l), .inl (Int32.ofNat q2), .inl (Int32.ofNat q)] σ = _
            rw [r88, e88_0, x_k0 hG, x_q0_0 hG, x_der_s, x_k1 hG, m65_in _ hG hn hl l2, x_cr_s, x_nul_s, m126, x_ci_s, x_b1_1 c2, if_neg one, m126, x_ci_s, x_b1_1 c4, if_neg one]
            simp only [↓x_k0, ↓x_k1, ↓x_k38, hG, hG1, x_q0_0, x_q0_11, m120 _ hG ht.2 hr t2 e6, x_cr_s, x_der_s, ↓x_der_s, y2, a1, x_cv_s, j1.2.2.2.1, j1.2.1, v1, x_cl_s]
          · show x_run (D + 7) 171 [.inr (.inr (some 78)), .inl (Int32.ofNat l), .inl (Int32.ofNat q2), .inl (Int32.ofNat q)] σ1 = _
            rw [r171, e171_0, x_k78 hG1, m169 (D + 3) hG1 hn n01, x_ci_s, x_b1_1 (c := (∃ l_1, l_1 < n ∧ Int32.ofNat l = Int32.ofNat l_1) ∧ (0 ≤ Int32.ofNat q2 ∧ Int32.ofNat q2 ≤ 6) ∧ (0 ≤ Int32.ofNat q ∧ Int32.ofNat q ≤ 1)) ⟨⟨l, hl, rfl⟩, c2, c4⟩, if_neg one]
            simp only [↓x_k78, hG1, hG2, a2, x_cv_s, j2.2.2.2.1, j2.2.1, v2, x_cl_s]
        · refine fin ?_ ?_
          · rw [r88, e88_0, x_k0 hG, x_q0_0 hG, x_der_s, x_k1 hG, m65_in _ hG hn hl l2, x_cr_s, x_nul_s, m126, x_ci_s, x_b1_1 c2, if_neg one, m126, x_ci_s, x_b1_0 c4, if_pos rfl]
          · rw [r171, e171_0, x_k78 hG, h169, x_ci_s, x_b1_0 (show ¬ ((∃ l_1, l_1 < n ∧ Int32.ofNat l = Int32.ofNat l_1) ∧ (0 ≤ i2 ∧ i2 ≤ 6) ∧ (0 ≤ i3 ∧ i3 ≤ 1)) from fun h => c4 h.2.2), if_pos rfl]
      · refine fin ?_ ?_
        · rw [r88, e88_0, x_k0 hG, x_q0_0 hG, x_der_s, x_k1 hG, m65_in _ hG hn hl l2, x_cr_s, x_nul_s, m126, x_ci_s, x_b1_0 c2, if_pos rfl]
        · rw [r171, e171_0, x_k78 hG, h169, x_ci_s, x_b1_0 (show ¬ ((∃ l_1, l_1 < n ∧ Int32.ofNat l = Int32.ofNat l_1) ∧ (0 ≤ i2 ∧ i2 ≤ 6) ∧ (0 ≤ i3 ∧ i3 ≤ 1)) from fun h => c2 h.2.1), if_pos rfl]
    · refine fin ?_ ?_
      · rw [r88, e88_0, x_k0 hG, x_q0_0 hG, x_der_s, x_k1 hG, m65_out _ hG ho l2, x_cr_s, x_nul_n]
      · have hno : ¬ ((∃ l_1, l_1 < n ∧ i1 = Int32.ofNat l_1) ∧ (0 ≤ i2 ∧ i2 ≤ 6) ∧ (0 ≤ i3 ∧ i3 ≤ 1)) := by
          rintro ⟨⟨l, hl, rfl⟩, -⟩
          rcases ho with ho | ho
          · exact x_nn0 (by omega) ho
          · exact absurd ((x_le (by omega) (by omega)).mp ho) (by omega)
        rw [r171, e171_0, x_k78 hG, h169, x_ci_s, x_b1_0 hno, if_pos rfl]
theorem x_op_likely (D : Nat) : ∀ (σ : xS) (as : List Int32), as.length = 4 → x_R σ → x_stp (D + 7) x_R true 89 172 as σ := by
  intro σ as hl hR
  match as, hl with
  | [i1, i2, i3, i4], _ =>
    obtain ⟨hG, n, t, z, hP⟩ := id hR
    obtain ⟨hn, ht, hz, ⟨l1, l2⟩, ⟨t1, t2⟩, -⟩ := id hP
    have one : ¬ (1 : Int32) = 0 := by decide
    have fin : x_run (D + 7) 89 [.inr (.inr (some 0)), .inl i1, .inl i2, .inl i3, .inl i4] σ = some (some (.inr (.inl (-4611686018427387904))), σ) → x_run (D + 7) 172 [.inr (.inr (some 78)), .inl i1, .inl i2, .inl i3, .inl i4] σ = some (some (.inr (.inl (-4611686018427387904))), σ) → x_stp (D + 7) x_R true 89 172 [i1, i2, i3, i4] σ := fun e1 e2 => x_op_eq hR (.inr (.inl _)) ⟨_, rfl⟩ e1 e2
    have h169 := m169 (D + 3) (σ := σ) hG hn (i1 := i1) (i2 := i2) (i3 := i4) l1
    rcases x_split hn i1 with ⟨l, hl, rfl⟩ | ho
    · by_cases c2 : 0 ≤ i2 ∧ i2 ≤ 6
      · by_cases c3 : 0 ≤ i3 ∧ i3 ≤ 6
        · by_cases c4 : 0 ≤ i4 ∧ i4 ≤ 1
          · obtain ⟨q2, hq2, rfl⟩ := x_bd_of (n := 6) (by omega) c2 rfl
            obtain ⟨q3, hq3, rfl⟩ := x_bd_of (n := 6) (by omega) c3 rfl
            obtain ⟨q, hq, rfl⟩ := y_part c4
            obtain ⟨r, o, p, y, k, m, e, s, u, hf⟩ := y_lf_of hP hl
            obtain ⟨σ1, σ2, a1, f1, j1, a2, f2, j2, hG1, hG2, hf1, n01⟩ := y_both D hn ht.2 hG hf hq2
            obtain ⟨-, hr, hv, e13, e6, y1, y2, hcl, hrl, ⟨n7, n1, n0⟩, yb, kb, mb, eb, sb, ub⟩ := id hf
            obtain ⟨b0, b1, b2, b3, b4⟩ := y_all_b p (k := k) (m := m) (u := u) (y := y) eb sb q2
            obtain ⟨g1, g2, g3, g4⟩ := y_T6 hq2
            obtain ⟨v, v1, v2⟩ := x_low (D + 5) (D + 5) (a := (y_all p k m e s u y q2).1 q3) (b := (y_all p k m e s u y q2).2.1) (q := q) (by have := (b0 q3); omega) (by rw [b1]; omega) (by rw [b1]; exact g4) hq
            refine x_op_fr hR (.inr (.inl v)) ⟨_, rfl⟩ x_wt_per ?_ f1 ?_ f2
            · show x_run (D + 7) 89 [.inr (.inr (some 0)), .inl (Int32.ofNat l), .inl (Int32.ofNat q2), .inl (Int32.ofNat q3), .inl (Int32.ofNat q)] σ = _
              rw [r89, e89_0, x_k0 hG, x_q0_0 hG, x_der_s, x_k1 hG, m65_in _ hG hn hl l2, x_cr_s, x_nul_s, m126, x_ci_s, x_b1_1 c2, if_neg one, m126, x_ci_s, x_b1_1 c3, if_neg one, m126, x_ci_s, x_b1_1 c4, if_neg one]
              have m26 : x_run (D + 6) 26 [.inr (.inr (some 38)), .inl (Int32.ofNat q3)] σ1 = some (some (.inr (.inl (x_J σ1 39 q3))), σ1) := by
                rw [r26, e26_0, if_neg (x_nn0 (by omega)), x_k38 hG1, x_q38_0 hG1, x_der_s, x_m39 hG1, if_neg (fun h => absurd ((x_le (by omega) (by omega)).mp h) (by omega)), x_k38 hG1, x_der_s, x_k39 hG1, y_i7 (by omega), x_tn (by omega)]
              simp only [↓x_k0, ↓x_k1, ↓x_k38, hG, hG1, x_q0_0, x_q0_11, m120 _ hG ht.2 hr t2 e6, x_cr_s, x_der_s, ↓x_der_s, y2, a1, x_cv_s, m26, x_cl_s, j1.1 q3 (by omega), j1.2.1, v1]
            · show x_run (D + 7) 172 [.inr (.inr (some 78)), .inl (Int32.ofNat l), .inl (Int32.ofNat q2), .inl (Int32.ofNat q3), .inl (Int32.ofNat q)] σ1 = _
              rw [r172, e172_0, x_k78 hG1, m169 (D + 3) hG1 hn n01, x_ci_s, x_b1_1 (c := (∃ l_1, l_1 < n ∧ Int32.ofNat l = Int32.ofNat l_1) ∧ (0 ≤ Int32.ofNat q2 ∧ Int32.ofNat q2 ≤ 6) ∧ (0 ≤ Int32.ofNat q ∧ Int32.ofNat q ≤ 1)) ⟨⟨l, hl, rfl⟩, c2, c4⟩, if_neg one, m133, x_ci_s, x_b1_1 c3, if_neg one]
              simp only [↓x_k78, ↓x_k94, hG1, hG2, x_q78_37, a2, x_cv_s, x_der_s, ↓x_der_s, y_i8 (show q3 < 8 by omega), y_n8 (show q3 < 8 by omega), j2.1 q3 (by omega), j2.2.1, v2, x_cl_s]
          · refine fin ?_ ?_
            · rw [r89, e89_0, x_k0 hG, x_q0_0 hG, x_der_s, x_k1 hG, m65_in _ hG hn hl l2, x_cr_s, x_nul_s, m126, x_ci_s, x_b1_1 c2, if_neg one, m126, x_ci_s, x_b1_1 c3, if_neg one, m126, x_ci_s, x_b1_0 c4, if_pos rfl]
            · rw [r172, e172_0, x_k78 hG, h169, x_ci_s, x_b1_0 (show ¬ ((∃ l_1, l_1 < n ∧ Int32.ofNat l = Int32.ofNat l_1) ∧ (0 ≤ i2 ∧ i2 ≤ 6) ∧ (0 ≤ i4 ∧ i4 ≤ 1)) from fun h => c4 h.2.2), if_pos rfl]
        · refine fin ?_ ?_
          · rw [r89, e89_0, x_k0 hG, x_q0_0 hG, x_der_s, x_k1 hG, m65_in _ hG hn hl l2, x_cr_s, x_nul_s, m126, x_ci_s, x_b1_1 c2, if_neg one, m126, x_ci_s, x_b1_0 c3, if_pos rfl]
          · rw [r172, e172_0, x_k78 hG, h169, x_ci_s]
            by_cases h : (∃ l_1, l_1 < n ∧ Int32.ofNat l = Int32.ofNat l_1) ∧ (0 ≤ i2 ∧ i2 ≤ 6) ∧ (0 ≤ i4 ∧ i4 ≤ 1)
            · rw [x_b1_1 h, if_neg one, m133, x_ci_s, x_b1_0 c3, if_pos rfl]
            · rw [x_b1_0 h, if_pos rfl]
      · refine fin ?_ ?_
        · rw [r89, e89_0, x_k0 hG, x_q0_0 hG, x_der_s, x_k1 hG, m65_in _ hG hn hl l2, x_cr_s, x_nul_s, m126, x_ci_s, x_b1_0 c2, if_pos rfl]
        · rw [r172, e172_0, x_k78 hG, h169, x_ci_s, x_b1_0 (show ¬ ((∃ l_1, l_1 < n ∧ Int32.ofNat l = Int32.ofNat l_1) ∧ (0 ≤ i2 ∧ i2 ≤ 6) ∧ (0 ≤ i4 ∧ i4 ≤ 1)) from fun h => c2 h.2.1), if_pos rfl]
    · refine fin ?_ ?_
      · rw [r89, e89_0, x_k0 hG, x_q0_0 hG, x_der_s, x_k1 hG, m65_out _ hG ho l2, x_cr_s, x_nul_n]
      · have hno : ¬ ((∃ l_1, l_1 < n ∧ i1 = Int32.ofNat l_1) ∧ (0 ≤ i2 ∧ i2 ≤ 6) ∧ (0 ≤ i4 ∧ i4 ≤ 1)) := by
          rintro ⟨⟨l, hl, rfl⟩, -⟩
          rcases ho with ho | ho
          · exact x_nn0 (by omega) ho
          · exact absurd ((x_le (by omega) (by omega)).mp ho) (by omega)
        rw [r172, e172_0, x_k78 hG, h169, x_ci_s, x_b1_0 hno, if_pos rfl]
theorem x_op_fair (D : Nat) : ∀ (σ : xS) (as : List Int32), as.length = 2 → x_R σ → x_stp (D + 7) x_R true 90 173 as σ := by
  intro σ as hl hR
  match as, hl with
  | [i1, i2], _ =>
    obtain ⟨hG, n, t, z, hP⟩ := id hR
    obtain ⟨hn, ht, hz, ⟨l1, l2⟩, ⟨t1, t2⟩, -⟩ := id hP
    have one : ¬ (1 : Int32) = 0 := by decide
    have fin : x_run (D + 7) 90 [.inr (.inr (some 0)), .inl i1, .inl i2] σ = some (some (.inr (.inl (-4611686018427387904))), σ) → x_run (D + 7) 173 [.inr (.inr (some 78)), .inl i1, .inl i2] σ = some (some (.inr (.inl (-4611686018427387904))), σ) → x_stp (D + 7) x_R true 90 173 [i1, i2] σ := fun e1 e2 => x_op_eq hR (.inr (.inl _)) ⟨_, rfl⟩ e1 e2
    rcases x_split hn i1 with ⟨l, hl, rfl⟩ | ho
    · by_cases c2 : 1 ≤ i2 ∧ i2 ≤ 6
      · obtain ⟨q2, hq2, rfl⟩ := x_bd_of (n := 6) (by omega) ⟨Int32.le_trans (by decide) c2.1, c2.2⟩ rfl
        have hq1 : 1 ≤ q2 := (x_le (a := 1) (by omega) (by omega)).mp c2.1
        obtain ⟨r, o, p, y, k, m, e, s, u, hf⟩ := y_lf_of hP hl
        obtain ⟨σ1, σ2, a1, f1, j1, a2, f2, j2, hG1, hG2, hf1, n01⟩ := y_both D hn ht.2 hG hf hq2
        obtain ⟨-, hr, hv, e13, e6, y1, y2, hcl, hrl, ⟨n7, n1, n0⟩, yb, kb, mb, eb, sb, ub⟩ := id hf
        obtain ⟨b0, b1, b2, b3, b4⟩ := y_all_b p (k := k) (m := m) (u := u) (y := y) eb sb q2
        obtain ⟨g1, g2, g3, g4⟩ := y_T6 hq2
        have w0 : 0 < 100 ^ q2 * q2 := Nat.mul_pos g4 hq1
        have w1 : 100 ^ q2 * q2 ≤ 1000000000000 * 6 := Nat.mul_le_mul g3 hq2
        have z1 : ¬ Int64.ofNat (100 ^ q2 * q2) = 0 := fun h => absurd ((x_z64 (by omega)).mp h) (by omega)
        have z2 : ¬ lg_cmp (Int64.ofNat (100 ^ q2 * q2)) 0 ≤ 0 := x_lgp ((x_le64 (a := 0) (by omega) (by omega)).mpr w0)
        refine x_op_fr hR (.inr (.inl (((Int64.ofNat (y_all p k m e s u y q2).2.2.1 + Int64.ofNat (100 ^ q2 * q2)) - 1) / Int64.ofNat (100 ^ q2 * q2)))) ⟨_, rfl⟩ x_wt_per ?_ f1 ?_ f2
        · show x_run (D + 7) 90 [.inr (.inr (some 0)), .inl (Int32.ofNat l), .inl (Int32.ofNat q2)] σ = _
          rw [r90, e90_0, x_k0 hG, x_q0_0 hG, x_der_s, x_k1 hG, m65_in _ hG hn hl l2, x_cr_s, x_nul_s, m126, x_ci_s, x_b1_1 c2, if_neg one]
          simp only [↓x_k0, ↓x_k1, ↓x_k38, hG, hG1, x_q0_0, x_q0_11, m120 _ hG ht.2 hr t2 e6, x_cr_s, x_der_s, ↓x_der_s, y2, a1, x_cv_s, j1.2.1, j1.2.2.1, x_to64 (show q2 < 2 ^ 31 by omega), ← Int64.ofNat_mul, b1, z1, z2, if_false]
        · show x_run (D + 7) 173 [.inr (.inr (some 78)), .inl (Int32.ofNat l), .inl (Int32.ofNat q2)] σ1 = _
          rw [r173, e173_0, x_k78 hG1, m135_in _ hG1 hn hl n01, x_ci_s, if_neg one, m133, x_ci_s, x_b1_1 c2, if_neg one]
          simp only [↓x_k78, hG1, hG2, a2, x_cv_s, j2.2.1, j2.2.2.1, x_to64 (show q2 < 2 ^ 31 by omega), ← Int64.ofNat_mul, b1, z1, if_false]
      · refine fin ?_ ?_
        · rw [r90, e90_0, x_k0 hG, x_q0_0 hG, x_der_s, x_k1 hG, m65_in _ hG hn hl l2, x_cr_s, x_nul_s, m126, x_ci_s, x_b1_0 c2, if_pos rfl]
        · rw [r173, e173_0, x_k78 hG, m135_in _ hG hn hl l1, x_ci_s, if_neg one, m133, x_ci_s, x_b1_0 c2, if_pos rfl]
    · refine fin ?_ ?_
      · rw [r90, e90_0, x_k0 hG, x_q0_0 hG, x_der_s, x_k1 hG, m65_out _ hG ho l2, x_cr_s, x_nul_n]
      · rw [r173, e173_0, x_k78 hG, m135_out _ hG hn ho l1, x_ci_s, if_pos rfl]
