/-! round and office -/
theorem y_hrs {σ : xS} {n t z : Nat} (hP : x_Rp n t z σ) : ∃ H, (∀ l, l < n → H l < 12) ∧ y_hr n H σ := by
  obtain ⟨hn, ht, hz, -, -, -, -, hli, -⟩ := id hP
  have key : ∀ l, l < n → x_I σ 81 (6 * l + 3) = Int32.ofNat (x_I σ 81 (6 * l + 3)).toNatClampNeg ∧ (x_I σ 81 (6 * l + 3)).toNatClampNeg < 12 := by
    intro l hl
    obtain ⟨⟨-, -, -, -, b3, -⟩, -⟩ := hli l hl
    obtain ⟨a, ha, ea⟩ := x_bd_of (n := 11) (by omega) b3 rfl
    rw [ea, x_tn (by omega)]
    exact ⟨rfl, by omega⟩
  refine ⟨fun l => (x_I σ 81 (6 * l + 3)).toNatClampNeg, fun l hl => (key l hl).2, fun l hl => ⟨?_, (key l hl).1⟩⟩
  obtain ⟨⟨h6, -⟩, -⟩ := hli l hl
  exact (h6 3 (by omega)).trans (key l hl).1
theorem x_op_round (D : Nat) : ∀ (σ : xS) (as : List Int32), as.length = 3 → x_R σ → x_stp (D + 8) x_R false 96 186 as σ := by
  intro σ as hl hR
  match as, hl with
  | [i1, i2, i3], _ =>
    obtain ⟨hG, n, t, z, hP⟩ := id hR
    obtain ⟨hn, ht, hz, ⟨l1, l2⟩, ⟨t1, t2⟩, -⟩ := id hP
    have one : ¬ (1 : Int32) = 0 := by decide
    have fin : ∀ w : Int32, x_run (D + 8) 96 [.inr (.inr (some 0)), .inl i1, .inl i2, .inl i3] σ = some (some (.inl w), σ) → x_run (D + 8) 186 [.inr (.inr (some 78)), .inl i1, .inl i2, .inl i3] σ = some (some (.inl w), σ) → x_stp (D + 8) x_R false 96 186 [i1, i2, i3] σ := fun w e1 e2 => x_op_eq hR (.inl w) ⟨w, rfl⟩ e1 e2
    by_cases c1 : 0 ≤ i1 ∧ i1 ≤ 11
    · by_cases c2 : 0 ≤ i2 ∧ i2 ≤ 1
      · by_cases c3 : 0 ≤ i3 ∧ i3 ≤ 1
        · obtain ⟨s, hs, rfl⟩ := x_bd_of (n := 11) (by omega) c1 rfl
          obtain ⟨r, o, p, K, M, E, S, W, U, hr, wu, fx, ca, ra⟩ := y_car hG hP
          obtain ⟨H, hH, hh⟩ := y_hrs hP
          have e6 := ca.2.2.2.1
          obtain ⟨σ1, a1, f1, p4, p5⟩ := m1 (D + 2) n r t o p K M E S (x_I σ 78 4) (x_I σ 78 6) W U hn (by omega) fx hH (s := s) (by omega) i2 ca hh
          have ra1 := ra.wo n r t o p K M E S (x_I σ 78 4) (x_I σ 78 6) W U (by omega) f1
          obtain ⟨τ, a2, f2, p3⟩ := m185 D n r t o p K M E S (x_I σ 78 4) (x_I σ 78 6) W U hn (by omega) fx hH (s := s) (by omega) i2 ra1 (hh.wo hn f1)
          have hG1 := f1.G hG
          have hG2 := f2.G hG1
          generalize y_br H (y_TT p K M E S (x_I σ 78 4) U i2) n s i2 = B at *
          refine x_op_fr hR (.inl (if i3 = 0 then Int32.ofNat B.1 else Int32.ofNat B.2)) ⟨_, rfl⟩ y_wo_per ?_ f1 ?_ f2
          · show x_run (D + 8) 96 [.inr (.inr (some 0)), .inl (Int32.ofNat s), .inl i2, .inl i3] σ = _
            rw [r96, e96_0, m126, x_ci_s, x_b1_1 c1, if_neg one, m126, x_ci_s, x_b1_1 c2, if_neg one, m126, x_ci_s, x_b1_1 c3, if_neg one, x_k0 hG, x_k0 hG, x_k0 hG, m120 _ hG ht.2 hr t2 e6, x_cr_s, x_q0_12 hG, x_der_s, x_k40 hG, x_q0_0 hG, a1, x_cv_s]
            by_cases z : i3 = 0
            · rw [if_pos z, if_pos z, x_k0 hG1, x_q0_12 hG1, x_der_s, x_k40 hG1, p4]
            · rw [if_neg z, if_neg z, x_k0 hG1, x_q0_12 hG1, x_der_s, x_k40 hG1, p5]
          · show x_run (D + 8) 186 [.inr (.inr (some 78)), .inl (Int32.ofNat s), .inl i2, .inl i3] σ1 = _
            rw [r186, e186_0, m133, x_ci_s, x_b1_1 c1, if_neg one, m133, x_ci_s, x_b1_1 c2, if_neg one, m133, x_ci_s, x_b1_1 c3, if_neg one, x_k78 hG1, a2, x_ci_s]
            by_cases z : i3 = 0
            · rw [if_pos z, if_pos z]
            · rw [if_neg z, if_neg z, x_k78 hG2, p3]
        · refine fin (-2) ?_ ?_
          · rw [r96, e96_0, m126, x_ci_s, x_b1_1 c1, if_neg one, m126, x_ci_s, x_b1_1 c2, if_neg one, m126, x_ci_s, x_b1_0 c3, if_pos rfl]
          · rw [r186, e186_0, m133, x_ci_s, x_b1_1 c1, if_neg one, m133, x_ci_s, x_b1_1 c2, if_neg one, m133, x_ci_s, x_b1_0 c3, if_pos rfl]
      · refine fin (-2) ?_ ?_
        · rw [r96, e96_0, m126, x_ci_s, x_b1_1 c1, if_neg one, m126, x_ci_s, x_b1_0 c2, if_pos rfl]
        · rw [r186, e186_0, m133, x_ci_s, x_b1_1 c1, if_neg one, m133, x_ci_s, x_b1_0 c2, if_pos rfl]
    · refine fin (-2) ?_ ?_
      · rw [r96, e96_0, m126, x_ci_s, x_b1_0 c1, if_pos rfl]
      · rw [r186, e186_0, m133, x_ci_s, x_b1_0 c1, if_pos rfl]
/-! office -/
def y_oc (V : Nat → Nat) (h : Nat) (b : Nat × Nat) : Nat × Nat := if b.2 ≤ V h then b else (h, V h)
theorem y_fold_le (V C : List Nat → Nat) : ∀ (xs : List (List Nat)) (b : Nat × Nat), (xs.foldl (y_up V C) b).1 ≤ b.1
  | [], b => Nat.le_refl _
  | x :: xs, b => by
    have h := y_fold_le V C xs (y_up V C b x)
    have h2 : (y_up V C b x).1 ≤ b.1 := by
      unfold y_up
      split
      · exact Nat.le_refl _
      · show V x ≤ b.1
        omega
    show (xs.foldl (y_up V C) (y_up V C b x)).1 ≤ b.1
    omega
theorem y_br_b (H T : Nat → Nat) {n : Nat} (hn : n ≤ 5) (hH : ∀ p, p < n → H p < 12) (hT : ∀ p, p < n → T p ≤ 8991) {s : Nat} (hs : s < 12) (i4 : Int32) : (y_br H T n s i4).1 < 2 ^ 30 := by
  have h1 := y_fold_le (y_va H T n s i4) (y_co n) (y_seq n 120 (List.range n)) (y_va H T n s i4 (List.range n), y_co n (List.range n))
  have h2 := y_va_b H T hn (y_rg_pm hn) hH hT hs i4
  have h3 : (y_br H T n s i4).1 ≤ y_va H T n s i4 (List.range n) := h1
  omega
theorem l97 (d : Nat) (n r tx : Nat) (o : Nat → Nat) (p : Nat → List Int32) (K M E S : Nat → Int32) (Y G : Int32) (W U : Nat → Nat) (hn : n ≤ 5) (ht : tx ≤ 6) (hr : r < tx) (fx : y_fx n M E S) {H : Nat → Nat} (hH : ∀ p, p < n → H p < 12) (i1 : Int32) : ∀ q h b σ, h + q = 12 → b.2 < 2 ^ 30 → y_ca n r tx o p K M E S Y G W U σ → y_hr n H σ → ∃ τ, x_f (d + 5) 97 42 [some (.inr (.inr (some 0))), some (.inl i1), some (.inl (Int32.ofNat b.1)), some (.inl (Int32.ofNat b.2)), some (.inl (Int32.ofNat h))] [] σ = some (some (.inl (Int32.ofNat (if i1 = 0 then (x_it (y_oc (fun h => (y_br H (y_TT p K M E S Y U 0) n h 0).1)) h q b).1 else (x_it (y_oc (fun h => (y_br H (y_TT p K M E S Y U 0) n h 0).1)) h q b).2))), τ) ∧ x_fr y_wo x_w0 σ τ
  | 0, h, b, σ, hq, hb, ca, hh => by
    have : h = 12 := by omega
    subst this
    have e0 : x_it (y_oc (fun h => (y_br H (y_TT p K M E S Y U 0) n h 0).1)) 12 0 b = b := rfl
    refine ⟨σ, ?_, x_fr.refl _ _ _⟩
    rw [e0, x_feq, e97_42, if_pos (show (12 : Int32) ≤ Int32.ofNat 12 by decide)]
    by_cases z : i1 = 0
    · rw [if_pos z, if_pos z]
    · rw [if_neg z, if_neg z]
  | q + 1, h, b, σ, hq, hb, ca, hh => by
    obtain ⟨hG, hv, a1, a2, a3, a4, a5, a6⟩ := id ca
    obtain ⟨σ1, e1, f1, p4, -⟩ := m1 d n r tx o p K M E S Y G W U hn (by omega) fx hH (s := h) (by omega) 0 ca hh
    have hG1 := f1.G hG
    have vb := y_br_b H (y_TT p K M E S Y U 0) hn hH (y_TT_b p K M E S Y U 0 fx) (s := h) (by omega) 0
    have bb : (y_oc (fun h => (y_br H (y_TT p K M E S Y U 0) n h 0).1) h b).2 < 2 ^ 30 := by
      unfold y_oc
      split
      · exact hb
      · exact vb
    obtain ⟨τ, e2, f2⟩ := l97 d n r tx o p K M E S Y G W U hn ht hr fx hH i1 q (h + 1) (y_oc (fun h => (y_br H (y_TT p K M E S Y U 0) n h 0).1) h b) σ1 (by omega) bb (ca.wo n r tx o p K M E S Y G W U hn (by omega) f1) (hh.wo hn f1)
    refine ⟨τ, Eq.trans ?_ e2, f1.trans f2⟩
    rw [x_feq, e97_42, if_neg (show ¬ (12 : Int32) ≤ Int32.ofNat (h) from fun h => absurd ((x_le (a := 12) (by omega) (by omega)).mp h) (by omega)), x_k0 hG, x_k0 hG, x_k0 hG, m120 _ hG ht hr a1 a2, x_cr_s, x_q0_12 hG, x_der_s, x_k40 hG, x_q0_0 hG, e1, x_cv_s, x_k0 hG1, x_q0_12 hG1, x_der_s, x_k40 hG1, p4, x_s1]
    unfold y_oc
    by_cases c : b.2 ≤ (y_br H (y_TT p K M E S Y U 0) n h 0).1
    · simp only [if_pos c]
      rw [if_pos ((x_le (by omega) (by omega)).mpr c)]
    · simp only [if_neg c]
      rw [if_neg (fun g => c ((x_le (by omega) (by omega)).mp g)), x_k0 hG1, x_der_s, x_k40 hG1, p4]
theorem l187 (d : Nat) (n r tx : Nat) (o : Nat → Nat) (p : Nat → List Int32) (K M E S : Nat → Int32) (Y G : Int32) (W U : Nat → Nat) (hn : n ≤ 5) (hr : r < 6) (fx : y_fx n M E S) {H : Nat → Nat} (hH : ∀ p, p < n → H p < 12) (i1 : Int32) : ∀ q h b σ, h + q = 12 → b.1 < 12 → b.2 < 2 ^ 30 → y_ra n r tx o p K M E S Y G W U σ → y_hr n H σ → ∃ τ, x_f (d + 7) 187 19 [some (.inr (.inr (some 78))), some (.inl i1), some (.inl (Int32.ofNat b.1)), some (.inl (Int32.ofNat b.2)), some (.inl (Int32.ofNat h)), none, none] [] σ = some (some (.inl (Int32.ofNat (if i1 = 0 then (x_it (y_oc (fun h => (y_br H (y_TT p K M E S Y U 0) n h 0).1)) h q b).1 else (x_it (y_oc (fun h => (y_br H (y_TT p K M E S Y U 0) n h 0).1)) h q b).2))), τ) ∧ x_fr y_wo x_w0 σ τ
  | 0, h, b, σ, hq, hb1, hb, ra, hh => by
    have : h = 12 := by omega
    subst this
    have e0 : x_it (y_oc (fun h => (y_br H (y_TT p K M E S Y U 0) n h 0).1)) 12 0 b = b := rfl
    refine ⟨σ, ?_, x_fr.refl _ _ _⟩
    rw [e0, x_feq, e187_19, if_pos (show (12 : Int32) ≤ Int32.ofNat 12 by decide)]
    by_cases z : i1 = 0
    · rw [if_pos z, if_pos z]
    · rw [if_neg z, if_neg z]
  | q + 1, h, b, σ, hq, hb1, hb, ra, hh => by
    obtain ⟨hG, -⟩ := id ra
    have one : ¬ (1 : Int32) = 0 := by decide
    have z0 : (0 : Int32) = 0 := rfl
    obtain ⟨σ1, e1, f1, -⟩ := m185 d n r tx o p K M E S Y G W U hn hr fx hH (s := h) (by omega) 0 ra hh
    have vb := y_br_b H (y_TT p K M E S Y U 0) hn hH (y_TT_b p K M E S Y U 0 fx) (s := h) (by omega) 0
    have bb : (y_oc (fun h => (y_br H (y_TT p K M E S Y U 0) n h 0).1) h b).2 < 2 ^ 30 := by
      unfold y_oc
      split
      · exact hb
      · exact vb
    have bb1 : (y_oc (fun h => (y_br H (y_TT p K M E S Y U 0) n h 0).1) h b).1 < 12 := by
      unfold y_oc
      split
      · exact hb1
      · show h < 12
        omega
    obtain ⟨τ, e2, f2⟩ := l187 d n r tx o p K M E S Y G W U hn hr fx hH i1 q (h + 1) (y_oc (fun h => (y_br H (y_TT p K M E S Y U 0) n h 0).1) h b) σ1 (by omega) bb1 bb (ra.wo n r tx o p K M E S Y G W U hr f1) (hh.wo hn f1)
    refine ⟨τ, Eq.trans ?_ e2, f1.trans f2⟩
    rw [x_feq, e187_19, if_neg (show ¬ (12 : Int32) ≤ Int32.ofNat (h) from fun h => absurd ((x_le (a := 12) (by omega) (by omega)).mp h) (by omega)), x_k78 hG, e1, x_ci_s, if_neg (y_ne1 (by omega))]
    unfold y_oc
    by_cases c : b.2 ≤ (y_br H (y_TT p K M E S Y U 0) n h 0).1
    · simp only [if_pos c]
      rw [if_pos ((x_le (by omega) (by omega)).mpr c), x_feq, e187_51, if_pos z0, if_pos z0, x_s1]
    · simp only [if_neg c]
      rw [if_neg (fun g => c ((x_le (by omega) (by omega)).mp g)), x_feq, e187_51, if_neg one, if_neg one, x_s1]
theorem x_op_office (D : Nat) : ∀ (σ : xS) (as : List Int32), as.length = 1 → x_R σ → x_stp (D + 8) x_R false 97 187 as σ := by
  intro σ as hl hR
  match as, hl with
  | [i1], _ =>
    obtain ⟨hG, n, t, z, hP⟩ := id hR
    obtain ⟨hn, ht, hz, ⟨l1, l2⟩, ⟨t1, t2⟩, -⟩ := id hP
    have one : ¬ (1 : Int32) = 0 := by decide
    have z0 : (0 : Int32) = 0 := rfl
    by_cases c1 : 0 ≤ i1 ∧ i1 ≤ 1
    · obtain ⟨r, o, p, K, M, E, S, W, U, hr, wu, fx, ca, ra⟩ := y_car hG hP
      obtain ⟨H, hH, hh⟩ := y_hrs hP
      have e6 := ca.2.2.2.1
      have vb := y_br_b H (y_TT p K M E S (x_I σ 78 4) U 0) hn hH (y_TT_b p K M E S (x_I σ 78 4) U 0 fx) (s := 0) (by omega) 0
      obtain ⟨σ1, a1, f1, p4, -⟩ := m1 (D + 2) n r t o p K M E S (x_I σ 78 4) (x_I σ 78 6) W U hn (by omega) fx hH (s := 0) (by omega) 0 ca hh
      have hG1 := f1.G hG
      obtain ⟨σ2, a2, f2⟩ := l97 (D + 2) n r t o p K M E S (x_I σ 78 4) (x_I σ 78 6) W U hn ht.2 hr fx hH i1 11 1 (0, (y_br H (y_TT p K M E S (x_I σ 78 4) U 0) n 0 0).1) σ1 (by omega) vb (ca.wo n r t o p K M E S (x_I σ 78 4) (x_I σ 78 6) W U hn (by omega) f1) (hh.wo hn f1)
      have f12 := f1.trans f2
      have ra2 := ra.wo n r t o p K M E S (x_I σ 78 4) (x_I σ 78 6) W U (by omega) f12
      have hh2 := hh.wo hn f12
      have hG2 := f12.G hG
      obtain ⟨σ3, a3, f3, -⟩ := m185 D n r t o p K M E S (x_I σ 78 4) (x_I σ 78 6) W U hn (by omega) fx hH (s := 0) (by omega) 0 ra2 hh2
      obtain ⟨τ, a4, f4⟩ := l187 D n r t o p K M E S (x_I σ 78 4) (x_I σ 78 6) W U hn (by omega) fx hH i1 11 1 (0, (y_br H (y_TT p K M E S (x_I σ 78 4) U 0) n 0 0).1) σ3 (by omega) (by show 0 < 12; omega) vb (ra2.wo n r t o p K M E S (x_I σ 78 4) (x_I σ 78 6) W U (by omega) f3) (hh2.wo hn f3)
      refine x_op_fr hR _ ⟨_, rfl⟩ y_wo_per (Eq.trans ?_ a2) f12 (Eq.trans ?_ a4) (f3.trans f4)
      · show x_run (D + 8) 97 [.inr (.inr (some 0)), .inl i1] σ = _
        rw [r97, e97_0, m126, x_ci_s, x_b1_1 c1, if_neg one, x_k0 hG, x_k0 hG, x_k0 hG, m120 _ hG ht.2 hr t2 e6, x_cr_s, x_q0_12 hG, x_der_s, x_k40 hG, x_q0_0 hG]
        refine (congrArg (fun X => x_cv X _) a1).trans ?_
        rw [x_cv_s, x_k0 hG1, x_q0_12 hG1, x_der_s, x_k40 hG1, p4]
        rfl
      · show x_run (D + 8) 187 [.inr (.inr (some 78)), .inl i1] σ2 = _
        rw [r187, e187_0, m133, x_ci_s, x_b1_1 c1, if_neg one, x_feq, e187_19, if_neg (by decide), x_k78 hG2]
        refine (congrArg (fun X => x_ci X _) a3).trans ?_
        rw [x_ci_s, if_pos rfl, x_feq, e187_51, if_neg one, if_neg one]
        rfl
    · refine x_op_eq hR (.inl (-2)) ⟨_, rfl⟩ ?_ ?_
      · show x_run (D + 8) 97 [.inr (.inr (some 0)), .inl i1] σ = _
        rw [r97, e97_0, m126, x_ci_s, x_b1_0 c1, if_pos rfl]
      · show x_run (D + 8) 187 [.inr (.inr (some 78)), .inl i1] σ = _
        rw [r187, e187_0, m133, x_ci_s, x_b1_0 c1, if_pos rfl]
