/-! judge, parts, whose, rule -/
theorem y_sh_of {σ : xS} {s : Nat} (hs : s < 4) (h : x_she σ s) : ∃ N V, y_sh σ s N V := by
  obtain ⟨-, ⟨h2, b2⟩, h3⟩ := h
  obtain ⟨N, hN, e⟩ := x_bd_of (n := 40) (by omega) b2 rfl
  exact ⟨N, fun i => x_I σ 88 (40 * s + i), hs, hN, h2.trans e, e, fun i hi => ⟨h3 i hi, rfl⟩⟩
theorem m201 (d : Nat) {σ : xS} (hG : x_G σ) {s : Nat} (hs : s < 4) : x_run (d + 2) 201 [.inr (.inr (some 78)), .inl (Int32.ofNat s)] σ = some (some (.inl (if x_I σ 86 s = -1 then -11 else if x_I σ 87 s ≤ 20 then 0 else -2)), σ) := by
  have d1 : x_b1 (0 ≤ Int32.ofNat s ∧ Int32.ofNat s ≤ 3) = 1 := if_pos ⟨Int32.not_lt.mp (x_nn0 (by omega)), (x_le (b := 3) (by omega) (by omega)).mpr (by omega)⟩
  rw [r201, e201_0, m133, x_ci_s, d1, if_neg (by decide), x_k78 hG, x_q78_22 hG, x_der_s, x_k86 hG, x_i4 hs, x_n4 hs]
  by_cases c : x_I σ 86 s = -1
  · rw [if_pos c, if_pos c]
  · rw [if_neg c, if_neg c, x_k78 hG, x_q78_23 hG, x_der_s, x_k87 hG, x_i4 hs]
    split <;> rfl
theorem m201_out (d : Nat) {σ : xS} {i : Int32} (ho : i < 0 ∨ Int32.ofNat 4 ≤ i) : x_run (d + 2) 201 [.inr (.inr (some 78)), .inl i] σ = some (some (.inl (-2)), σ) := by
  rw [r201, e201_0, m133, x_ci_s, x_b1_0 (show ¬ (0 ≤ i ∧ i ≤ 3) from x_ltk (n := 3) (by omega) ho), if_pos rfl]
theorem m122 (d : Nat) {σ : xS} (hG : x_G σ) {s : Nat} (hs : s < 4) (h : x_she σ s) : x_run (d + 2) 122 [.inr (.inr (some 0)), .inl (Int32.ofNat s)] σ = some (some (.inr (.inr (if x_I σ 86 s = -1 then none else if x_I σ 87 s ≤ 20 then some (70 + 2 * s) else none))), σ) := by
  rw [r122, e122_0, x_k0 hG, m121_in _ hG hs, x_cr_s, x_nul_s, x_der_s, x_ks5 hG hs, h.1.1]
  by_cases c : x_I σ 86 s = -1
  · rw [if_pos c, if_pos c]
  · rw [if_neg c, if_neg c, x_der_s, x_ks5 hG hs, h.2.1.1]
    split <;> rfl
theorem m122_out (d : Nat) {σ : xS} (hG : x_G σ) {i : Int32} (ho : i < 0 ∨ Int32.ofNat 4 ≤ i) : x_run (d + 2) 122 [.inr (.inr (some 0)), .inl i] σ = some (some (.inr (.inr none)), σ) := by
  rw [r122, e122_0, x_k0 hG, m121_out _ hG ho, x_cr_s, x_nul_n]
theorem x_op_judge (D : Nat) : ∀ (σ : xS) (as : List Int32), as.length = 2 → x_R σ → x_stp (D + 7) x_R false 105 205 as σ := by
  intro σ as hl hR
  match as, hl with
  | [i1, i2], _ =>
    obtain ⟨hG, n, t, z, hP⟩ := id hR
    obtain ⟨hn, ht, hz, ⟨l1, l2⟩, ⟨t1, t2⟩, -, -, -, -, -, -, hsh, -⟩ := id hP
    have fin : ∀ v : Int32, x_run (D + 7) 105 [.inr (.inr (some 0)), .inl i1, .inl i2] σ = some (some (.inl v), σ) → x_run (D + 7) 205 [.inr (.inr (some 78)), .inl i1, .inl i2] σ = some (some (.inl v), σ) → x_stp (D + 7) x_R false 105 205 [i1, i2] σ := fun v e1 e2 => x_op_eq hR (.inl v) ⟨v, rfl⟩ e1 e2
    rcases x_splitg (n := 4) (by omega) i1 with ⟨s, hs, rfl⟩ | ho
    · have sh := hsh s hs
      have h201 := m201 (D + 3) hG hs
      by_cases c1 : x_I σ 86 s = -1
      · rw [if_pos c1] at h201
        refine fin (-11) ?_ ?_
        · rw [r105, e105_0, x_k0 hG, m121_in _ hG hs, x_cr_s, x_nul_s, x_der_s, x_ks5 hG hs, sh.1.1, if_pos c1]
        · rw [r205, e205_0, x_k78 hG, r202, e202_0, x_k78 hG, h201, x_ci_s, if_neg (by decide), x_ci_s, if_neg (by decide)]
      · rw [if_neg c1] at h201
        by_cases c2 : x_I σ 87 s ≤ 20
        · rw [if_pos c2] at h201
          rcases x_split hn i2 with ⟨l, hl, rfl⟩ | h2
          · obtain ⟨r, o, p, y, k, m, e, s1, u, hf⟩ := y_lf_of hP hl
            obtain ⟨N, V, hy⟩ := y_sh_of hs sh
            obtain ⟨-, hr, hv, e13, e6, y1, y2, hcl, hrl, ⟨n7, n1, n0⟩, yb, kb, mb, eb, sb, ub⟩ := id hf
            have hl5 : l < 5 := by omega
            obtain ⟨σ1, a1, f1⟩ := l35 (D + 1) (y := y) (show r < 6 by omega) (x_kl hl5) mb N 0 u σ (by omega) hG hv hcl hy
            have hG1 := f1.G hG
            obtain ⟨-, -, hv1, e131, e61, y11, y21, hcl1, hrl1, ⟨-, -, n01⟩, -⟩ := id (hf.fr hn ht.2 f1)
            have hy1 := hy.fr f1 x_wt_s
            obtain ⟨σ2, a2, f2⟩ := l204 D (show r < 6 by omega) hl5 mb N 0 u σ1 (by omega) hG1 hv1 e131 hrl1 y11 hy1
            have h202 : x_run (D + 6) 202 [.inr (.inr (some 78)), .inl (Int32.ofNat s), .inl (Int32.ofNat l)] σ1 = some (some (.inl 0), σ1) := by
              have h201' := m201 (D + 3) hG1 hs
              rw [f1.I (x_wt_o (by omega) _), if_neg c1, f1.I (x_wt_o (by omega) _), if_pos c2] at h201'
              rw [r202, e202_0, x_k78 hG1, h201', x_ci_s, if_pos rfl, x_k78 hG1, m135_in _ hG1 hn hl n01, x_ci_s, if_neg (by decide)]
            refine x_op_fr hR _ ⟨_, rfl⟩ x_wt_per (Eq.trans ?_ a1) f1 (Eq.trans ?_ a2) f2
            · show x_run (D + 7) 105 [.inr (.inr (some 0)), .inl (Int32.ofNat s), .inl (Int32.ofNat l)] σ = _
              have b1 : x_run (D + 6) 35 [.inr (.inr (some (70 + 2 * s))), .inr (.inr (some (3 + l))), .inr (.inr (some (x_tc r))), .inl y] σ = some (some (.inl (y_fi p k m e s1 y V 0 N u)), σ1) := by
                rw [r35, e35_0, x_der_s, x_kl3 hG hl5, hcl.2.2.2.2]
                exact a1
              rw [r105, e105_0, x_k0 hG, m121_in _ hG hs, x_cr_s, x_nul_s, x_der_s, x_ks5 hG hs, sh.1.1, if_neg c1, x_der_s, x_ks5 hG hs, sh.2.1.1, if_pos c2, x_k0 hG, x_q0_0 hG, x_der_s, x_k1 hG, m65_in _ hG hn hl l2, x_cr_s, x_nul_s]
              simp only [↓x_k0, ↓x_k1, hG, x_q0_0, m120 _ hG ht.2 hr t2 e6, x_cr_s, x_der_s, ↓x_der_s, ↓x_ks5, hs, y2, b1, x_ci_s]
              exact a1.symm
            · show x_run (D + 7) 205 [.inr (.inr (some 78)), .inl (Int32.ofNat s), .inl (Int32.ofNat l)] σ1 = _
              have b2 : x_run (D + 6) 204 [.inr (.inr (some 78)), .inl (Int32.ofNat s), .inl (Int32.ofNat l)] σ1 = some (some (.inl (y_fi p k m e s1 y V 0 N u)), σ2) := by
                rw [r204, e204_0, x_k78 hG1, x_q78_3 hG1, x_der_s, x_k81 hG1, x_6i5 hl5, x_6n5 hl5, hrl1.2.2.2.2]
                exact a2
              rw [r205, e205_0, x_k78 hG1, h202, x_ci_s, if_pos rfl, x_k78 hG1, b2, x_ci_s]
              exact a2.symm
          · refine fin (-5) ?_ ?_
            · rw [r105, e105_0, x_k0 hG, m121_in _ hG hs, x_cr_s, x_nul_s, x_der_s, x_ks5 hG hs, sh.1.1, if_neg c1, x_der_s, x_ks5 hG hs, sh.2.1.1, if_pos c2, x_k0 hG, x_q0_0 hG, x_der_s, x_k1 hG, m65_out _ hG h2 l2, x_cr_s, x_nul_n]
            · rw [r205, e205_0, x_k78 hG, r202, e202_0, x_k78 hG, h201, x_ci_s, if_pos rfl, x_k78 hG, m135_out _ hG hn h2 l1, x_ci_s, if_pos rfl, x_ci_s, if_neg (by decide)]
        · rw [if_neg c2] at h201
          refine fin (-2) ?_ ?_
          · rw [r105, e105_0, x_k0 hG, m121_in _ hG hs, x_cr_s, x_nul_s, x_der_s, x_ks5 hG hs, sh.1.1, if_neg c1, x_der_s, x_ks5 hG hs, sh.2.1.1, if_neg c2]
          · rw [r205, e205_0, x_k78 hG, r202, e202_0, x_k78 hG, h201, x_ci_s, if_neg (by decide), x_ci_s, if_neg (by decide)]
    · refine fin (-2) ?_ ?_
      · rw [r105, e105_0, x_k0 hG, m121_out _ hG ho, x_cr_s, x_nul_n]
      · rw [r205, e205_0, x_k78 hG, r202, e202_0, x_k78 hG, m201_out _ ho, x_ci_s, if_neg (by decide), x_ci_s, if_neg (by decide)]
/-- is there a sheet that tells years -/
theorem y_told {σ : xS} (hG : x_G σ) (hsh : ∀ s, s < 4 → x_she σ s) (i1 : Int32) : (∃ s, s < 4 ∧ i1 = Int32.ofNat s ∧ (∃ N V, y_sh σ s N V) ∧ (∀ d, x_run (d + 2) 122 [.inr (.inr (some 0)), .inl i1] σ = some (some (.inr (.inr (some (70 + 2 * s)))), σ)) ∧ ∀ d τ, x_fr y_wb y_vt σ τ → x_run (d + 2) 201 [.inr (.inr (some 78)), .inl i1] τ = some (some (.inl 0), τ)) ∨ ((∀ d, x_run (d + 2) 122 [.inr (.inr (some 0)), .inl i1] σ = some (some (.inr (.inr none)), σ)) ∧ ∃ v : Int32, ¬ v = 0 ∧ ∀ d, x_run (d + 2) 201 [.inr (.inr (some 78)), .inl i1] σ = some (some (.inl v), σ)) := by
  rcases x_splitg (n := 4) (by omega) i1 with ⟨s, hs, rfl⟩ | ho
  · have sh := hsh s hs
    by_cases c1 : x_I σ 86 s = -1
    · refine Or.inr ⟨fun d => ?_, -11, by decide, fun d => ?_⟩
      · rw [m122 d hG hs sh, if_pos c1]
      · rw [m201 d hG hs, if_pos c1]
    · by_cases c2 : x_I σ 87 s ≤ 20
      · refine Or.inl ⟨s, hs, rfl, y_sh_of hs sh, fun d => ?_, fun d τ f => ?_⟩
        · rw [m122 d hG hs sh, if_neg c1, if_pos c2]
        · rw [m201 d (f.G hG) hs, f.I (y_wb_o (by omega) _), if_neg c1, f.I (y_wb_o (by omega) _), if_pos c2]
      · refine Or.inr ⟨fun d => ?_, -2, by decide, fun d => ?_⟩
        · rw [m122 d hG hs sh, if_neg c1, if_neg c2]
        · rw [m201 d hG hs, if_neg c1, if_neg c2]
  · exact Or.inr ⟨fun d => m122_out d hG ho, -2, by decide, fun d => m201_out d ho⟩
theorem m202_in (d : Nat) {τ : xS} (hG : x_G τ) {n l : Nat} (hn : n ≤ 5) (hl : l < n) (h0 : x_I τ 78 0 = Int32.ofNat n) {i1 : Int32} (h : x_run (d + 2) 201 [.inr (.inr (some 78)), .inl i1] τ = some (some (.inl 0), τ)) : x_run (d + 3) 202 [.inr (.inr (some 78)), .inl i1, .inl (Int32.ofNat l)] τ = some (some (.inl 0), τ) := by
  rw [r202, e202_0, x_k78 hG, h, x_ci_s, if_pos rfl, x_k78 hG, m135_in _ hG hn hl h0, x_ci_s, if_neg (by decide)]
theorem m202_out (d : Nat) {τ : xS} (hG : x_G τ) {n : Nat} (hn : n ≤ 5) {i1 i2 : Int32} (ho : i2 < 0 ∨ Int32.ofNat n ≤ i2) (h0 : x_I τ 78 0 = Int32.ofNat n) (h : x_run (d + 2) 201 [.inr (.inr (some 78)), .inl i1] τ = some (some (.inl 0), τ)) : x_run (d + 3) 202 [.inr (.inr (some 78)), .inl i1, .inl i2] τ = some (some (.inl (-5)), τ) := by
  rw [r202, e202_0, x_k78 hG, h, x_ci_s, if_pos rfl, x_k78 hG, m135_out _ hG hn ho h0, x_ci_s, if_pos rfl]
theorem m202_no (d : Nat) {τ : xS} (hG : x_G τ) {i1 i2 v : Int32} (hv : ¬ v = 0) (h : x_run (d + 2) 201 [.inr (.inr (some 78)), .inl i1] τ = some (some (.inl v), τ)) : x_run (d + 3) 202 [.inr (.inr (some 78)), .inl i1, .inl i2] τ = some (some (.inl v), τ) := by
  rw [r202, e202_0, x_k78 hG, h, x_ci_s, if_neg hv]
theorem x_op_parts (D : Nat) : ∀ (σ : xS) (as : List Int32), as.length = 2 → x_R σ → x_stp (D + 7) x_R true 106 207 as σ := by
  intro σ as hl hR
  match as, hl with
  | [i1, i2], _ =>
    obtain ⟨hG, n, t, z, hP⟩ := id hR
    obtain ⟨hn, ht, hz, ⟨l1, l2⟩, ⟨t1, t2⟩, -, -, -, -, -, -, hsh, -⟩ := id hP
    have fin : x_run (D + 7) 106 [.inr (.inr (some 0)), .inl i1, .inl i2] σ = some (some (.inr (.inl (-4611686018427387904))), σ) → x_run (D + 7) 207 [.inr (.inr (some 78)), .inl i1, .inl i2] σ = some (some (.inr (.inl (-4611686018427387904))), σ) → x_stp (D + 7) x_R true 106 207 [i1, i2] σ := fun e1 e2 => x_op_eq hR (.inr (.inl _)) ⟨_, rfl⟩ e1 e2
    rcases y_told hG hsh i1 with ⟨s, hs, rfl, ⟨N, V, hy⟩, h122, h201⟩ | ⟨h122, v, hv0, h201⟩
    · rcases x_split hn i2 with ⟨l, hl, rfl⟩ | h2
      · obtain ⟨r, o, p, y, k, m, e, s1, u, hf⟩ := y_lf_of hP hl
        obtain ⟨-, hr, hv, e13, e6, y1, y2, hcl, hrl, ⟨n7, n1, n0⟩, yb, kb, mb, eb, sb, ub⟩ := id hf
        have hl5 : l < 5 := by omega
        obtain ⟨σ1, a1, f1⟩ := m36 (D + 1) (y := y) (show r < 6 by omega) (x_kl hl5) mb hG hv hcl hy
        have hG1 := f1.G hG
        obtain ⟨-, -, hv1, e131, e61, y11, y21, hcl1, hrl1, ⟨-, -, n01⟩, -⟩ := id (hf.fr hn ht.2 f1)
        have hy1 := hy.fr f1 x_wt_s
        obtain ⟨σ2, a2, f2⟩ := m206 D (show r < 6 by omega) hl5 mb hG1 hv1 e131 hrl1 y11 hy1
        refine x_op_fr hR _ ⟨_, rfl⟩ x_wt_per (Eq.trans ?_ a1) f1 (Eq.trans ?_ a2) f2
        · show x_run (D + 7) 106 [.inr (.inr (some 0)), .inl (Int32.ofNat s), .inl (Int32.ofNat l)] σ = _
          rw [r106, e106_0, x_k0 hG, h122, x_cr_s, x_k0 hG, x_q0_0 hG, x_der_s, x_k1 hG, m65_in _ hG hn hl l2, x_cr_s, x_nul_s, x_nul_s]
          simp only [↓x_k0, ↓x_k1, hG, x_q0_0, m120 _ hG ht.2 hr t2 e6, x_cr_s, x_der_s, ↓x_der_s, ↓x_ks5, hs, y2, a1, x_cl_s]
        · show x_run (D + 7) 207 [.inr (.inr (some 78)), .inl (Int32.ofNat s), .inl (Int32.ofNat l)] σ1 = _
          rw [r207, e207_0, x_k78 hG1, m202_in (D + 3) hG1 hn hl n01 (h201 _ _ f1.wb), x_ci_s, if_pos rfl, x_k78 hG1, a2, x_cl_s]
      · refine fin ?_ ?_
        · rw [r106, e106_0, x_k0 hG, h122, x_cr_s, x_k0 hG, x_q0_0 hG, x_der_s, x_k1 hG, m65_out _ hG h2 l2, x_cr_s, x_nul_s, x_nul_n]
        · rw [r207, e207_0, x_k78 hG, m202_out (D + 3) hG hn h2 l1 (h201 _ _ (x_fr.refl _ _ _)), x_ci_s, if_neg (by decide)]
    · refine fin ?_ ?_
      · rw [r106, e106_0, x_k0 hG, h122, x_cr_s, x_k0 hG, x_q0_0 hG, x_der_s, x_k1 hG]
        rcases x_split hn i2 with ⟨l, hl, rfl⟩ | h2
        · rw [m65_in _ hG hn hl l2, x_cr_s, x_nul_n]
        · rw [m65_out _ hG h2 l2, x_cr_s, x_nul_n]
      · rw [r207, e207_0, x_k78 hG, m202_no (D + 3) hG hv0 (h201 _), x_ci_s, if_neg hv0]
