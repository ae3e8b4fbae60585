/-! feed -/
theorem m127 (d : Nat) (v : Int32) (σ : xS) : x_run (d + 2) 127 [.inl v] σ = some (some (.inl (x_b1 (0 ≤ v ∧ v ≤ 255))), σ) := by
  rw [r127, e127_0, m126, x_ci_s]
  by_cases c : 0 ≤ v ∧ v ≤ 255
  · rw [x_b1_1 c]; rfl
  · rw [x_b1_0 c]; rfl
theorem m138 (d : Nat) (v : Int32) (σ : xS) : x_run (d + 2) 138 [.inl v] σ = some (some (.inl (x_b1 (0 ≤ v ∧ v ≤ 255))), σ) := by
  rw [r138, e138_0, m133, x_ci_s]
  by_cases c : 0 ≤ v ∧ v ≤ 255
  · rw [x_b1_1 c]; rfl
  · rw [x_b1_0 c]; rfl
def y_vs (i2 i3 i4 i5 i6 : Int32) (i : Nat) : Int32 := if i = 0 then i2 else if i = 1 then i3 else if i = 2 then i4 else if i = 3 then i5 else i6
theorem m39 (d : Nat) {σ : xS} (hG : x_G σ) {z : Nat} (hz : z < 160) (h : x_I σ 22 2 = Int32.ofNat z) (v : Int32) : x_run (d + 2) 39 [.inr (.inr (some 22)), .inl v] σ = some (none, x_si (x_si σ 23 z v) 22 2 (Int32.ofNat (z + 1))) := by
  have hG1 : x_G (x_si σ 23 z v) := hG
  rw [r39, e39_0, x_k22 hG, x_k22 hG, x_q22_0 hG, x_der_s, x_m23 hG, h, if_neg (fun g => absurd ((x_le (by omega) (by omega)).mp g) (by omega)), x_k22 hG, x_k22 hG, m130 d hG (a := 23) (n := 160) rfl hz (by omega), x_cv_s, x_k22 hG1, x_k22 hG1, x_Isi, if_neg (by omega), h, x_s1]
def y_tp (b u : Nat) : Prop := b = 23 ∨ b = 82 ∨ (b = 22 ∧ u = 2) ∨ (b = 78 ∧ u = 9)
theorem l78 (d : Nat) (i2 i3 i4 i5 i6 : Int32) {c z : Nat} (hc : c ≤ 5) (hz : z + c ≤ 160) : ∀ q i σ, i + q = c → x_G σ → x_I σ 22 2 = Int32.ofNat (z + i) → ∃ τ, x_f (d + 2) 78 71 [some (.inr (.inr (some 0))), some (.inl (Int32.ofNat c)), some (.inl i2), some (.inl i3), some (.inl i4), some (.inl i5), some (.inl i6), some (.inl (Int32.ofNat i))] [] σ = some (some (.inl (Int32.ofNat (z + c))), τ) ∧ x_fr (fun b u => (b = 23 ∧ z + i ≤ u) ∨ (b = 22 ∧ u = 2)) x_w0 σ τ ∧ x_I τ 22 2 = Int32.ofNat (z + c) ∧ ∀ k, i ≤ k → k < c → x_I τ 23 (z + k) = y_vs i2 i3 i4 i5 i6 k
  | 0, i, σ, hi, hG, h => by
    have : i = c := by omega
    subst this
    refine ⟨σ, ?_, x_fr.refl _ _ _, h, fun k h1 h2 => absurd h2 (by omega)⟩
    rw [x_feq, e78_71, if_pos ((x_le (by omega) (by omega)).mpr (by omega)), x_k0 hG, x_q0_4 hG, x_der_s, x_k22 hG, h]
  | q + 1, i, σ, hi, hG, h => by
    have hG1 : x_G (x_si (x_si σ 23 (z + i) (y_vs i2 i3 i4 i5 i6 i)) 22 2 (Int32.ofNat (z + (i + 1)))) := hG
    obtain ⟨τ, a, f, g1, g2⟩ := l78 d i2 i3 i4 i5 i6 hc hz q (i + 1) (x_si (x_si σ 23 (z + i) (y_vs i2 i3 i4 i5 i6 i)) 22 2 (Int32.ofNat (z + (i + 1)))) (by omega) hG ((x_Isi _ _ _ _ _ _).trans (if_pos ⟨rfl, rfl⟩))
    have fs : x_fr (fun b u => (b = 23 ∧ z + i ≤ u) ∨ (b = 22 ∧ u = 2)) x_w0 σ (x_si (x_si σ 23 (z + i) (y_vs i2 i3 i4 i5 i6 i)) 22 2 (Int32.ofNat (z + (i + 1)))) := ((x_fr.refl _ _ σ).si _ (Or.inl ⟨rfl, Nat.le_refl _⟩)).si _ (Or.inr ⟨rfl, rfl⟩)
    refine ⟨τ, ?_, fs.trans (f.mono (fun b u h => by omega) (fun _ _ h => h)), g1, fun k h1 h2 => ?_⟩
    · refine Eq.trans ?_ a
      rw [x_feq, e78_71, if_neg (fun h => absurd ((x_le (by omega) (by omega)).mp h) (by omega)), x_k0 hG]
      have m := fun v => m39 d hG (z := z + i) (by omega) h v
      rcases (show i = 0 ∨ i = 1 ∨ i = 2 ∨ i = 3 ∨ i = 4 by omega) with rfl | rfl | rfl | rfl | rfl
      · rw [if_pos (by decide), x_q0_4 hG, x_der_s, x_k22 hG, m, x_cv_s]
        rfl
      · rw [if_neg (by decide), if_pos (by decide), x_q0_4 hG, x_der_s, x_k22 hG, m, x_cv_s]
        rfl
      · rw [if_neg (by decide), if_neg (by decide), if_pos (by decide), x_q0_4 hG, x_der_s, x_k22 hG, m, x_cv_s]
        rfl
      · rw [if_neg (by decide), if_neg (by decide), if_neg (by decide), if_pos (by decide), x_q0_4 hG, x_der_s, x_k22 hG, m, x_cv_s]
        rfl
      · rw [if_neg (by decide), if_neg (by decide), if_neg (by decide), if_neg (by decide), x_q0_4 hG, x_der_s, x_k22 hG, m, x_cv_s]
        rfl
    · by_cases e : k = i
      · subst e
        exact (f.I (by omega)).trans ((x_Isi _ _ _ _ _ _).trans ((if_neg (by omega)).trans ((x_Isi _ _ _ _ _ _).trans (if_pos ⟨rfl, rfl⟩))))
      · exact g2 k (by omega) h2
theorem l139 (d : Nat) (i2 i3 i4 i5 i6 : Int32) {c z : Nat} (hc : c ≤ 5) (hz : z + c ≤ 160) : ∀ q i σ, i + q = c → x_G σ → x_I σ 78 9 = Int32.ofNat (z + i) → ∃ τ, x_f (d + 2) 139 68 [some (.inr (.inr (some 78))), some (.inl (Int32.ofNat c)), some (.inl i2), some (.inl i3), some (.inl i4), some (.inl i5), some (.inl i6), some (.inl (Int32.ofNat i))] [] σ = some (some (.inl (Int32.ofNat (z + c))), τ) ∧ x_fr (fun b u => (b = 82 ∧ z + i ≤ u) ∨ (b = 78 ∧ u = 9)) x_w0 σ τ ∧ x_I τ 78 9 = Int32.ofNat (z + c) ∧ ∀ k, i ≤ k → k < c → x_I τ 82 (z + k) = y_vs i2 i3 i4 i5 i6 k
  | 0, i, σ, hi, hG, h => by
    have : i = c := by omega
    subst this
    refine ⟨σ, ?_, x_fr.refl _ _ _, h, fun k h1 h2 => absurd h2 (by omega)⟩
    rw [x_feq, e139_68, if_pos ((x_le (by omega) (by omega)).mpr (by omega)), x_k78 hG, h]
  | q + 1, i, σ, hi, hG, h => by
    obtain ⟨τ, a, f, g1, g2⟩ := l139 d i2 i3 i4 i5 i6 hc hz q (i + 1) (x_si (x_si σ 82 (z + i) (y_vs i2 i3 i4 i5 i6 i)) 78 9 (Int32.ofNat (z + (i + 1)))) (by omega) hG ((x_Isi _ _ _ _ _ _).trans (if_pos ⟨rfl, rfl⟩))
    have fs : x_fr (fun b u => (b = 82 ∧ z + i ≤ u) ∨ (b = 78 ∧ u = 9)) x_w0 σ (x_si (x_si σ 82 (z + i) (y_vs i2 i3 i4 i5 i6 i)) 78 9 (Int32.ofNat (z + (i + 1)))) := ((x_fr.refl _ _ σ).si _ (Or.inl ⟨rfl, Nat.le_refl _⟩)).si _ (Or.inr ⟨rfl, rfl⟩)
    refine ⟨τ, ?_, fs.trans (f.mono (fun b u h => by omega) (fun _ _ h => h)), g1, fun k h1 h2 => ?_⟩
    · refine Eq.trans ?_ a
      have hz1 : z + i < 160 := by omega
      have st : ∀ v, (x_der (some 82) fun a9 => x_ak σ a9 11 fun n10 => x_ix (x_I σ 78 9) n10 <| (x_ck (x_si σ a9 (x_I σ 78 9).toNatClampNeg v) 78 10 <| (x_ck (x_si σ a9 (x_I σ 78 9).toNatClampNeg v) 78 10 <| x_f (d + 2) 139 68 [some (.inr (.inr (some 78))), some (.inl (Int32.ofNat c)), some (.inl i2), some (.inl i3), some (.inl i4), some (.inl i5), some (.inl i6), some (.inl (Int32.ofNat i + 1))] [] (x_si (x_si σ a9 (x_I σ 78 9).toNatClampNeg v) 78 9 ((x_I (x_si σ a9 (x_I σ 78 9).toNatClampNeg v) 78 9) + 1))))) = x_f (d + 2) 139 68 [some (.inr (.inr (some 78))), some (.inl (Int32.ofNat c)), some (.inl i2), some (.inl i3), some (.inl i4), some (.inl i5), some (.inl i6), some (.inl (Int32.ofNat (i + 1)))] [] (x_si (x_si σ 82 (z + i) v) 78 9 (Int32.ofNat (z + (i + 1)))) := by
        intro v
        have hG1 : x_G (x_si σ 82 (z + i) v) := hG
        rw [x_der_s, x_k82 hG, h, x_ixk hz1 (by omega), x_tn (by omega), x_k78 hG1, x_k78 hG1, x_Isi, if_neg (by omega), h, x_s1, x_s1]
        rfl
      rw [x_feq, e139_68, if_neg (fun h => absurd ((x_le (by omega) (by omega)).mp h) (by omega)), x_k78 hG, x_k78 hG]
      rcases (show i = 0 ∨ i = 1 ∨ i = 2 ∨ i = 3 ∨ i = 4 by omega) with rfl | rfl | rfl | rfl | rfl
      · rw [if_pos (by decide), x_q78_8 hG]
        exact st _
      · rw [if_neg (by decide), if_pos (by decide), x_q78_8 hG]
        exact st _
      · rw [if_neg (by decide), if_neg (by decide), if_pos (by decide), x_q78_8 hG]
        exact st _
      · rw [if_neg (by decide), if_neg (by decide), if_neg (by decide), if_pos (by decide), x_q78_8 hG]
        exact st _
      · rw [if_neg (by decide), if_neg (by decide), if_neg (by decide), if_neg (by decide), x_q78_8 hG]
        exact st _
    · by_cases e : k = i
      · subst e
        exact (f.I (by omega)).trans ((x_Isi _ _ _ _ _ _).trans ((if_neg (by omega)).trans ((x_Isi _ _ _ _ _ _).trans (if_pos ⟨rfl, rfl⟩))))
      · exact g2 k (by omega) h2
theorem y_Rp_tape {σ τ : xS} {n t z z' : Nat} (h : x_Rp n t z σ) (e : ∀ a u, ¬ y_tp a u → x_I τ a u = x_I σ a u) (hz' : z' ≤ 160) (k1 : x_I τ 78 9 = Int32.ofNat z') (k2 : x_I τ 22 2 = Int32.ofNat z') (hb' : ∀ k, k < z' → x_I τ 23 k = x_I τ 82 k ∧ x_bd (x_I τ 82 k) 0 255) : x_Rp n t z' τ := by
  obtain ⟨hn, ht, hz, ⟨l1, l2⟩, ⟨t1, t2⟩, -, hnum, hli, -, htx, him, hsh, hw⟩ := h
  have e' : ∀ a u, ¬ (a = 23 ∨ a = 82 ∨ (a = 22 ∧ u = 2) ∨ (a = 78 ∧ u = 9)) → x_I τ a u = x_I σ a u := e
  refine ⟨hn, ht, hz', ⟨by rw [e' 78 0 (by omega)]; exact l1, by rw [e' 1 1 (by omega)]; exact l2⟩, ⟨by rw [e' 78 12 (by omega)]; exact t1, by rw [e' 0 7 (by omega)]; exact t2⟩, ⟨k1, k2⟩, ?_, fun l hl => ?_, hb', fun k hk => ?_, ?_, fun s hs => ?_, fun q hq hq2 => ?_⟩
  · exact x_num.at (e' 1 2 (by omega)) (e' 1 3 (by omega)) (e' 1 4 (by omega)) (e' 1 5 (by omega)) (e' 1 6 (by omega)) (e' 78 4 (by omega)) (e' 78 5 (by omega)) (e' 78 6 (by omega)) (e' 78 7 (by omega)) (e' 78 13 (by omega)) hnum
  · exact ⟨x_row6.at (fun u => e' _ u (by omega)) (fun u => e' 81 u (by omega)) (hli l hl).1, x_kin.at (fun u => e' _ u (by omega)) (fun u => e' 79 u (by omega)) (fun u => e' 80 u (by omega)) (hli l hl).2⟩
  · have hc : 29 ≤ x_tc k ∧ x_tc k + 3 < 70 := by
      rcases (show k = 0 ∨ k = 1 ∨ k = 2 ∨ k = 3 ∨ k = 4 ∨ k = 5 by omega) with rfl | rfl | rfl | rfl | rfl | rfl <;> exact ⟨Nat.le_of_ble_eq_true rfl, Nat.le_of_ble_eq_true rfl⟩
    exact x_txt.at (fun u => e' 83 u (by omega)) (fun u => e' 84 u (by omega)) (fun u => e' _ u (by omega)) (fun u => e' _ u (by omega)) (htx k hk)
  · exact x_img.at hn (e' 0 3 (by omega)) (fun u _ _ => e' 78 u (by omega)) (fun u _ _ => e' 8 u (by omega)) (fun l hl u => e' _ u (by omega)) (fun u => e' 85 u (by omega)) (fun l _ => e' 79 l (by omega)) (fun l _ => e' 80 l (by omega)) him
  · exact x_she.at (fun u => e' _ u (by omega)) (fun u => e' _ u (by omega)) (e' 86 s (by omega)) (e' 87 s (by omega)) (fun k _ => e' 88 _ (by omega)) (hsh s hs)
  · rw [e' 90 _ (by omega)]; exact hw q hq hq2
theorem x_op_feed (D : Nat) : ∀ (σ : xS) (as : List Int32), as.length = 6 → x_R σ → x_stp (D + 3) x_R false 78 139 as σ := by
  intro σ as hl hR
  match as, hl with
  | [i1, i2, i3, i4, i5, i6], _ =>
    obtain ⟨hG, n, t, z, hP⟩ := id hR
    obtain ⟨hn, ht, hz, ⟨l1, l2⟩, ⟨t1, t2⟩, ⟨z1, z2⟩, -, -, hb, -⟩ := id hP
    have one : ¬ (1 : Int32) = 0 := by decide
    have fin : ∀ w : Int32, x_run (D + 3) 78 [.inr (.inr (some 0)), .inl i1, .inl i2, .inl i3, .inl i4, .inl i5, .inl i6] σ = some (some (.inl w), σ) → x_run (D + 3) 139 [.inr (.inr (some 78)), .inl i1, .inl i2, .inl i3, .inl i4, .inl i5, .inl i6] σ = some (some (.inl w), σ) → x_stp (D + 3) x_R false 78 139 [i1, i2, i3, i4, i5, i6] σ := fun w e1 e2 => x_op_eq hR (.inl w) ⟨w, rfl⟩ e1 e2
    by_cases c1 : 1 ≤ i1 ∧ i1 ≤ 5
    · by_cases c2 : 0 ≤ i2 ∧ i2 ≤ 255
      · by_cases c3 : 0 ≤ i3 ∧ i3 ≤ 255
        · by_cases c4 : 0 ≤ i4 ∧ i4 ≤ 255
          · by_cases c5 : 0 ≤ i5 ∧ i5 ≤ 255
            · by_cases c6 : 0 ≤ i6 ∧ i6 ≤ 255
              · obtain ⟨c, hc, rfl⟩ := x_bd_of (v := i1) (hi := 5) (n := 5) (by omega) ⟨Int32.le_trans (by decide) c1.1, c1.2⟩ rfl
                by_cases cz : z + c ≤ 160
                · obtain ⟨σ1, a1, f1, g1, g2⟩ := l78 D i2 i3 i4 i5 i6 hc cz c 0 σ (by omega) hG z2
                  have hG1 := f1.G hG
                  obtain ⟨τ, a2, f2, k1, k2⟩ := l139 D i2 i3 i4 i5 i6 hc cz c 0 σ1 (by omega) hG1 ((f1.I (by omega)).trans z1)
                  have hG2 := f2.G hG1
                  have vb : ∀ k, x_bd (y_vs i2 i3 i4 i5 i6 k) 0 255 := by
                    intro k
                    unfold y_vs
                    split
                    · exact c2
                    · split
                      · exact c3
                      · split
                        · exact c4
                        · split
                          · exact c5
                          · exact c6
                  refine ⟨.inl (Int32.ofNat (z + c)), σ1, τ, ⟨_, rfl⟩, ?_, hG1.1, ?_, hG2, n, t, z + c, y_Rp_tape hP (fun a u h => ?_) cz k1 ((f2.I (by omega)).trans g1) (fun k hk => ?_)⟩
                  · show x_run (D + 3) 78 [.inr (.inr (some 0)), .inl (Int32.ofNat c), .inl i2, .inl i3, .inl i4, .inl i5, .inl i6] σ = _
                    rw [r78, e78_0, m126, x_ci_s, x_b1_1 c1, if_neg one, m127, x_ci_s, x_b1_1 c2, if_neg one, m127, x_ci_s, x_b1_1 c3, if_neg one, m127, x_ci_s, x_b1_1 c4, if_neg one, m127, x_ci_s, x_b1_1 c5, if_neg one, m127, x_ci_s, x_b1_1 c6, if_neg one, x_k0 hG, x_q0_4 hG, x_der_s, x_k22 hG, z2, ← Int32.ofNat_add, if_pos (show Int32.ofNat (z + c) ≤ 160 from (x_le (b := 160) (by omega) (by omega)).mpr cz)]
                    exact a1
                  · show x_run (D + 3) 139 [.inr (.inr (some 78)), .inl (Int32.ofNat c), .inl i2, .inl i3, .inl i4, .inl i5, .inl i6] σ1 = _
                    rw [r139, e139_0, m133, x_ci_s, x_b1_1 c1, if_neg one, m138, x_ci_s, x_b1_1 c2, if_neg one, m138, x_ci_s, x_b1_1 c3, if_neg one, m138, x_ci_s, x_b1_1 c4, if_neg one, m138, x_ci_s, x_b1_1 c5, if_neg one, m138, x_ci_s, x_b1_1 c6, if_neg one, x_k78 hG1, show x_I σ1 78 9 = Int32.ofNat z from (f1.I (by omega)).trans z1, ← Int32.ofNat_add, if_pos (show Int32.ofNat (z + c) ≤ 160 from (x_le (b := 160) (by omega) (by omega)).mpr cz)]
                    exact a2
                  · unfold y_tp at h
                    rw [f2.I (by omega), f1.I (by omega)]
                  · by_cases kz : k < z
                    · rw [f2.I (by omega), f1.I (by omega), f2.I (by omega), f1.I (by omega)]
                      exact hb k kz
                    · have e : k = z + (k - z) := by omega
                      have q1 := g2 (k - z) (by omega) (by omega)
                      have q2 := k2 (k - z) (by omega) (by omega)
                      rw [← e] at q1 q2
                      rw [f2.I (by omega), q1, q2]
                      exact ⟨rfl, vb _⟩
                · have nz : ¬ Int32.ofNat (z + c) ≤ 160 := fun g => cz ((x_le (b := 160) (by omega) (by omega)).mp g)
                  refine fin (-4) ?_ ?_
                  · rw [r78, e78_0, m126, x_ci_s, x_b1_1 c1, if_neg one, m127, x_ci_s, x_b1_1 c2, if_neg one, m127, x_ci_s, x_b1_1 c3, if_neg one, m127, x_ci_s, x_b1_1 c4, if_neg one, m127, x_ci_s, x_b1_1 c5, if_neg one, m127, x_ci_s, x_b1_1 c6, if_neg one, x_k0 hG, x_q0_4 hG, x_der_s, x_k22 hG, z2, ← Int32.ofNat_add, if_neg nz]
                  · rw [r139, e139_0, m133, x_ci_s, x_b1_1 c1, if_neg one, m138, x_ci_s, x_b1_1 c2, if_neg one, m138, x_ci_s, x_b1_1 c3, if_neg one, m138, x_ci_s, x_b1_1 c4, if_neg one, m138, x_ci_s, x_b1_1 c5, if_neg one, m138, x_ci_s, x_b1_1 c6, if_neg one, x_k78 hG, z1, ← Int32.ofNat_add, if_neg nz]
              · refine fin (-2) ?_ ?_
                · rw [r78, e78_0, m126, x_ci_s, x_b1_1 c1, if_neg one, m127, x_ci_s, x_b1_1 c2, if_neg one, m127, x_ci_s, x_b1_1 c3, if_neg one, m127, x_ci_s, x_b1_1 c4, if_neg one, m127, x_ci_s, x_b1_1 c5, if_neg one, m127, x_ci_s, x_b1_0 c6, if_pos rfl]
                · rw [r139, e139_0, m133, x_ci_s, x_b1_1 c1, if_neg one, m138, x_ci_s, x_b1_1 c2, if_neg one, m138, x_ci_s, x_b1_1 c3, if_neg one, m138, x_ci_s, x_b1_1 c4, if_neg one, m138, x_ci_s, x_b1_1 c5, if_neg one, m138, x_ci_s, x_b1_0 c6, if_pos rfl]
            · refine fin (-2) ?_ ?_
              · rw [r78, e78_0, m126, x_ci_s, x_b1_1 c1, if_neg one, m127, x_ci_s, x_b1_1 c2, if_neg one, m127, x_ci_s, x_b1_1 c3, if_neg one, m127, x_ci_s, x_b1_1 c4, if_neg one, m127, x_ci_s, x_b1_0 c5, if_pos rfl]
              · rw [r139, e139_0, m133, x_ci_s, x_b1_1 c1, if_neg one, m138, x_ci_s, x_b1_1 c2, if_neg one, m138, x_ci_s, x_b1_1 c3, if_neg one, m138, x_ci_s, x_b1_1 c4, if_neg one, m138, x_ci_s, x_b1_0 c5, if_pos rfl]
          · refine fin (-2) ?_ ?_
            · rw [r78, e78_0, m126, x_ci_s, x_b1_1 c1, if_neg one, m127, x_ci_s, x_b1_1 c2, if_neg one, m127, x_ci_s, x_b1_1 c3, if_neg one, m127, x_ci_s, x_b1_0 c4, if_pos rfl]
            · rw [r139, e139_0, m133, x_ci_s, x_b1_1 c1, if_neg one, m138, x_ci_s, x_b1_1 c2, if_neg one, m138, x_ci_s, x_b1_1 c3, if_neg one, m138, x_ci_s, x_b1_0 c4, if_pos rfl]
        · refine fin (-2) ?_ ?_
          · rw [r78, e78_0, m126, x_ci_s, x_b1_1 c1, if_neg one, m127, x_ci_s, x_b1_1 c2, if_neg one, m127, x_ci_s, x_b1_0 c3, if_pos rfl]
          · rw [r139, e139_0, m133, x_ci_s, x_b1_1 c1, if_neg one, m138, x_ci_s, x_b1_1 c2, if_neg one, m138, x_ci_s, x_b1_0 c3, if_pos rfl]
      · refine fin (-2) ?_ ?_
        · rw [r78, e78_0, m126, x_ci_s, x_b1_1 c1, if_neg one, m127, x_ci_s, x_b1_0 c2, if_pos rfl]
        · rw [r139, e139_0, m133, x_ci_s, x_b1_1 c1, if_neg one, m138, x_ci_s, x_b1_0 c2, if_pos rfl]
    · refine fin (-2) ?_ ?_
      · rw [r78, e78_0, m126, x_ci_s, x_b1_0 c1, if_pos rfl]
      · rw [r139, e139_0, m133, x_ci_s, x_b1_0 c1, if_pos rfl]
