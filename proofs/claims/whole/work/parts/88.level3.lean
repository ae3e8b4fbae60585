/-! level 46; all levels -/
theorem z_encn {v : Nat} (hv : v < 10000) : x_enc (100000 + Int32.ofNat v) = Int32.ofNat v := by
  unfold x_enc
  have e : (100000 : Int32) + Int32.ofNat v = Int32.ofNat (100000 + v) := by
    rw [show (100000 : Int32) = Int32.ofNat 100000 from rfl, ← Int32.ofNat_add]
  rw [e, if_pos (show (100000 : Int32) ≤ Int32.ofNat (100000 + v) from (x_le (a := 100000) (by omega) (by omega)).mpr (by omega)), show (100000 : Int32) = Int32.ofNat 100000 from rfl, x_sb (by omega) (by omega), show 100000 + v - 100000 = v by omega]
theorem z_lv46 (D k : Nat) (hk5 : k ≤ 5) (h46 : ∀ k', k = k' + 1 → z_CP (D + 4) 46 7 k') (h41 : ∀ k', k = k' + 1 → z_CP (D + 4) 41 1 k') : z_CP (D + 5) 46 7 k := by
  intro C z o m p σ h
  obtain ⟨tp, ⟨c1, c2, c3, c4⟩, h7, h4, ho, hb, hp, hz, hn5⟩ := id h
  have hG := tp.1
  have kk := z_tok_k C z p
  have kb : (z_tok C z p).2.2.1 < 1000 := by unfold z_knd at kk; omega
  have one : ¬ (1 : Int32) = 0 := by decide
  have z0 : (0 : Int32) = 0 := rfl
  by_cases c : (z_tok C z p).2.2.1 = 302
  · obtain ⟨v, ev, hv⟩ := z_tok_v C z p c
    obtain ⟨σ1, τ, e1, hG1, e2, f, g⟩ := z_emit (D + 1) (100000 + (z_tok C z p).2.2.2) h (by omega)
    rw [ev, z_encn hv, ← ev, ← c4 c] at e1
    refine ⟨τ, _, _, z_D.num c, ?_, f, fun e => (by cases e), fun w e => (by cases e; exact g)⟩
    rw [r46, e46_0, x_k22 hG, c3, c, if_pos (show Int32.ofNat 302 = 302 from rfl), x_k22 hG, x_k22 hG, x_q22_1 hG, x_der_s, x_k24 hG, e1, x_cv_s, x_k22 hG1, e2, x_cv_s, z_ret]
  have n302 : ¬ Int32.ofNat (z_tok C z p).2.2.1 = 302 := fun g => c (x_inj32 (b := 302) (by omega) (by omega) g)
  by_cases c2' : 320 ≤ (z_tok C z p).2.2.1
  · have rng : 320 ≤ Int32.ofNat (z_tok C z p).2.2.1 ∧ Int32.ofNat (z_tok C z p).2.2.1 ≤ 325 := ⟨(x_le (a := 320) (by omega) (by omega)).mpr c2', (x_le (b := 325) (by omega) (by omega)).mpr (by unfold z_knd at kk; omega)⟩
    obtain ⟨σ1, τ, e1, hG1, e2, f, g⟩ := z_emit (D + 1) (Int32.ofNat ((z_tok C z p).2.2.1 - 320)) h (by omega)
    have ee : (-1 : Int32) - (Int32.ofNat (z_tok C z p).2.2.1 - 320) = x_enc (Int32.ofNat ((z_tok C z p).2.2.1 - 320)) := by
      unfold z_knd at kk
      rcases (show (z_tok C z p).2.2.1 = 320 ∨ (z_tok C z p).2.2.1 = 321 ∨ (z_tok C z p).2.2.1 = 322 ∨ (z_tok C z p).2.2.1 = 323 ∨ (z_tok C z p).2.2.1 = 324 ∨ (z_tok C z p).2.2.1 = 325 by omega) with e | e | e | e | e | e <;> rw [e] <;> decide
    refine ⟨τ, _, _, z_D.name c2', ?_, f, fun e => (by cases e), fun w e => (by cases e; exact g)⟩
    rw [r46, e46_0, x_k22 hG, c3, if_neg n302, x_k22 hG, m126, x_ci_s, x_b1_1 rng, if_neg one, x_k22 hG, x_k22 hG, x_q22_1 hG, x_der_s, x_k24 hG, c3, ee, e1, x_cv_s, x_k22 hG1, e2, x_cv_s, z_ret]
  have nrng : ¬ (320 ≤ Int32.ofNat (z_tok C z p).2.2.1 ∧ Int32.ofNat (z_tok C z p).2.2.1 ≤ 325) := fun g => c2' ((x_le (a := 320) (by omega) (by omega)).mp g.1)
  by_cases c45 : (z_tok C z p).2.2.1 = 45
  · have e45 : Int32.ofNat (z_tok C z p).2.2.1 = 45 := by rw [c45]; rfl
    rcases z_m47 D h (by omega) with ⟨n5, e⟩ | ⟨n5, σ1, e1, f1, g1⟩
    · have k0 : k = 0 := by omega
      subst k0
      refine ⟨σ, p, none, z_D.neg0 c45, ?_, x_fr.refl _ _ _, fun _ => ⟨c1, c2, c3, c4⟩, fun w e => (by cases e)⟩
      rw [r46, e46_0, x_k22 hG, c3, if_neg n302, x_k22 hG, m126, x_ci_s, x_b1_0 nrng, if_pos z0, x_k22 hG, c3, if_pos e45, x_k22 hG, e, x_ci_s, if_pos z0, if_pos rfl]
    · obtain ⟨k', rfl⟩ : ∃ k', k = k' + 1 := ⟨k - 1, by omega⟩
      have e5 : 5 - (k' + 1) + 1 = 5 - k' := by omega
      rw [e5] at g1
      have hG1 := g1.1.1
      obtain ⟨σ2, p1, r, d2, e2, f2, n2, g2⟩ := h46 k' rfl C z o (m + 1) _ σ1 g1
      have hG2 := f2.G hG1
      cases r with
      | none =>
        refine ⟨σ2, p1, none, z_D.negE c45 d2, ?_, f1.trans f2, n2, fun w e => (by cases e)⟩
        rw [r46, e46_0, x_k22 hG, c3, if_neg n302, x_k22 hG, m126, x_ci_s, x_b1_0 nrng, if_pos z0, x_k22 hG, c3, if_pos e45, x_k22 hG, e1, x_ci_s, if_neg one, x_k22 hG1, e2, x_ci_s, if_pos rfl, if_pos z0]
      | some w1 =>
        have g2' := g2 w1 rfl
        rw [← e5] at g2'
        obtain ⟨q1, g3, f3⟩ := z_lessn g2'
        obtain ⟨σ4, e4, f4, g4⟩ := z_m58 (D + 2) 19 g3
        have hG3 := g3.1.1
        refine ⟨σ4, p1, some (w1 ++ [19]), z_D.neg c45 d2, ?_, ((f1.trans f2).trans f3).trans f4, fun e => (by cases e), fun w e => (by cases e; rw [← List.append_assoc]; exact g4)⟩
        rw [r46, e46_0, x_k22 hG, c3, if_neg n302, x_k22 hG, m126, x_ci_s, x_b1_0 nrng, if_pos z0, x_k22 hG, c3, if_pos e45, x_k22 hG, e1, x_ci_s, if_neg one, x_k22 hG1, e2, x_ci_s, z_ret, if_neg one, x_k22 hG2, x_k22 hG2, q1, x_k22 hG3, x_q22_1 hG3, x_der_s, x_k24 hG3, show (-18 : Int32) = x_enc 19 by decide, e4, x_cv_s, z_ret]
  have n45 : ¬ Int32.ofNat (z_tok C z p).2.2.1 = 45 := fun g => c45 (x_inj32 (b := 45) (by omega) (by omega) g)
  by_cases c40 : (z_tok C z p).2.2.1 = 40
  · have e40 : Int32.ofNat (z_tok C z p).2.2.1 = 40 := by rw [c40]; rfl
    rcases z_m47 D h (by omega) with ⟨n5, e⟩ | ⟨n5, σ1, e1, f1, g1⟩
    · have k0 : k = 0 := by omega
      subst k0
      refine ⟨σ, p, none, z_D.par0 c40, ?_, x_fr.refl _ _ _, fun _ => ⟨c1, c2, c3, c4⟩, fun w e => (by cases e)⟩
      rw [r46, e46_0, x_k22 hG, c3, if_neg n302, x_k22 hG, m126, x_ci_s, x_b1_0 nrng, if_pos z0, x_k22 hG, c3, if_neg n45, x_k22 hG, if_pos e40, x_k22 hG, e, x_ci_s, if_pos z0, if_pos rfl]
    · obtain ⟨k', rfl⟩ : ∃ k', k = k' + 1 := ⟨k - 1, by omega⟩
      have e5 : 5 - (k' + 1) + 1 = 5 - k' := by omega
      rw [e5] at g1
      have hG1 := g1.1.1
      obtain ⟨σ2, p1, r, d2, e2, f2, n2, g2⟩ := h41 k' rfl C z o (m + 1) _ σ1 g1
      have hG2 := f2.G hG1
      cases r with
      | none =>
        refine ⟨σ2, p1, none, z_D.parE c40 d2, ?_, f1.trans f2, n2, fun w e => (by cases e)⟩
        rw [r46, e46_0, x_k22 hG, c3, if_neg n302, x_k22 hG, m126, x_ci_s, x_b1_0 nrng, if_pos z0, x_k22 hG, c3, if_neg n45, x_k22 hG, if_pos e40, x_k22 hG, e1, x_ci_s, if_neg one, x_k22 hG1, e2, x_ci_s, if_pos rfl, if_pos z0]
      | some w1 =>
        have g2' := g2 w1 rfl
        rcases z_m48 D 41 (by omega) (by omega) g2' with ⟨n41, e3⟩ | ⟨y41, σ3, e3, f3, g3⟩
        · refine ⟨σ2, p1, none, z_D.parX c40 d2 n41, ?_, f1.trans f2, fun _ => g2'.2.1, fun w e => (by cases e)⟩
          rw [r46, e46_0, x_k22 hG, c3, if_neg n302, x_k22 hG, m126, x_ci_s, x_b1_0 nrng, if_pos z0, x_k22 hG, c3, if_neg n45, x_k22 hG, if_pos e40, x_k22 hG, e1, x_ci_s, if_neg one, x_k22 hG1, e2, x_ci_s, z_ret, if_neg one, x_k22 hG2, show (41 : Int32) = Int32.ofNat 41 from rfl, e3, x_ci_s, if_pos z0, if_pos rfl]
        · rw [← e5] at g3
          obtain ⟨q1, g4, f4⟩ := z_lessn g3
          have hG3 := g3.1.1
          obtain ⟨b1, b2, b3, b4, b5, b6, b7, b8, b9⟩ := g4
          refine ⟨_, _, some w1, z_D.par c40 d2 y41, ?_, ((f1.trans f2).trans f3).trans f4, fun e => (by cases e), fun w e => (by cases e; exact ⟨b1, b2, b3, b4, b5, by omega, b7, b8, b9⟩)⟩
          rw [r46, e46_0, x_k22 hG, c3, if_neg n302, x_k22 hG, m126, x_ci_s, x_b1_0 nrng, if_pos z0, x_k22 hG, c3, if_neg n45, x_k22 hG, if_pos e40, x_k22 hG, e1, x_ci_s, if_neg one, x_k22 hG1, e2, x_ci_s, z_ret, if_neg one, x_k22 hG2, show (41 : Int32) = Int32.ofNat 41 from rfl, e3, x_ci_s, if_neg one, x_k22 hG3, x_k22 hG3, q1]
  · have n40 : ¬ Int32.ofNat (z_tok C z p).2.2.1 = 40 := fun g => c40 (x_inj32 (b := 40) (by omega) (by omega) g)
    refine ⟨σ, p, none, z_D.bad c c2' c45 c40, ?_, x_fr.refl _ _ _, fun _ => ⟨c1, c2, c3, c4⟩, fun w e => (by cases e)⟩
    rw [r46, e46_0, x_k22 hG, c3, if_neg n302, x_k22 hG, m126, x_ci_s, x_b1_0 nrng, if_pos z0, x_k22 hG, c3, if_neg n45, x_k22 hG, if_neg n40, if_pos rfl]
theorem z_all : ∀ k, k ≤ 5 → ∀ d, z_CP (d + 6 * k + 5) 46 7 k ∧ z_CP (d + 6 * k + 8) 43 3 k ∧ z_CP (d + 6 * k + 10) 41 1 k
  | 0, hk, d => by
    have a46 : ∀ d, z_CP (d + 5) 46 7 0 := fun d => z_lv46 d 0 hk (fun k' e => by omega) (fun k' e => by omega)
    have a45 : ∀ d, z_CP (d + 6) 45 6 0 := fun d => z_lv45 (d + 1) 0 (a46 d)
    have a44 : ∀ d, z_CP (d + 7) 44 5 0 := fun d => z_lv44 (d + 2) 0 (a45 d)
    have a43 : ∀ d, z_CP (d + 8) 43 3 0 := fun d => z_lv43 (d + 3) 0 hk (a44 d) (fun k' e => by omega)
    have a42 : ∀ d, z_CP (d + 9) 42 2 0 := fun d => z_lv42 (d + 4) 0 (a43 d)
    have a41 : ∀ d, z_CP (d + 10) 41 1 0 := fun d => z_lv41 (d + 5) 0 (a42 d)
    exact ⟨a46 d, a43 d, a41 d⟩
  | k + 1, hk, d => by
    have ih := z_all k (by omega)
    have a46 : ∀ d, z_CP (d + 6 * (k + 1) + 5) 46 7 (k + 1) := fun d => z_lv46 (d + 6 * (k + 1)) (k + 1) hk (fun k' e => by
      have : k' = k := by omega
      subst this
      have h := (ih (d + 5)).1
      rw [show d + 5 + 6 * k' + 5 = d + 6 * (k' + 1) + 4 by omega] at h
      exact h) (fun k' e => by
      have : k' = k := by omega
      subst this
      have h := (ih d).2.2
      rw [show d + 6 * k' + 10 = d + 6 * (k' + 1) + 4 by omega] at h
      exact h)
    have a45 : ∀ d, z_CP (d + 6 * (k + 1) + 6) 45 6 (k + 1) := fun d => z_lv45 (d + 6 * (k + 1) + 1) (k + 1) (a46 d)
    have a44 : ∀ d, z_CP (d + 6 * (k + 1) + 7) 44 5 (k + 1) := fun d => z_lv44 (d + 6 * (k + 1) + 2) (k + 1) (a45 d)
    have a43 : ∀ d, z_CP (d + 6 * (k + 1) + 8) 43 3 (k + 1) := fun d => z_lv43 (d + 6 * (k + 1) + 3) (k + 1) hk (a44 d) (fun k' e => by
      have : k' = k := by omega
      subst this
      have h := (ih (d + 5)).2.1
      rw [show d + 5 + 6 * k' + 8 = d + 6 * (k' + 1) + 3 + 4 by omega] at h
      exact h)
    have a42 : ∀ d, z_CP (d + 6 * (k + 1) + 9) 42 2 (k + 1) := fun d => z_lv42 (d + 6 * (k + 1) + 4) (k + 1) (a43 d)
    have a41 : ∀ d, z_CP (d + 6 * (k + 1) + 10) 41 1 (k + 1) := fun d => z_lv41 (d + 6 * (k + 1) + 5) (k + 1) (a42 d)
    exact ⟨a46 d, a43 d, a41 d⟩
theorem z_41 (d : Nat) : z_CP (d + 40) 41 1 5 := (z_all 5 (by omega) d).2.2
