/-! the component's token; the reference's lexer -/
def z_cur (t : Nat × (Nat × (Nat × Int32))) (σ : xS) : Prop := x_I σ 22 4 = Int32.ofNat t.1 ∧ x_I σ 22 5 = Int32.ofNat t.2.1 ∧ x_I σ 22 3 = Int32.ofNat t.2.2.1 ∧ (t.2.2.1 = 302 → x_I σ 22 6 = t.2.2.2)
theorem z_l49 (d : Nat) {z : Nat} {C : Nat → Int32} (hz : z ≤ 160) : ∀ q p σ, p + q = z → z_tpe z C σ → x_I σ 22 4 = Int32.ofNat p → ∃ τ, x_f (d + 1) 49 8 [some (.inr (.inr (some 22))), none] [] σ = x_f (d + 1) 49 64 [some (.inr (.inr (some 22))), none] [] τ ∧ x_fr (fun b u => b = 22 ∧ u = 4) x_w0 σ τ ∧ x_I τ 22 4 = Int32.ofNat (z_rn z_spc C q p)
  | 0, p, σ, hp, h, h4 => by
    obtain ⟨hG, a1, -⟩ := id h
    refine ⟨σ, ?_, x_fr.refl _ _ _, h4⟩
    rw [x_feq, e49_8, x_k22 hG, x_k22 hG, a1, h4, if_pos ((x_le (by omega) (by omega)).mpr (by omega))]
  | q + 1, p, σ, hp, h, h4 => by
    obtain ⟨hG, a1, -⟩ := id h
    have nle : ¬ Int32.ofNat z ≤ Int32.ofNat p := fun g => absurd ((x_le (by omega) (by omega)).mp g) (by omega)
    have us : z_rn z_spc C (q + 1) p = if z_spc (C p) = true then z_rn z_spc C q (p + 1) else p := rfl
    rw [us]
    have f1 : x_fr (fun b u => b = 22 ∧ u = 4) x_w0 σ (x_si σ 22 4 (Int32.ofNat (p + 1))) := (x_fr.refl _ _ σ).si _ ⟨rfl, rfl⟩
    obtain ⟨τ, a, f, g⟩ := z_l49 d hz q (p + 1) (x_si σ 22 4 (Int32.ofNat (p + 1))) (by omega) (h.fr f1 (by omega) (by omega) (fun u => by omega)) ((x_Isi _ _ _ _ _ _).trans (if_pos ⟨rfl, rfl⟩))
    have r0 : x_f (d + 1) 49 8 [some (.inr (.inr (some 22))), none] [] σ = if C p = 32 then x_f (d + 1) 49 8 [some (.inr (.inr (some 22))), none] [] (x_si σ 22 4 (Int32.ofNat (p + 1))) else if C p = 10 then x_f (d + 1) 49 8 [some (.inr (.inr (some 22))), none] [] (x_si σ 22 4 (Int32.ofNat (p + 1))) else x_f (d + 1) 49 64 [some (.inr (.inr (some 22))), none] [] σ := by
      rw [x_feq, e49_8, x_k22 hG, x_k22 hG, a1, h4, if_neg nle, x_k22 hG, x_k22 hG, x_q22_0 hG, g23 hz h (by omega), x_ci_s, x_k22 hG, x_k22 hG, h4, x_k22 hG, x_k22 hG, x_q22_0 hG, g23 hz h (by omega), x_ci_s, x_k22 hG, x_k22 hG, h4, x_s1]
    rw [r0]
    unfold z_spc
    by_cases c1 : C p = 32
    · rw [if_pos c1, decide_eq_true c1]
      exact ⟨τ, a, f1.trans f, g⟩
    · by_cases c2 : C p = 10
      · rw [if_neg c1, if_pos c2, decide_eq_false c1, decide_eq_true c2]
        exact ⟨τ, a, f1.trans f, g⟩
      · rw [if_neg c1, if_neg c2, decide_eq_false c1, decide_eq_false c2]
        exact ⟨σ, rfl, x_fr.refl _ _ _, h4⟩
theorem z_pn {c : Int32} (h : z_pun c = true) : Int32.ofNat c.toNatClampNeg = c := by
  unfold z_pun at h
  simp only [Bool.or_eq_true, decide_eq_true_eq] at h
  rcases h with rfl | rfl | rfl | rfl | rfl | rfl | rfl | rfl <;> rfl
theorem z_kw_c (L : List Int32) : z_kw L = 301 ∨ (310 ≤ z_kw L ∧ z_kw L ≤ 315) ∨ (320 ≤ z_kw L ∧ z_kw L ≤ 325) := by
  unfold z_kw
  by_cases c1 : x_TX 1001 = L
  · rw [if_pos c1]; omega
  rw [if_neg c1]
  by_cases c2 : x_TX 1002 = L
  · rw [if_pos c2]; omega
  rw [if_neg c2]
  by_cases c3 : x_TX 1003 = L
  · rw [if_pos c3]; omega
  rw [if_neg c3]
  by_cases c4 : x_TX 1004 = L
  · rw [if_pos c4]; omega
  rw [if_neg c4]
  by_cases c5 : x_TX 1005 = L
  · rw [if_pos c5]; omega
  rw [if_neg c5]
  by_cases c6 : x_TX 1006 = L
  · rw [if_pos c6]; omega
  rw [if_neg c6]
  by_cases c7 : x_TX 1007 = L
  · rw [if_pos c7]; omega
  rw [if_neg c7]
  by_cases c8 : x_TX 1008 = L
  · rw [if_pos c8]; omega
  rw [if_neg c8]
  by_cases c9 : x_TX 1009 = L
  · rw [if_pos c9]; omega
  rw [if_neg c9]
  by_cases c10 : x_TX 1010 = L
  · rw [if_pos c10]; omega
  rw [if_neg c10]
  by_cases c11 : x_TX 1011 = L
  · rw [if_pos c11]; omega
  rw [if_neg c11]
  by_cases c12 : x_TX 1012 = L
  · rw [if_pos c12]; omega
  rw [if_neg c12]
  omega
theorem z_m49 (d : Nat) {z : Nat} {C : Nat → Int32} (hz : z ≤ 160) {p : Nat} (hp : p ≤ z) {σ : xS} (h : z_tpe z C σ) (h5 : x_I σ 22 5 = Int32.ofNat p) : ∃ τ, x_run (d + 3) 49 [.inr (.inr (some 22))] σ = some (none, τ) ∧ x_fr z_lx x_w0 σ τ ∧ z_cur (z_tok C z p) τ := by
  have hG := h.1
  have f0 : x_fr z_lx x_w0 σ (x_si σ 22 4 (Int32.ofNat p)) := (x_fr.refl _ _ σ).si _ ⟨rfl, by omega, by omega⟩
  obtain ⟨σ1, a, f, g4⟩ := z_l49 (d + 1) hz (z - p) p (x_si σ 22 4 (Int32.ofNat p)) (by omega) (h.lx f0) ((x_Isi _ _ _ _ _ _).trans (if_pos ⟨rfl, rfl⟩))
  have f' : x_fr z_lx x_w0 (x_si σ 22 4 (Int32.ofNat p)) σ1 := f.mono (fun b u h => ⟨h.1, by omega, by omega⟩) (fun _ _ h => h)
  have b := z_rn_b z_spc C (z - p) p
  have st : x_run (d + 3) 49 [.inr (.inr (some 22))] σ = x_f (d + 2) 49 64 [some (.inr (.inr (some 22))), none] [] σ1 := by
    rw [r49, e49_0, x_k22 hG, x_k22 hG, h5]
    exact a
  rw [st]
  unfold z_tok
  generalize z_rn z_spc C (z - p) p = s at *
  have h1 : z_tpe z C σ1 := (h.lx f0).lx f'
  obtain ⟨hG1, a1, -⟩ := id h1
  let σ2 := x_si σ1 22 5 (Int32.ofNat s)
  have hG2 : x_G σ2 := hG1
  have f2 : x_fr z_lx x_w0 σ σ2 := (f0.trans f').si _ ⟨rfl, by omega, by omega⟩
  have h2 : z_tpe z C σ2 := h.lx f2
  have k4 : x_I σ2 22 4 = Int32.ofNat s := (x_Isi _ _ _ _ _ _).trans ((if_neg (by omega)).trans g4)
  have k5 : x_I σ2 22 5 = Int32.ofNat s := (x_Isi _ _ _ _ _ _).trans (if_pos ⟨rfl, rfl⟩)
  have k2 : x_I σ2 22 2 = Int32.ofNat z := h2.2.1
  have one : ¬ (1 : Int32) = 0 := by decide
  by_cases c0 : s = z
  · rw [if_pos c0]
    refine ⟨x_si σ2 22 3 300, ?_, f2.si _ ⟨rfl, by omega, by omega⟩, (x_Isi _ _ _ _ _ _).trans ((if_neg (by omega)).trans k4), (x_Isi _ _ _ _ _ _).trans ((if_neg (by omega)).trans k5), (x_Isi _ _ _ _ _ _).trans (if_pos ⟨rfl, rfl⟩), fun e => absurd e (by show ¬ (300 = 302); decide)⟩
    rw [x_feq, e49_64, x_k22 hG1, x_k22 hG1, g4, x_k22 hG2, x_k22 hG2, k4, k2, if_neg (fun g => absurd (Int32.not_le.mpr g) (fun k => k ((x_le (by omega) (by omega)).mpr (by omega)))), x_k22 hG2]
  · rw [if_neg c0]
    have pre : ∀ R, (if (if z_let (C s) = true then (1 : Int32) else 0) = 0 then (if (if z_dig (C s) = true then (1 : Int32) else 0) = 0 then (if (if z_pun (C s) = true then (1 : Int32) else 0) = 0 then (some (none, x_si (x_si σ2 22 5 (Int32.ofNat (s + 1))) 22 3 301)) else (some (none, x_si (x_si σ2 22 5 (Int32.ofNat (s + 1))) 22 3 (C s)))) else x_cv (x_run (d + 2) 51 [.inr (.inr (some 22))] σ2) fun σ9 => some (none, σ9)) else x_cv (x_run (d + 2) 50 [.inr (.inr (some 22))] σ2) fun σ9 => some (none, σ9)) = R → x_f (d + 2) 49 64 [some (.inr (.inr (some 22))), none] [] σ1 = R := by
      intro R e
      have hG3 : x_G (x_si σ2 22 5 (Int32.ofNat (s + 1))) := hG1
      rw [x_feq, e49_64, x_k22 hG1, x_k22 hG1, g4, x_k22 hG2, x_k22 hG2, k4, k2, if_pos (Int32.not_le.mp (fun k => absurd ((x_le (by omega) (by omega)).mp k) (by omega))), x_k22 hG2, x_k22 hG2, x_q22_0 hG2, g23 hz h2 (by omega), x_ci_s, m53, x_ci_s, m54, x_ci_s, x_k22 hG2, x_k22 hG2, k5, x_s1, m55, x_ci_s, x_k22 hG3, x_k22 hG3, x_k22 hG2, x_k22 hG2]
      exact e
    by_cases c1 : z_let (C s) = true
    · rw [if_pos c1]
      obtain ⟨τ, e, g, q4, q5, q3⟩ := z_m50 d hz (Nat.le_refl s) (by omega) h2 k4 k5
      refine ⟨τ, pre _ (by rw [if_pos c1, if_neg one, e, x_cv_s]), f2.trans g, q4, q5, q3, fun e => ?_⟩
      exfalso
      have h := z_kw_c (z_wl C s (z_rn z_let C (z - s) s - s))
      have e' : z_kw (z_wl C s (z_rn z_let C (z - s) s - s)) = 302 := e
      omega
    · rw [if_neg c1]
      by_cases c2 : z_dig (C s) = true
      · rw [if_pos c2]
        obtain ⟨τ, e, g, q4, q5, q3, q6⟩ := z_m51 d hz (by omega) h2 k4 k5
        exact ⟨τ, pre _ (by rw [if_neg c1, if_pos rfl, if_pos c2, if_neg one, e, x_cv_s]), f2.trans g, q4, q5, q3, fun _ => q6⟩
      · rw [if_neg c2]
        have fin : ∀ v : Int32, ∀ k : Nat, v = Int32.ofNat k → k = (if z_pun (C s) = true then (C s).toNatClampNeg else 301) → k ≠ 302 → x_f (d + 2) 49 64 [some (.inr (.inr (some 22))), none] [] σ1 = some (none, x_si (x_si σ2 22 5 (Int32.ofNat (s + 1))) 22 3 v) → ∃ τ, x_f (d + 2) 49 64 [some (.inr (.inr (some 22))), none] [] σ1 = some (none, τ) ∧ x_fr z_lx x_w0 σ τ ∧ z_cur (s, s + 1, if z_pun (C s) = true then (C s).toNatClampNeg else 301, 0) τ := by
          intro v k e1 e2 e3 e4
          rw [← e2]
          refine ⟨_, e4, (f2.si _ ⟨rfl, by omega, by omega⟩).si _ ⟨rfl, by omega, by omega⟩, (x_Isi _ _ _ _ _ _).trans ((if_neg (by omega)).trans ((x_Isi _ _ _ _ _ _).trans ((if_neg (by omega)).trans k4))), (x_Isi _ _ _ _ _ _).trans ((if_neg (by omega)).trans ((x_Isi _ _ _ _ _ _).trans (if_pos ⟨rfl, rfl⟩))), ((x_Isi _ _ _ _ _ _).trans (if_pos ⟨rfl, rfl⟩)).trans e1, fun e => absurd e e3⟩
        by_cases c3 : z_pun (C s) = true
        · have pn := z_pn c3
          refine fin (C s) (C s).toNatClampNeg pn.symm (by rw [if_pos c3]) ?_ (pre _ (by rw [if_neg c1, if_pos rfl, if_neg c2, if_pos rfl, if_pos c3, if_neg one]))
          intro e
          rw [e] at pn
          rw [← pn] at c3
          exact absurd c3 (by decide)
        · exact fin 301 301 rfl (by rw [if_neg c3]) (by decide) (pre _ (by rw [if_neg c1, if_pos rfl, if_neg c2, if_pos rfl, if_neg c3, if_pos rfl]))
