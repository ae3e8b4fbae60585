/-! the reference's token -/
def z_rk (k : Nat) : Int32 := if k = 300 then 0 else if k = 301 then -1 else if k = 302 then 1 else if k = 313 then 4 else if k = 314 then 5 else if k = 315 then 6 else if 320 ≤ k then 2 else if 310 ≤ k then 3 else Int32.ofNat k
def z_rcur (t : Nat × (Nat × (Nat × Int32))) (σ : xS) : Prop := x_I σ 78 26 = Int32.ofNat t.2.1 ∧ x_I σ 78 27 = Int32.ofNat t.1 ∧ x_I σ 78 28 = z_rk t.2.2.1 ∧ (t.2.2.1 = 302 → x_I σ 78 29 = t.2.2.2) ∧ (310 ≤ t.2.2.1 → t.2.2.1 ≤ 312 → x_I σ 78 29 = Int32.ofNat (t.2.2.1 - 310)) ∧ (320 ≤ t.2.2.1 → x_I σ 78 29 = Int32.ofNat (t.2.2.1 - 320))
theorem z_l141 (d : Nat) {z : Nat} {C : Nat → Int32} (hz : z ≤ 160) : ∀ q p σ, p + q = z → z_tpr z C σ → x_I σ 78 26 = Int32.ofNat p → ∃ τ, x_f (d + 1) 141 0 [some (.inr (.inr (some 78))), none, none] [] σ = x_f (d + 1) 141 52 [some (.inr (.inr (some 78))), none, none] [] τ ∧ x_fr (fun b u => b = 78 ∧ u = 26) x_w0 σ τ ∧ x_I τ 78 26 = Int32.ofNat (z_rn z_spc C q p)
  | 0, p, σ, hp, h, h4 => by
    obtain ⟨hG, a1, a9, -⟩ := id h
    refine ⟨σ, ?_, x_fr.refl _ _ _, h4⟩
    rw [x_feq, e141_0, x_k78 hG, x_k78 hG, a9, h4, if_pos ((x_le (by omega) (by omega)).mpr (by omega))]
  | q + 1, p, σ, hp, h, h4 => by
    obtain ⟨hG, a1, a9, -⟩ := id h
    have nle : ¬ Int32.ofNat z ≤ Int32.ofNat p := fun g => absurd ((x_le (by omega) (by omega)).mp g) (by omega)
    have us : z_rn z_spc C (q + 1) p = if z_spc (C p) = true then z_rn z_spc C q (p + 1) else p := rfl
    rw [us]
    have f1 : x_fr (fun b u => b = 78 ∧ u = 26) x_w0 σ (x_si σ 78 26 (Int32.ofNat (p + 1))) := (x_fr.refl _ _ σ).si _ ⟨rfl, rfl⟩
    obtain ⟨τ, a, f, g⟩ := z_l141 d hz q (p + 1) (x_si σ 78 26 (Int32.ofNat (p + 1))) (by omega) (h.fr f1 (by omega) (by omega) (fun u => by omega)) ((x_Isi _ _ _ _ _ _).trans (if_pos ⟨rfl, rfl⟩))
    have r0 : x_f (d + 1) 141 0 [some (.inr (.inr (some 78))), none, none] [] σ = if C p = 32 then x_f (d + 1) 141 0 [some (.inr (.inr (some 78))), none, none] [] (x_si σ 78 26 (Int32.ofNat (p + 1))) else if C p = 10 then x_f (d + 1) 141 0 [some (.inr (.inr (some 78))), none, none] [] (x_si σ 78 26 (Int32.ofNat (p + 1))) else x_f (d + 1) 141 52 [some (.inr (.inr (some 78))), none, none] [] σ := by
      rw [x_feq, e141_0, x_k78 hG, x_k78 hG, a9, h4, if_neg nle, x_k78 hG, x_k78 hG, x_q78_8 hG, x_der_s, x_k82 hG, x_ixk (by omega) (by omega), x_tn (by omega), (h.2.2.2.1 p (by omega)).2, x_k78 hG, x_k78 hG, x_k78 hG, x_k78 hG, x_der_s, x_k82 hG, x_ixk (by omega) (by omega), (h.2.2.2.1 p (by omega)).2, x_s1]
    rw [r0]
    unfold z_spc
    by_cases c1 : C p = 32
    · rw [if_pos c1, decide_eq_true c1]
      exact ⟨τ, a, f1.trans f, g⟩
    · by_cases c2 : C p = 10
      · rw [if_neg c1, if_pos c2, decide_eq_false c1, decide_eq_true c2]
        exact ⟨τ, a, f1.trans f, g⟩
      · rw [if_neg c1, if_neg c2, decide_eq_false c1, decide_eq_false c2]
        exact ⟨σ, rfl, x_fr.refl _ _ _, h4⟩
theorem z_133l (d : Nat) (c : Int32) (σ : xS) : x_run (d + 1) 133 [.inl c, .inl 97, .inl 122] σ = some (some (.inl (if z_let c = true then 1 else 0)), σ) := by
  rw [m133]
  unfold z_let
  by_cases h : 97 ≤ c ∧ c ≤ 122
  · rw [x_b1_1 h, decide_eq_true h.1, decide_eq_true h.2]; rfl
  · rw [x_b1_0 h]
    by_cases h1 : 97 ≤ c
    · rw [decide_eq_false (fun g => h ⟨h1, g⟩), Bool.and_false]; rfl
    · rw [decide_eq_false h1]; rfl
theorem z_133d (d : Nat) (c : Int32) (σ : xS) : x_run (d + 1) 133 [.inl c, .inl 48, .inl 57] σ = some (some (.inl (if z_dig c = true then 1 else 0)), σ) := by
  rw [m133]
  unfold z_dig
  by_cases h : 48 ≤ c ∧ c ≤ 57
  · rw [x_b1_1 h, decide_eq_true h.1, decide_eq_true h.2]; rfl
  · rw [x_b1_0 h]
    by_cases h1 : 48 ≤ c
    · rw [decide_eq_false (fun g => h ⟨h1, g⟩), Bool.and_false]; rfl
    · rw [decide_eq_false h1]; rfl
theorem z_l103 (d : Nat) {z : Nat} {C : Nat → Int32} (hz : z ≤ 160) : ∀ q p σ, p + q = z → z_tpr z C σ → x_I σ 78 26 = Int32.ofNat p → ∃ τ, x_f (d + 1) 141 103 [some (.inr (.inr (some 78))), none, none] [] σ = x_f (d + 1) 141 146 [some (.inr (.inr (some 78))), none, none] [] τ ∧ x_fr (fun b u => b = 78 ∧ u = 26) x_w0 σ τ ∧ x_I τ 78 26 = Int32.ofNat (z_rn z_let C q p)
  | 0, p, σ, hp, h, h4 => by
    obtain ⟨hG, a1, a9, -⟩ := id h
    refine ⟨σ, ?_, x_fr.refl _ _ _, h4⟩
    rw [x_feq, e141_103, x_k78 hG, x_k78 hG, a9, h4, if_pos ((x_le (by omega) (by omega)).mpr (by omega))]
  | q + 1, p, σ, hp, h, h4 => by
    obtain ⟨hG, a1, a9, -⟩ := id h
    have nle : ¬ Int32.ofNat z ≤ Int32.ofNat p := fun g => absurd ((x_le (by omega) (by omega)).mp g) (by omega)
    have us : z_rn z_let C (q + 1) p = if z_let (C p) = true then z_rn z_let C q (p + 1) else p := rfl
    rw [us]
    have one : ¬ (1 : Int32) = 0 := by decide
    by_cases c : z_let (C p) = true
    · have f1 : x_fr (fun b u => b = 78 ∧ u = 26) x_w0 σ (x_si σ 78 26 (Int32.ofNat (p + 1))) := (x_fr.refl _ _ σ).si _ ⟨rfl, rfl⟩
      obtain ⟨τ, a, f, g⟩ := z_l103 d hz q (p + 1) (x_si σ 78 26 (Int32.ofNat (p + 1))) (by omega) (h.fr f1 (by omega) (by omega) (fun u => by omega)) ((x_Isi _ _ _ _ _ _).trans (if_pos ⟨rfl, rfl⟩))
      refine ⟨τ, ?_, f1.trans f, by rw [if_pos c]; exact g⟩
      refine Eq.trans ?_ a
      rw [x_feq, e141_103, x_k78 hG, x_k78 hG, a9, h4, if_neg nle, x_k78 hG, x_k78 hG, x_q78_8 hG, x_der_s, x_k82 hG, x_ixk (by omega) (by omega), x_tn (by omega), (h.2.2.2.1 p (by omega)).2, z_133l, x_ci_s, if_pos c, if_neg one, x_k78 hG, x_k78 hG, h4, x_s1]
    · refine ⟨σ, ?_, x_fr.refl _ _ _, by rw [if_neg c]; exact h4⟩
      rw [x_feq, e141_103, x_k78 hG, x_k78 hG, a9, h4, if_neg nle, x_k78 hG, x_k78 hG, x_q78_8 hG, x_der_s, x_k82 hG, x_ixk (by omega) (by omega), x_tn (by omega), (h.2.2.2.1 p (by omega)).2, z_133l, x_ci_s, if_neg c, if_pos rfl]
theorem z_l230 (d : Nat) {z : Nat} {C : Nat → Int32} (hz : z ≤ 160) : ∀ q p i v σ, p + q = z → i ≤ p → z_tpr z C σ → x_I σ 78 26 = Int32.ofNat p → (i ≤ 4 → x_I σ 78 29 = v) → ∃ τ, x_f (d + 1) 141 230 [some (.inr (.inr (some 78))), none, some (.inl (Int32.ofNat i))] [] σ = some (none, τ) ∧ x_fr (fun b u => b = 78 ∧ (u = 26 ∨ u = 28 ∨ u = 29)) x_w0 σ τ ∧ x_I τ 78 26 = Int32.ofNat (z_rn z_dig C q p) ∧ x_I τ 78 28 = (if i + (z_rn z_dig C q p - p) ≤ 4 then 1 else -1) ∧ (i + (z_rn z_dig C q p - p) ≤ 4 → x_I τ 78 29 = z_nu C (z_rn z_dig C q p - p) p v) := by
  have stop : ∀ p i v σ, p ≤ z → i ≤ p → x_G σ → x_I σ 78 26 = Int32.ofNat p → (i ≤ 4 → x_I σ 78 29 = v) → ∀ X : Option xR, X = (if Int32.ofNat i ≤ 4 then (some (none, x_si σ 78 28 1)) else (some (none, x_si σ 78 28 (-1)))) → ∃ τ, X = some (none, τ) ∧ x_fr (fun b u => b = 78 ∧ (u = 26 ∨ u = 28 ∨ u = 29)) x_w0 σ τ ∧ x_I τ 78 26 = Int32.ofNat p ∧ x_I τ 78 28 = (if i + (p - p) ≤ 4 then 1 else -1) ∧ (i + (p - p) ≤ 4 → x_I τ 78 29 = z_nu C (p - p) p v) := by
    intro p i v σ hp hi hG h26 h29 X hX
    rw [Nat.sub_self, Nat.add_zero]
    by_cases c : i ≤ 4
    · rw [if_pos (show Int32.ofNat i ≤ 4 from (x_le (b := 4) (by omega) (by omega)).mpr c)] at hX
      exact ⟨_, hX, (x_fr.refl _ _ σ).si _ ⟨rfl, by omega⟩, ((x_Isi _ _ _ _ _ _).trans (if_neg (by omega))).trans h26, by rw [if_pos c]; exact (x_Isi _ _ _ _ _ _).trans (if_pos ⟨rfl, rfl⟩), fun _ => ((x_Isi _ _ _ _ _ _).trans (if_neg (by omega))).trans (h29 c)⟩
    · rw [if_neg (show ¬ Int32.ofNat i ≤ 4 from fun g => c ((x_le (b := 4) (by omega) (by omega)).mp g))] at hX
      exact ⟨_, hX, (x_fr.refl _ _ σ).si _ ⟨rfl, by omega⟩, ((x_Isi _ _ _ _ _ _).trans (if_neg (by omega))).trans h26, by rw [if_neg c]; exact (x_Isi _ _ _ _ _ _).trans (if_pos ⟨rfl, rfl⟩), fun g => absurd g c⟩
  intro q
  induction q with
  | zero =>
    intro p i v σ hp hi h h26 h29
    obtain ⟨hG, a1, a9, -⟩ := id h
    refine stop p i v σ (by omega) hi hG h26 h29 _ ?_
    rw [x_feq, e141_230, x_k78 hG, x_k78 hG, a9, h26, if_pos ((x_le (by omega) (by omega)).mpr (by omega)), x_k78 hG, x_k78 hG]
  | succ q ih =>
    intro p i v σ hp hi h h26 h29
    obtain ⟨hG, a1, a9, -⟩ := id h
    have nle : ¬ Int32.ofNat z ≤ Int32.ofNat p := fun g => absurd ((x_le (by omega) (by omega)).mp g) (by omega)
    have us : z_rn z_dig C (q + 1) p = if z_dig (C p) = true then z_rn z_dig C q (p + 1) else p := rfl
    rw [us]
    have one : ¬ (1 : Int32) = 0 := by decide
    by_cases c : z_dig (C p) = true
    · rw [if_pos c]
      have b := z_rn_b z_dig C q (p + 1)
      by_cases c4 : 4 ≤ i
      · let σ2 := x_si (x_si σ 78 29 0) 78 26 (Int32.ofNat (p + 1))
        have hG1 : x_G (x_si σ 78 29 0) := hG
        have f1 : x_fr (fun b u => b = 78 ∧ (u = 26 ∨ u = 28 ∨ u = 29)) x_w0 σ σ2 := ((x_fr.refl _ _ σ).si _ ⟨rfl, by omega⟩).si _ ⟨rfl, by omega⟩
        obtain ⟨τ, a, f, g1, g2, g3⟩ := ih (p + 1) (i + 1) v σ2 (by omega) (by omega) (h.fr f1 (by omega) (by omega) (fun u => by omega)) ((x_Isi _ _ _ _ _ _).trans (if_pos ⟨rfl, rfl⟩)) (fun g => absurd g (by omega))
        refine ⟨τ, ?_, f1.trans f, g1, ?_, fun g => absurd g (by omega)⟩
        · refine Eq.trans ?_ a
          rw [x_feq, e141_230, x_k78 hG, x_k78 hG, a9, h26, if_neg nle, x_k78 hG, x_k78 hG, x_q78_8 hG, x_der_s, x_k82 hG, x_ixk (by omega) (by omega), x_tn (by omega), (h.2.2.2.1 p (by omega)).2, z_133d, x_ci_s, if_pos c, if_neg one, if_pos (show (4 : Int32) ≤ Int32.ofNat i from (x_le (a := 4) (by omega) (by omega)).mpr c4), x_k78 hG, x_k78 hG1, x_k78 hG1, x_Isi, if_neg (by omega), h26, x_s1, x_s1]
        · rw [g2, if_neg (by omega), if_neg (by omega)]
      · let σ2 := x_si (x_si σ 78 29 (v * 10 + C p - 48)) 78 26 (Int32.ofNat (p + 1))
        have hG1 : x_G (x_si σ 78 29 (v * 10 + C p - 48)) := hG
        have f1 : x_fr (fun b u => b = 78 ∧ (u = 26 ∨ u = 28 ∨ u = 29)) x_w0 σ σ2 := ((x_fr.refl _ _ σ).si _ ⟨rfl, by omega⟩).si _ ⟨rfl, by omega⟩
        obtain ⟨τ, a, f, g1, g2, g3⟩ := ih (p + 1) (i + 1) (v * 10 + C p - 48) σ2 (by omega) (by omega) (h.fr f1 (by omega) (by omega) (fun u => by omega)) ((x_Isi _ _ _ _ _ _).trans (if_pos ⟨rfl, rfl⟩)) (fun _ => (x_Isi _ _ _ _ _ _).trans ((if_neg (by omega)).trans ((x_Isi _ _ _ _ _ _).trans (if_pos ⟨rfl, rfl⟩))))
        have es : i + (z_rn z_dig C q (p + 1) - p) = i + 1 + (z_rn z_dig C q (p + 1) - (p + 1)) := by omega
        refine ⟨τ, ?_, f1.trans f, g1, by rw [es]; exact g2, ?_⟩
        · refine Eq.trans ?_ a
          rw [x_feq, e141_230, x_k78 hG, x_k78 hG, a9, h26, if_neg nle, x_k78 hG, x_k78 hG, x_q78_8 hG, x_der_s, x_k82 hG, x_ixk (by omega) (by omega), x_tn (by omega), (h.2.2.2.1 p (by omega)).2, z_133d, x_ci_s, if_pos c, if_neg one, if_neg (show ¬ (4 : Int32) ≤ Int32.ofNat i from fun g => c4 ((x_le (a := 4) (by omega) (by omega)).mp g)), x_k78 hG, x_k78 hG, x_k78 hG, x_q78_8 hG, x_der_s, x_k82 hG, h26, x_ixk (by omega) (by omega), x_tn (by omega), (h.2.2.2.1 p (by omega)).2, x_k78 hG, h29 (by omega), Int32.mul_comm 10, x_k78 hG1, x_k78 hG1, x_Isi, if_neg (by omega), h26, x_s1, x_s1]
        · intro g
          rw [g3 (by omega), show z_rn z_dig C q (p + 1) - p = (z_rn z_dig C q (p + 1) - (p + 1)) + 1 by omega]
          rfl
    · rw [if_neg c]
      refine stop p i v σ (by omega) hi hG h26 h29 _ ?_
      rw [x_feq, e141_230, x_k78 hG, x_k78 hG, a9, h26, if_neg nle, x_k78 hG, x_k78 hG, x_q78_8 hG, x_der_s, x_k82 hG, x_ixk (by omega) (by omega), x_tn (by omega), (h.2.2.2.1 p (by omega)).2, z_133d, x_ci_s, if_neg c, if_pos rfl, x_k78 hG, x_k78 hG]
theorem z_rn_all (f : Int32 → Bool) (C : Nat → Int32) : ∀ q p k, p ≤ k → k < z_rn f C q p → f (C k) = true
  | 0, p, k, h1, h2 => by
    have : z_rn f C 0 p = p := rfl
    omega
  | q + 1, p, k, h1, h2 => by
    have us : z_rn f C (q + 1) p = if f (C p) = true then z_rn f C q (p + 1) else p := rfl
    rw [us] at h2
    by_cases c : f (C p) = true
    · rw [if_pos c] at h2
      by_cases e : k = p
      · rw [e]; exact c
      · exact z_rn_all f C q (p + 1) k (by omega) h2
    · rw [if_neg c] at h2
      omega
theorem z_m141 (d : Nat) {z : Nat} {C : Nat → Int32} (hz : z ≤ 160) {p : Nat} (hp : p ≤ z) {σ : xS} (h : z_tpr z C σ) (h26 : x_I σ 78 26 = Int32.ofNat p) : ∃ τ, x_run (d + 3) 141 [.inr (.inr (some 78))] σ = some (none, τ) ∧ x_fr z_lr x_w0 σ τ ∧ z_rcur (z_tok C z p) τ := by
  obtain ⟨σ1, a, f, g26⟩ := z_l141 (d + 1) hz (z - p) p σ (by omega) h h26
  have b := z_rn_b z_spc C (z - p) p
  have st : x_run (d + 3) 141 [.inr (.inr (some 78))] σ = x_f (d + 2) 141 52 [some (.inr (.inr (some 78))), none, none] [] σ1 := by
    rw [r141, ← x_feq]
    exact a
  have f' : x_fr z_lr x_w0 σ σ1 := f.mono (fun b u h => ⟨h.1, by omega, by omega⟩) (fun _ _ h => h)
  rw [st]
  unfold z_tok
  generalize z_rn z_spc C (z - p) p = s at *
  have h1 : z_tpr z C σ1 := h.lr f'
  have hG1 := h1.1
  let σa := x_si σ1 78 27 (Int32.ofNat s)
  let σb := x_si σa 78 28 0
  let σ2 := x_si σb 78 29 0
  have hGa : x_G σa := hG1
  have hGb : x_G σb := hG1
  have hG2 : x_G σ2 := hG1
  have f2 : x_fr z_lr x_w0 σ σ2 := ((f'.si _ ⟨rfl, by omega, by omega⟩).si _ ⟨rfl, by omega, by omega⟩).si _ ⟨rfl, by omega, by omega⟩
  have h2 : z_tpr z C σ2 := h.lr f2
  have k26 : x_I σ2 78 26 = Int32.ofNat s := (x_Isi _ _ _ _ _ _).trans ((if_neg (by omega)).trans ((x_Isi _ _ _ _ _ _).trans ((if_neg (by omega)).trans ((x_Isi _ _ _ _ _ _).trans ((if_neg (by omega)).trans g26)))))
  have k27 : x_I σ2 78 27 = Int32.ofNat s := (x_Isi _ _ _ _ _ _).trans ((if_neg (by omega)).trans ((x_Isi _ _ _ _ _ _).trans ((if_neg (by omega)).trans ((x_Isi _ _ _ _ _ _).trans (if_pos ⟨rfl, rfl⟩)))))
  have k28 : x_I σ2 78 28 = 0 := (x_Isi _ _ _ _ _ _).trans ((if_neg (by omega)).trans ((x_Isi _ _ _ _ _ _).trans (if_pos ⟨rfl, rfl⟩)))
  have k29 : x_I σ2 78 29 = 0 := (x_Isi _ _ _ _ _ _).trans (if_pos ⟨rfl, rfl⟩)
  have k9 : x_I σ2 78 9 = Int32.ofNat z := h2.2.2.1
  have one : ¬ (1 : Int32) = 0 := by decide
  by_cases c0 : s = z
  · rw [if_pos c0]
    refine ⟨σ2, ?_, f2, k26, k27, k28, fun e => absurd e (by show ¬ (300 = 302); decide), fun e => absurd e (by show ¬ (310 ≤ 300); decide), fun e => absurd e (by show ¬ (320 ≤ 300); decide)⟩
    rw [x_feq, e141_52, x_k78 hG1, x_k78 hG1, g26, x_k78 hGa, x_k78 hGb, x_k78 hG2, x_k78 hG2, k26, k9, if_pos (by rw [c0])]
  · rw [if_neg c0]
    have nz : ¬ Int32.ofNat s = Int32.ofNat z := fun g => c0 (x_inj32 (by omega) (by omega) g)
    have pre : ∀ R, (if (if z_let (C s) = true then (1 : Int32) else 0) = 0 then (if (if z_dig (C s) = true then (1 : Int32) else 0) = 0 then x_f (d + 2) 141 379 [some (.inr (.inr (some 78))), some (.inl (C s)), none] [.inl (if z_pun (C s) = true then 1 else 0)] σ2 else x_f (d + 2) 141 230 [some (.inr (.inr (some 78))), none, some (.inl 0)] [] σ2) else x_f (d + 2) 141 103 [some (.inr (.inr (some 78))), none, none] [] σ2) = R → x_f (d + 2) 141 52 [some (.inr (.inr (some 78))), none, none] [] σ1 = R := by
      intro R e
      have pn : ∀ A B : Option xR, (if C s = 40 then A else if C s = 41 then A else if C s = 59 then A else if C s = 43 then A else if C s = 45 then A else if C s = 42 then A else if C s = 60 then A else if C s = 61 then A else B) = if z_pun (C s) = true then A else B := by
        intro A B
        unfold z_pun
        by_cases e1 : C s = 40
        · rw [if_pos e1, decide_eq_true e1]; rfl
        rw [if_neg e1, decide_eq_false e1]
        by_cases e1 : C s = 41
        · rw [if_pos e1, decide_eq_true e1]; rfl
        rw [if_neg e1, decide_eq_false e1]
        by_cases e1 : C s = 59
        · rw [if_pos e1, decide_eq_true e1]; rfl
        rw [if_neg e1, decide_eq_false e1]
        by_cases e1 : C s = 43
        · rw [if_pos e1, decide_eq_true e1]; rfl
        rw [if_neg e1, decide_eq_false e1]
        by_cases e1 : C s = 45
        · rw [if_pos e1, decide_eq_true e1]; rfl
        rw [if_neg e1, decide_eq_false e1]
        by_cases e1 : C s = 42
        · rw [if_pos e1, decide_eq_true e1]; rfl
        rw [if_neg e1, decide_eq_false e1]
        by_cases e1 : C s = 60
        · rw [if_pos e1, decide_eq_true e1]; rfl
        rw [if_neg e1, decide_eq_false e1]
        by_cases e1 : C s = 61
        · rw [if_pos e1, decide_eq_true e1]; rfl
        rw [if_neg e1, decide_eq_false e1]
        rfl
      rw [x_feq, e141_52, x_k78 hG1, x_k78 hG1, g26, x_k78 hGa, x_k78 hGb, x_k78 hG2, x_k78 hG2, k26, k9, if_neg nz, x_k78 hG2, x_k78 hG2, x_q78_8 hG2, x_der_s, x_k82 hG2, x_ixk (by omega) (by omega), x_tn (by omega), (h2.2.2.2.1 s (by omega)).2, z_133l, x_ci_s, z_133d, x_ci_s, pn]
      by_cases c3 : z_pun (C s) = true
      · simp only [if_pos c3] at e ⊢
        exact e
      · simp only [if_neg c3] at e ⊢
        exact e
    by_cases c1 : z_let (C s) = true
    · rw [if_pos c1]
      obtain ⟨σ3, e, g, q26⟩ := z_l103 (d + 1) hz (z - s) s σ2 (by omega) h2 k26
      have be := z_rn_b z_let C (z - s) s
      have al := z_rn_all z_let C (z - s) s
      generalize z_rn z_let C (z - s) s = en at *
      have g' : x_fr z_lr x_w0 σ2 σ3 := g.mono (fun b u h => ⟨h.1, by omega, by omega⟩) (fun _ _ h => h)
      have h3 := h2.lr g'
      have hG3 := h3.1
      have q27 : x_I σ3 78 27 = Int32.ofNat s := (g.I (by omega)).trans k27
      have mm := z_m140 (d + 1) hz h3 (s := s) (e := en) (by omega) (by omega) (fun k hk => al (s + k) (by omega) (by omega))
      have kc := z_kw_c (z_wl C s (en - s))
      generalize z_kw (z_wl C s (en - s)) = K at *
      have fin : ∀ (v28 v29 : Int32), x_f (d + 2) 141 146 [some (.inr (.inr (some 78))), none, none] [] σ3 = some (none, x_si (x_si σ3 78 28 v28) 78 29 v29) → v28 = z_rk K → (310 ≤ K → K ≤ 312 → v29 = Int32.ofNat (K - 310)) → (320 ≤ K → v29 = Int32.ofNat (K - 320)) → ∃ τ, x_f (d + 2) 141 52 [some (.inr (.inr (some 78))), none, none] [] σ1 = some (none, τ) ∧ x_fr z_lr x_w0 σ τ ∧ z_rcur (s, en, K, 0) τ := by
        intro v28 v29 r1 r2 r3 r4
        have t29 : x_I (x_si (x_si σ3 78 28 v28) 78 29 v29) 78 29 = v29 := (x_Isi _ _ _ _ _ _).trans (if_pos ⟨rfl, rfl⟩)
        refine ⟨_, pre _ (by rw [if_pos c1, if_neg one]; exact e.trans r1), ((f2.trans g').si _ ⟨rfl, by omega, by omega⟩).si _ ⟨rfl, by omega, by omega⟩, (x_Isi _ _ _ _ _ _).trans ((if_neg (by omega)).trans ((x_Isi _ _ _ _ _ _).trans ((if_neg (by omega)).trans q26))), (x_Isi _ _ _ _ _ _).trans ((if_neg (by omega)).trans ((x_Isi _ _ _ _ _ _).trans ((if_neg (by omega)).trans q27))), (x_Isi _ _ _ _ _ _).trans ((if_neg (by omega)).trans (((x_Isi _ _ _ _ _ _).trans (if_pos ⟨rfl, rfl⟩)).trans r2)), fun e => ?_, fun e1 e2 => t29.trans (r3 e1 e2), fun e1 => t29.trans (r4 e1)⟩
        have e' : K = 302 := e
        omega
      have run : ∀ i, z_ix K = i → i ≤ 12 → x_f (d + 2) 141 146 [some (.inr (.inr (some 78))), none, none] [] σ3 = if 3 ≤ i then (if 9 ≤ i then (if i = 12 then some (none, x_si (x_si σ3 78 28 (-1)) 78 29 (Int32.ofNat i - 3)) else some (none, x_si (x_si σ3 78 28 (4 + Int32.ofNat i - 9)) 78 29 (Int32.ofNat i - 3))) else some (none, x_si (x_si σ3 78 28 2) 78 29 (Int32.ofNat i - 3))) else some (none, x_si (x_si σ3 78 28 3) 78 29 (Int32.ofNat i)) := by
        intro i ei hi
        rw [x_feq, e141_146, x_k78 hG3, x_k78 hG3, x_k78 hG3, q27, q26, mm, x_ci_s, ei]
        by_cases i3 : 3 ≤ i
        · have l3 : (3 : Int32) ≤ Int32.ofNat i := (x_le (a := 3) (by omega) (by omega)).mpr i3
          rw [if_pos l3, if_pos i3]
          by_cases i9 : 9 ≤ i
          · rw [if_pos (show (9 : Int32) ≤ Int32.ofNat i from (x_le (a := 9) (by omega) (by omega)).mpr i9), if_pos i9]
            by_cases i12 : i = 12
            · subst i12
              rw [if_pos (by decide), if_pos rfl, x_feq, e141_195, x_der_s, x_k78 hG3, if_pos l3, x_k78 (σ := x_si σ3 78 28 (-1)) hG3]
            · rw [if_neg (show ¬ Int32.ofNat i = 12 from fun g => i12 (x_inj32 (b := 12) (by omega) (by omega) g)), if_neg i12, x_feq, e141_195, x_der_s, x_k78 hG3, if_pos l3, x_k78 (σ := x_si σ3 78 28 (4 + Int32.ofNat i - 9)) hG3]
          · rw [if_neg (show ¬ (9 : Int32) ≤ Int32.ofNat i from fun g => i9 ((x_le (a := 9) (by omega) (by omega)).mp g)), if_neg i9, x_feq, e141_195, x_der_s, x_k78 hG3, if_pos l3, x_k78 (σ := x_si σ3 78 28 2) hG3]
        · have l3 : ¬ (3 : Int32) ≤ Int32.ofNat i := fun g => i3 ((x_le (a := 3) (by omega) (by omega)).mp g)
          rw [if_neg l3, if_neg i3, x_feq, e141_195, x_der_s, x_k78 hG3, if_neg l3, x_k78 (σ := x_si σ3 78 28 3) hG3]
      rcases (show K = 301 ∨ K = 310 ∨ K = 311 ∨ K = 312 ∨ K = 313 ∨ K = 314 ∨ K = 315 ∨ K = 320 ∨ K = 321 ∨ K = 322 ∨ K = 323 ∨ K = 324 ∨ K = 325 by omega) with rfl | rfl | rfl | rfl | rfl | rfl | rfl | rfl | rfl | rfl | rfl | rfl | rfl
      · exact fin (-1) _ (run 12 rfl (by omega)) rfl (fun e => absurd e (by omega)) (fun e => absurd e (by omega))
      · exact fin 3 _ (run 0 rfl (by omega)) rfl (fun _ _ => rfl) (fun e => absurd e (by omega))
      · exact fin 3 _ (run 1 rfl (by omega)) rfl (fun _ _ => rfl) (fun e => absurd e (by omega))
      · exact fin 3 _ (run 2 rfl (by omega)) rfl (fun _ _ => rfl) (fun e => absurd e (by omega))
      · exact fin 4 _ (run 9 rfl (by omega)) rfl (fun _ e => absurd e (by omega)) (fun e => absurd e (by omega))
      · exact fin 5 _ (run 10 rfl (by omega)) rfl (fun _ e => absurd e (by omega)) (fun e => absurd e (by omega))
      · exact fin 6 _ (run 11 rfl (by omega)) rfl (fun _ e => absurd e (by omega)) (fun e => absurd e (by omega))
      · exact fin 2 _ (run 3 rfl (by omega)) rfl (fun _ e => absurd e (by omega)) (fun _ => rfl)
      · exact fin 2 _ (run 4 rfl (by omega)) rfl (fun _ e => absurd e (by omega)) (fun _ => rfl)
      · exact fin 2 _ (run 5 rfl (by omega)) rfl (fun _ e => absurd e (by omega)) (fun _ => rfl)
      · exact fin 2 _ (run 6 rfl (by omega)) rfl (fun _ e => absurd e (by omega)) (fun _ => rfl)
      · exact fin 2 _ (run 7 rfl (by omega)) rfl (fun _ e => absurd e (by omega)) (fun _ => rfl)
      · exact fin 2 _ (run 8 rfl (by omega)) rfl (fun _ e => absurd e (by omega)) (fun _ => rfl)
    · rw [if_neg c1]
      by_cases c2 : z_dig (C s) = true
      · rw [if_pos c2]
        obtain ⟨τ, e, g, q1, q2, q3⟩ := z_l230 (d + 1) hz (z - s) s 0 0 σ2 (by omega) (by omega) h2 k26 (fun _ => k29)
        generalize z_rn z_dig C (z - s) s = en at *
        rw [Nat.zero_add] at q2 q3
        refine ⟨τ, pre _ (by rw [if_neg c1, if_pos rfl, if_pos c2, if_neg one]; exact e), f2.trans (g.mono (fun b u h => ⟨h.1, by omega, by omega⟩) (fun _ _ h => h)), q1, (g.I (by omega)).trans k27, ?_, fun e => ?_, fun e1 e2 => ?_, fun e1 => ?_⟩
        · show _ = z_rk (if en - s ≤ 4 then 302 else 301)
          rw [q2]
          split <;> rfl
        · have e' : (if en - s ≤ 4 then 302 else 301) = 302 := e
          refine q3 ?_
          by_cases c : en - s ≤ 4
          · exact c
          · rw [if_neg c] at e'; omega
        · have e' : 310 ≤ (if en - s ≤ 4 then 302 else 301) := e1
          split at e' <;> omega
        · have e' : 320 ≤ (if en - s ≤ 4 then 302 else 301) := e1
          split at e' <;> omega
      · rw [if_neg c2]
        have fin : ∀ v : Int32, ∀ k : Nat, v = z_rk k → k = (if z_pun (C s) = true then (C s).toNatClampNeg else 301) → (k = 301 ∨ k < 100) → x_f (d + 2) 141 379 [some (.inr (.inr (some 78))), some (.inl (C s)), none] [.inl (if z_pun (C s) = true then 1 else 0)] σ2 = some (none, x_si (x_si σ2 78 28 v) 78 26 (Int32.ofNat (s + 1))) → ∃ τ, x_f (d + 2) 141 52 [some (.inr (.inr (some 78))), none, none] [] σ1 = some (none, τ) ∧ x_fr z_lr x_w0 σ τ ∧ z_rcur (s, s + 1, if z_pun (C s) = true then (C s).toNatClampNeg else 301, 0) τ := by
          intro v k e1 e2 e3 e4
          rw [← e2]
          refine ⟨_, pre _ (by rw [if_neg c1, if_pos rfl, if_neg c2, if_pos rfl]; exact e4), (f2.si _ ⟨rfl, by omega, by omega⟩).si _ ⟨rfl, by omega, by omega⟩, (x_Isi _ _ _ _ _ _).trans (if_pos ⟨rfl, rfl⟩), (x_Isi _ _ _ _ _ _).trans ((if_neg (by omega)).trans ((x_Isi _ _ _ _ _ _).trans ((if_neg (by omega)).trans k27))), (x_Isi _ _ _ _ _ _).trans ((if_neg (by omega)).trans (((x_Isi _ _ _ _ _ _).trans (if_pos ⟨rfl, rfl⟩)).trans e1)), fun e => ?_, fun e => ?_, fun e => ?_⟩
          · have e' : k = 302 := e
            omega
          · have e' : 310 ≤ k := e
            omega
          · have e' : 320 ≤ k := e
            omega
        by_cases c3 : z_pun (C s) = true
        · have pn := z_pn c3
          have pk : (C s).toNatClampNeg < 100 ∧ C s = z_rk (C s).toNatClampNeg := by
            unfold z_pun at c3
            simp only [Bool.or_eq_true, decide_eq_true_eq] at c3
            rcases c3 with e | e | e | e | e | e | e | e <;> rw [e] <;> decide
          refine fin (C s) (C s).toNatClampNeg pk.2 (by rw [if_pos c3]) (Or.inr pk.1) ?_
          rw [if_pos c3, x_feq, e141_379, if_neg one, x_k78 hG2, x_k78 (σ := x_si σ2 78 28 (C s)) hG2, x_k78 (σ := x_si σ2 78 28 (C s)) hG2, x_Isi, if_neg (by omega), k26, x_s1]
        · refine fin (-1) 301 rfl (by rw [if_neg c3]) (Or.inl rfl) ?_
          rw [if_neg c3, x_feq, e141_379, if_pos rfl, x_k78 hG2, x_k78 (σ := x_si σ2 78 28 (-1)) hG2, x_k78 (σ := x_si σ2 78 28 (-1)) hG2, x_Isi, if_neg (by omega), k26, x_s1]
