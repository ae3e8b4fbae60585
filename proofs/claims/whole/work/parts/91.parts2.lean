/-! three parts: the whole of 40, the reference's 150 -/
theorem z_225 (d : Nat) {σ : xS} (hG : x_G σ) : x_run (d + 1) 225 [.inr (.inr (some 27)), .inl 0] σ = some (none, x_si (x_si (x_si σ 27 0 0) 27 1 0) 27 2 0) := by
  have k27 : ∀ {σ : xS} (K : Nat → Option xR), x_G σ → x_ak σ 27 11 K = K 3 := fun K h => x_k27 h K
  have h1 : x_G (x_si σ 27 0 0) := hG
  have h2 : x_G (x_si (x_si σ 27 0 0) 27 1 0) := hG
  rw [r225, e225_0, x_der_s, x_m27 hG, x_feq, e225_5, if_neg (by decide), x_der_s, k27 _ hG]
  show x_f d 225 5 [_, _, some (.inl (0 + 1)), _] [] (x_si σ 27 0 0) = _
  rw [x_feq, e225_5, if_neg (by decide), x_der_s, k27 _ h1]
  show x_f d 225 5 [_, _, some (.inl (0 + 1 + 1)), _] [] (x_si (x_si σ 27 0 0) 27 1 0) = _
  rw [x_feq, e225_5, if_neg (by decide), x_der_s, k27 _ h2]
  show x_f d 225 5 [_, _, some (.inl (0 + 1 + 1 + 1)), _] [] (x_si (x_si (x_si σ 27 0 0) 27 1 0) 27 2 0) = _
  rw [x_feq, e225_5, if_pos (by decide)]
theorem z_m40 (d : Nat) {C : Nat → Int32} {z : Nat} (hz : z ≤ 160) {σ : xS} (h : z_tpe z C σ) : ∃ τ p' r, z_E (z_tok C z) 0 0 [] p' r ∧ x_run (d + 41) 40 [.inr (.inr (some 22))] σ = some (some (.inl (if r = none then Int32.ofNat (z_tok C z p').1 else -1)), τ) ∧ x_fr z_cx x_w0 σ τ ∧ x_I τ 22 2 = 0 ∧ z_KR C z p' τ r := by
  have hG := h.1
  let σ1 := x_si σ 24 4 0
  have hG1 : x_G σ1 := hG
  let σ2 := x_si (x_si (x_si σ1 27 0 0) 27 1 0) 27 2 0
  have hG2 : x_G σ2 := hG
  let σ3 := x_si σ2 22 7 0
  have hG3 : x_G σ3 := hG
  let σ4 := x_si σ3 22 5 0
  have f4 : x_fr (fun b u => b = 27 ∨ (b = 24 ∧ u = 4) ∨ (b = 22 ∧ (u = 5 ∨ u = 7))) x_w0 σ σ4 := ((((((x_fr.refl _ _ σ).si _ (Or.inr (Or.inl ⟨rfl, rfl⟩))).si _ (Or.inl rfl)).si _ (Or.inl rfl)).si _ (Or.inl rfl)).si _ (Or.inr (Or.inr ⟨rfl, Or.inr rfl⟩))).si _ (Or.inr (Or.inr ⟨rfl, Or.inl rfl⟩))
  have h4 : z_tpe z C σ4 := h.fr f4 (by omega) (by omega) (fun u => by omega)
  have s5 : x_I σ4 22 5 = Int32.ofNat 0 := (x_Isi _ _ _ _ _ _).trans (if_pos ⟨rfl, rfl⟩)
  have s7 : x_I σ4 22 7 = Int32.ofNat 0 := (x_Isi _ _ _ _ _ _).trans ((if_neg (by omega)).trans ((x_Isi _ _ _ _ _ _).trans (if_pos ⟨rfl, rfl⟩)))
  have s4 : x_I σ4 24 4 = Int32.ofNat 0 := (x_Isi _ _ _ _ _ _).trans ((if_neg (by omega)).trans ((x_Isi _ _ _ _ _ _).trans ((if_neg (by omega)).trans ((x_Isi _ _ _ _ _ _).trans ((if_neg (by omega)).trans ((x_Isi _ _ _ _ _ _).trans ((if_neg (by omega)).trans ((x_Isi _ _ _ _ _ _).trans ((if_neg (by omega)).trans ((x_Isi _ _ _ _ _ _).trans (if_pos ⟨rfl, rfl⟩)))))))))))
  obtain ⟨σ5, e5, f5, g5⟩ := z_m49 (d + 37) hz (Nat.zero_le z) h4 s5
  have F : ∀ b u, ¬ (b = 22 ∧ 3 ≤ u ∧ u ≤ 6) → x_I σ5 b u = x_I σ4 b u := fun b u hu => f5.I (by unfold z_lx; omega)
  have cs : z_CS C z 0 ([] : List (List Int32)).flatten 0 0 σ5 := ⟨h4.lx f5, g5, (F _ _ (by omega)).trans s7, (F _ _ (by omega)).trans s4, fun j c hj => (by cases hj), Nat.le_refl _, Nat.zero_le _, hz, Nat.zero_le _⟩
  obtain ⟨τ, p', r, dd, e, f, g, kr⟩ := z_l40 d 3 0 0 [] σ5 (by omega) rfl cs (fun j hj => absurd hj (Nat.not_lt_zero j))
  refine ⟨τ, p', r, dd, ?_, ((f4.mono (W' := z_cx) (fun b u h => by unfold z_cx z_cw; omega) (fun _ _ h => h)).trans (f5.mono (fun b u h => Or.inl (Or.inl ⟨h.1, h.2.1, by have := h.2.2; omega⟩)) (fun _ _ h => h))).trans f, g, kr⟩
  have e57 : x_run (d + 40) 57 [.inr (.inr (some 24))] σ = some (none, σ2) := by
    rw [r57, e57_0, x_k24 hG, x_k24 hG1, x_Qsi, x_q24_2 hG, z_225 (d + 38) hG1, x_cv_s]
  rw [r40, e40_0, x_k22 hG, x_q22_1 hG, x_der_s, x_k24 hG, e57, x_cv_s, x_k22 hG2, x_k22 hG3, x_k22 (σ := σ4) hG, e5, x_cv_s]
  exact e
/-- the reference between parts -/
def z_YT (C : Nat → Int32) (z t : Nat) (o : List Int32) (p : Nat) (σ : xS) : Prop := z_tpr z C σ ∧ x_I σ 78 12 = Int32.ofNat t ∧ x_I σ 78 26 = Int32.ofNat p ∧ x_I σ 78 34 = Int32.ofNat o.length ∧ z_out t o σ ∧ o.length ≤ p ∧ p ≤ z ∧ z ≤ 160 ∧ t < 6
theorem z_YS.T {C : Nat → Int32} {z t p : Nat} {o : List Int32} {σ : xS} (h : z_YS C z t [] o p σ) : z_YT C z t o p σ := by
  obtain ⟨tp, h12, h26, h32, h33, h34, hs, ho, hb0, hp, hz, ht⟩ := h
  exact ⟨tp, h12, h26, h34, ho, by have := hb0; omega, hp, hz, ht⟩
theorem z_nextT (d : Nat) {C : Nat → Int32} {z t p : Nat} {o : List Int32} {σ : xS} (h : z_YT C z t o p σ) : ∃ τ, x_run (d + 3) 141 [.inr (.inr (some 78))] σ = some (none, τ) ∧ x_fr (z_yw t) x_w0 σ τ ∧ z_YT C z t o (z_tok C z p).2.1 τ ∧ z_rcur (z_tok C z p) τ := by
  obtain ⟨tp, h12, h26, h34, ho, hb0, hp, hz, ht⟩ := h
  obtain ⟨τ, e, f, g⟩ := z_m141 d hz hp tp h26
  have b := z_tok_b C hp
  have F : ∀ b u, ¬ (b = 78 ∧ 26 ≤ u ∧ u ≤ 29) → x_I τ b u = x_I σ b u := fun b u hu => f.I (by unfold z_lr; omega)
  exact ⟨τ, e, f.mono (fun b u h => Or.inl ⟨h.1, Or.inl h.2⟩) (fun _ _ h => h), ⟨tp.lr f, (F _ _ (by omega)).trans h12, g.1, (F _ _ (by omega)).trans h34, z_out.to (fun j _ => F _ _ (by omega)) ho, by omega, b.2.1, hz, ht⟩, g⟩
def z_yx (t : Nat) (b u : Nat) : Prop := z_yw t b u ∨ (b = 84 ∧ 4 * t ≤ u ∧ u < 4 * t + 4) ∨ (b = 78 ∧ (u = 9 ∨ u = 12))
theorem z_yw_x {t : Nat} {σ τ : xS} (f : x_fr (z_yw t) x_w0 σ τ) : x_fr (z_yx t) x_w0 σ τ := f.mono (fun _ _ h => Or.inl h) (fun _ _ h => h)
theorem z_4t {t i : Nat} : (4 : Int32) * Int32.ofNat t + Int32.ofNat i = Int32.ofNat (4 * t + i) := by
  rw [show (4 : Int32) = Int32.ofNat 4 from rfl, ← Int32.ofNat_mul, ← Int32.ofNat_add]
/-- the reference gives up -/
theorem z_fl (d : Nat) {t i : Nat} (ht : t < 6) {σ : xS} (hG : x_G σ) (h12 : x_I σ 78 12 = Int32.ofNat t) {v : Int32} (h27 : x_I σ 78 27 = v) : ∃ τ, x_f d 150 26 [some (.inr (.inr (some 78))), some (.inl 0), some (.inl (Int32.ofNat i))] [] σ = some (some (.inl (-100 - v)), τ) ∧ x_fr (z_yx t) x_w0 σ τ ∧ x_I τ 78 9 = 0 ∧ x_I τ 78 12 = Int32.ofNat t := by
  let σ1 := x_si σ 84 (4 * t + 3) (x_I σ 78 34)
  have hG1 : x_G σ1 := hG
  let σ2 := x_si σ1 78 9 0
  have hG2 : x_G σ2 := hG
  have K : ∀ b u, ¬ (b = 78 ∧ u = 9) → ¬ (b = 84 ∧ u = 4 * t + 3) → x_I σ2 b u = x_I σ b u := fun b u h1 h2 => (x_Isi _ _ _ _ _ _).trans ((if_neg h1).trans ((x_Isi _ _ _ _ _ _).trans (if_neg h2)))
  refine ⟨σ2, ?_, ((x_fr.refl _ _ σ).si _ (Or.inr (Or.inl ⟨rfl, by omega, by omega⟩))).si _ (Or.inr (Or.inr ⟨rfl, Or.inl rfl⟩)), (x_Isi _ _ _ _ _ _).trans (if_pos ⟨rfl, rfl⟩), (K _ _ (by omega) (by omega)).trans h12⟩
  have e101 : x_f d 150 101 [some (.inr (.inr (some 78))), some (.inl 0), none] [] σ = some (some (.inl (-100 - v)), σ2) := by
    rw [x_feq, e150_101, if_pos rfl, x_feq, e150_122, x_k78 hG, x_k78 hG, x_k78 hG, x_q78_11 hG, x_der_s, x_k84 hG, h12, show (3 : Int32) = Int32.ofNat 3 from rfl, z_4t, x_ixk (by omega) (by omega), x_tn (by omega), x_k78 hG1, if_pos rfl, x_k78 hG2, show x_I (x_si (x_si σ 84 (4 * t + 3) (x_I σ 78 34)) 78 9 0) 78 27 = v from (K 78 27 (by omega) (by omega)).trans h27]
  rw [x_feq, e150_26]
  split
  · exact e101
  · rw [if_pos rfl]; exact e101
def z_st4 (t i : Nat) (ws : List (List Int32)) (σ : xS) : Prop := ∀ j, j < i → x_I σ 84 (4 * t + j) = Int32.ofNat (ws.take j).flatten.length
def z_LR (z t p' : Nat) (τ : xS) : Option (List (List Int32)) → Prop
  | none => x_I τ 78 12 = Int32.ofNat t
  | some ws => x_I τ 78 12 = Int32.ofNat (t + 1) ∧ z_out t ws.flatten τ ∧ z_st4 t 4 ws τ
theorem z_YT84 {C : Nat → Int32} {z t p : Nat} {o : List Int32} {σ : xS} (i : Nat) (v : Int32) (h : z_YT C z t o p σ) : z_YT C z t o p (x_si σ 84 i v) := by
  obtain ⟨tp, h12, h26, h34, ho, hb⟩ := h
  have K : ∀ b u, b ≠ 84 → x_I (x_si σ 84 i v) b u = x_I σ b u := fun b u h => (x_Isi _ _ _ _ _ _).trans (if_neg (by omega))
  have f : x_fr (fun b _ => b = 84) x_w0 σ (x_si σ 84 i v) := (x_fr.refl _ _ σ).si _ rfl
  exact ⟨tp.fr f (by omega) (by omega) (fun u => by omega), (K _ _ (by omega)).trans h12, (K _ _ (by omega)).trans h26, (K _ _ (by omega)).trans h34, z_out.to (fun j _ => K _ _ (by omega)) ho, hb⟩
theorem z_60f (d : Nat) {t i : Nat} (ht : t < 6) (hi : i < 3) {σ : xS} (hG : x_G σ) (h12 : x_I σ 78 12 = Int32.ofNat t) {v : Int32} (h27 : x_I σ 78 27 = v) : ∃ τ, x_f d 150 60 [some (.inr (.inr (some 78))), none, some (.inl (Int32.ofNat i))] [.inl 0] σ = some (some (.inl (-100 - v)), τ) ∧ x_fr (z_yx t) x_w0 σ τ ∧ x_I τ 78 9 = 0 ∧ x_I τ 78 12 = Int32.ofNat t := by
  let σ1 := x_si σ 84 (4 * t + i) (x_I σ 78 34)
  have K : ∀ b u, b ≠ 84 → x_I σ1 b u = x_I σ b u := fun b u h => (x_Isi _ _ _ _ _ _).trans (if_neg (by omega))
  obtain ⟨τ, e, f, g⟩ := z_fl d (i := i + 1) ht (σ := σ1) hG ((K _ _ (by omega)).trans h12) ((K _ _ (by omega)).trans h27)
  refine ⟨τ, Eq.trans ?_ e, ((x_fr.refl (z_yx t) x_w0 σ).si _ (Or.inr (Or.inl ⟨rfl, by omega, by omega⟩))).trans f, g⟩
  rw [x_feq, e150_60, x_k78 hG, x_k78 hG, x_k78 hG, x_q78_11 hG, x_der_s, x_k84 hG, h12, z_4t, x_ixk (by omega) (by omega), if_pos rfl, x_tn (by omega), x_s1]
theorem z_149 (d : Nat) {C : Nat → Int32} {z t p : Nat} {o : List Int32} {σ : xS} (h : z_YT C z t o p σ) : ∃ σ1, x_fr (z_yw t) x_w0 σ σ1 ∧ z_YS C z t [] o p σ1 ∧ x_run (d + 5) 149 [.inr (.inr (some 78))] σ = x_f (d + 4) 149 14 [some (.inr (.inr (some 78))), some (.inl 1), some (.inl 1), none] [] σ1 := by
  obtain ⟨tp, h12, h26, h34, ho, hb, hp, hz, ht⟩ := h
  have hG := tp.1
  let σa := x_si σ 78 32 0
  have hGa : x_G σa := hG
  let σ1 := x_si σa 78 33 0
  have K : ∀ b u, ¬ (b = 78 ∧ (u = 32 ∨ u = 33)) → x_I σ1 b u = x_I σ b u := fun b u h => (x_Isi _ _ _ _ _ _).trans ((if_neg (by omega)).trans ((x_Isi _ _ _ _ _ _).trans (if_neg (by omega))))
  have f : x_fr (z_yw t) x_w0 σ σ1 := ((x_fr.refl _ _ σ).si _ (Or.inl ⟨rfl, by omega⟩)).si _ (Or.inl ⟨rfl, by omega⟩)
  refine ⟨σ1, f, ⟨tp.yw f, (K _ _ (by omega)).trans h12, (K _ _ (by omega)).trans h26, (x_Isi _ _ _ _ _ _).trans ((if_neg (by omega)).trans ((x_Isi _ _ _ _ _ _).trans (if_pos ⟨rfl, rfl⟩))), (x_Isi _ _ _ _ _ _).trans (if_pos ⟨rfl, rfl⟩), (K _ _ (by omega)).trans h34, trivial, z_out.to (fun j _ => K _ _ (by omega)) ho, hb, hp, hz, ht⟩, ?_⟩
  rw [r149, e149_0, x_k78 hG, x_k78 hGa]
theorem z_front (d : Nat) {C : Nat → Int32} {z t i p : Nat} {ws : List (List Int32)} {σ : xS} (hi : i < 3) (hk : (z_tok C z p).2.2.1 = 310 + i) (y : z_YT C z t ws.flatten p σ) : ∃ σ3, x_fr (z_yx t) x_w0 σ σ3 ∧ z_YS C z t [] ws.flatten (z_tok C z p).2.1 σ3 ∧ (∀ u, x_I σ3 84 u = if u = 4 * t + i then Int32.ofNat ws.flatten.length else x_I σ 84 u) ∧ x_f (d + 5) 150 26 [some (.inr (.inr (some 78))), some (.inl 1), some (.inl (Int32.ofNat i))] [] σ = x_ci (x_f (d + 4) 149 14 [some (.inr (.inr (some 78))), some (.inl 1), some (.inl 1), none] [] σ3) fun x4 σ4 => if x4 = 0 then x_f (d + 5) 150 26 [some (.inr (.inr (some 78))), some (.inl 0), some (.inl (Int32.ofNat (i + 1)))] [] σ4 else x_f (d + 5) 150 26 [some (.inr (.inr (some 78))), some (.inl 1), some (.inl (Int32.ofNat (i + 1)))] [] σ4 := by
  have one : ¬ (1 : Int32) = 0 := by decide
  obtain ⟨σ1, e1, f1, y1, g1, g2, g3, g4, g5, g6⟩ := z_nextT (d + 2) y
  have hG1 := y1.1.1
  have hG := y.1.1
  have ht := y.2.2.2.2.2.2.2.2
  have h12 := y1.2.1
  have h34 := y1.2.2.2.1
  have v := g5 (by omega) (by omega)
  have r3 : z_rk (z_tok C z p).2.2.1 = 3 := by
    rw [hk]
    rcases (show i = 0 ∨ i = 1 ∨ i = 2 by omega) with e | e | e <;> rw [e] <;> rfl
  have n3 : ¬ (3 : Int32) ≤ Int32.ofNat i := fun g => absurd ((x_le (a := 3) (by omega) (by omega)).mp g) (by omega)
  have y2 := z_YT84 (4 * t + i) (Int32.ofNat ws.flatten.length) y1
  have hG2 := y2.1.1
  obtain ⟨σ3, f3, y3, e3⟩ := z_149 d y2
  refine ⟨σ3, ((z_yw_x f1).si _ (Or.inr (Or.inl ⟨rfl, by omega, by omega⟩))).trans (z_yw_x f3), y3, fun u => ?_, ?_⟩
  · rw [f3.I (by unfold z_yw; omega), x_Isi, f1.I (by unfold z_yw; omega)]
    by_cases c : u = 4 * t + i
    · rw [if_pos ⟨rfl, c⟩, if_pos c]
    · rw [if_neg (fun g => c g.2), if_neg c]
  rw [x_feq, e150_26, if_neg n3, if_neg one, x_k78 hG, e1, x_cv_s, x_k78 hG1, g3, if_pos r3, x_k78 hG1, v, hk, if_pos (show Int32.ofNat (310 + i - 310) = Int32.ofNat i by rw [Nat.add_sub_cancel_left]), x_feq, e150_60, x_k78 hG1, x_k78 hG1, x_k78 hG1, x_q78_11 hG1, x_der_s, x_k84 hG1, h12, z_4t, x_ixk (by omega) (by omega), if_neg one, x_tn (by omega), h34, x_k78 hG2, e3, x_s1]
theorem z_l150 (d : Nat) {C : Nat → Int32} {z t i p p' : Nat} {ws : List (List Int32)} {r : Option (List (List Int32))} (h : z_E (z_tok C z) i p ws p' r) : ∀ σ, ws.length = i → z_YT C z t ws.flatten p σ → z_st4 t i ws σ → ∃ τ, x_f (d + 5) 150 26 [some (.inr (.inr (some 78))), some (.inl 1), some (.inl (Int32.ofNat i))] [] σ = some (some (.inl (if r = none then -100 - Int32.ofNat (z_tok C z p').1 else Int32.ofNat t)), τ) ∧ x_fr (z_yx t) x_w0 σ τ ∧ x_I τ 78 9 = 0 ∧ z_LR z t p' τ r := by
  have one : ¬ (1 : Int32) = 0 := by decide
  have z0 : (0 : Int32) = 0 := rfl
  -- the end: place 101 with success so far
  induction h using z_E_ind with
  | @fin p ws hk =>
    intro σ hl y st
    obtain ⟨σ1, e1, f1, y1, g1, g2, g3, -⟩ := z_nextT (d + 2) y
    obtain ⟨tp, h12, h26, h34, ho, hb0, hp, hz, ht⟩ := id y1
    have hG1 := tp.1
    have hG := y.1.1
    let σa := x_si σ1 84 (4 * t + 3) (Int32.ofNat ws.flatten.length)
    have hGa : x_G σa := hG1
    let σb := x_si σa 78 9 0
    have hGb : x_G σb := hG1
    let σc := x_si σb 78 12 (Int32.ofNat (t + 1))
    have hGc : x_G σc := hG1
    have ha12 : x_I σb 78 12 = Int32.ofNat t := (x_Isi _ _ _ _ _ _).trans ((if_neg (by omega)).trans ((x_Isi _ _ _ _ _ _).trans ((if_neg (by omega)).trans h12)))
    have K : ∀ b u, ¬ (b = 78 ∧ (u = 9 ∨ u = 12)) → ¬ (b = 84 ∧ u = 4 * t + 3) → x_I σc b u = x_I σ1 b u := fun b u h1 h2 => (x_Isi _ _ _ _ _ _).trans ((if_neg (by omega)).trans ((x_Isi _ _ _ _ _ _).trans ((if_neg (by omega)).trans ((x_Isi _ _ _ _ _ _).trans (if_neg h2)))))
    refine ⟨σc, ?_, (z_yw_x f1).trans ((((x_fr.refl (z_yx t) x_w0 σ1).si _ (Or.inr (Or.inl ⟨rfl, by omega, by omega⟩))).si _ (Or.inr (Or.inr ⟨rfl, Or.inl rfl⟩))).si _ (Or.inr (Or.inr ⟨rfl, Or.inr rfl⟩))), (x_Isi _ _ _ _ _ _).trans ((if_neg (by omega)).trans ((x_Isi _ _ _ _ _ _).trans (if_pos ⟨rfl, rfl⟩))), (x_Isi _ _ _ _ _ _).trans (if_pos ⟨rfl, rfl⟩), z_out.to (fun j _ => K _ _ (by omega) (by omega)) ho, fun j hj => ?_⟩
    · rw [x_feq, e150_26, if_pos (by decide), x_feq, e150_101, if_neg one, x_k78 hG, e1, x_cv_s, x_k78 hG1, g3, hk, show z_rk 300 = 0 from rfl, if_pos z0, x_feq, e150_122, x_k78 hG1, x_k78 hG1, x_k78 hG1, x_q78_11 hG1, x_der_s, x_k84 hG1, h12, h34, show (3 : Int32) = Int32.ofNat 3 from rfl, z_4t, x_ixk (by omega) (by omega), x_tn (by omega), x_k78 hGa, if_neg one, x_k78 hGb, x_k78 hGb, ha12, x_s1, x_k78 hGc, show x_I (x_si (x_si (x_si σ1 84 (4 * t + 3) (Int32.ofNat ws.flatten.length)) 78 9 0) 78 12 (Int32.ofNat (t + 1))) 78 12 = Int32.ofNat (t + 1) from (x_Isi _ _ _ _ _ _).trans (if_pos ⟨rfl, rfl⟩), x_p1, if_neg (fun e => by cases e)]
    · by_cases c : j = 3
      · subst c
        refine (x_Isi _ _ _ _ _ _).trans ((if_neg (by omega)).trans ((x_Isi _ _ _ _ _ _).trans ((if_neg (by omega)).trans ((x_Isi _ _ _ _ _ _).trans ((if_pos ⟨rfl, rfl⟩).trans ?_)))))
        rw [List.take_of_length_le (by omega)]
      · rw [K _ _ (by omega) (by omega), f1.I (by unfold z_yw; omega)]
        exact st j (by omega)
  | @finX p ws hk =>
    intro σ hl y st
    obtain ⟨σ1, e1, f1, y1, g1, g2, g3, -⟩ := z_nextT (d + 2) y
    have hG1 := y1.1.1
    have hG := y.1.1
    have n0 : ¬ z_rk (z_tok C z p).2.2.1 = 0 := by
      have kk := z_tok_k C z p
      unfold z_knd at kk
      rcases (show (z_tok C z p).2.2.1 = 301 ∨ (z_tok C z p).2.2.1 = 302 ∨ (z_tok C z p).2.2.1 = 310 ∨ (z_tok C z p).2.2.1 = 311 ∨ (z_tok C z p).2.2.1 = 312 ∨ (z_tok C z p).2.2.1 = 313 ∨ (z_tok C z p).2.2.1 = 314 ∨ (z_tok C z p).2.2.1 = 315 ∨ (z_tok C z p).2.2.1 = 320 ∨ (z_tok C z p).2.2.1 = 321 ∨ (z_tok C z p).2.2.1 = 322 ∨ (z_tok C z p).2.2.1 = 323 ∨ (z_tok C z p).2.2.1 = 324 ∨ (z_tok C z p).2.2.1 = 325 ∨ (z_tok C z p).2.2.1 = 40 ∨ (z_tok C z p).2.2.1 = 41 ∨ (z_tok C z p).2.2.1 = 59 ∨ (z_tok C z p).2.2.1 = 43 ∨ (z_tok C z p).2.2.1 = 45 ∨ (z_tok C z p).2.2.1 = 42 ∨ (z_tok C z p).2.2.1 = 60 ∨ (z_tok C z p).2.2.1 = 61 by omega) with e | e | e | e | e | e | e | e | e | e | e | e | e | e | e | e | e | e | e | e | e | e <;> rw [e] <;> decide
    obtain ⟨τ, e, f, g9, g12⟩ := z_fl (d + 5) (i := 3) y.2.2.2.2.2.2.2.2 hG1 y1.2.1 g2
    refine ⟨τ, ?_, (z_yw_x f1).trans f, g9, g12⟩
    rw [if_pos rfl, x_feq, e150_26, if_pos (by decide), x_feq, e150_101, if_neg one, x_k78 hG, e1, x_cv_s, x_k78 hG1, g3, if_neg n0]
    rw [x_feq, e150_26, if_pos (by decide), x_feq, e150_101, if_pos z0] at e
    exact e
  | @kw i p ws hi hk =>
    intro σ hl y st
    obtain ⟨σ1, e1, f1, y1, g1, g2, g3, g4, g5, g6⟩ := z_nextT (d + 2) y
    have hG1 := y1.1.1
    have hG := y.1.1
    have ht := y.2.2.2.2.2.2.2.2
    obtain ⟨τ, e, f, g9, g12⟩ := z_60f (d + 5) ht hi hG1 y1.2.1 g2
    refine ⟨τ, ?_, (z_yw_x f1).trans f, g9, g12⟩
    have n3 : ¬ (3 : Int32) ≤ Int32.ofNat i := fun g => absurd ((x_le (a := 3) (by omega) (by omega)).mp g) (by omega)
    rw [if_pos rfl, x_feq, e150_26, if_neg n3, if_neg one, x_k78 hG, e1, x_cv_s, x_k78 hG1, g3]
    by_cases c : 310 ≤ (z_tok C z p).2.2.1 ∧ (z_tok C z p).2.2.1 ≤ 312
    · have v := g5 c.1 c.2
      have r3 : z_rk (z_tok C z p).2.2.1 = 3 := by
        rcases (show (z_tok C z p).2.2.1 = 310 ∨ (z_tok C z p).2.2.1 = 311 ∨ (z_tok C z p).2.2.1 = 312 by omega) with e | e | e <;> rw [e] <;> rfl
      rw [if_pos r3, x_k78 hG1, v, if_neg (fun g => hk (by have := x_inj32 (by omega) (by omega) g; omega))]
      exact e
    · have n : ¬ z_rk (z_tok C z p).2.2.1 = 3 := by
        have kk := z_tok_k C z p
        unfold z_knd at kk
        rcases (show (z_tok C z p).2.2.1 = 300 ∨ (z_tok C z p).2.2.1 = 301 ∨ (z_tok C z p).2.2.1 = 302 ∨ (z_tok C z p).2.2.1 = 313 ∨ (z_tok C z p).2.2.1 = 314 ∨ (z_tok C z p).2.2.1 = 315 ∨ (z_tok C z p).2.2.1 = 320 ∨ (z_tok C z p).2.2.1 = 321 ∨ (z_tok C z p).2.2.1 = 322 ∨ (z_tok C z p).2.2.1 = 323 ∨ (z_tok C z p).2.2.1 = 324 ∨ (z_tok C z p).2.2.1 = 325 ∨ (z_tok C z p).2.2.1 = 40 ∨ (z_tok C z p).2.2.1 = 41 ∨ (z_tok C z p).2.2.1 = 59 ∨ (z_tok C z p).2.2.1 = 43 ∨ (z_tok C z p).2.2.1 = 45 ∨ (z_tok C z p).2.2.1 = 42 ∨ (z_tok C z p).2.2.1 = 60 ∨ (z_tok C z p).2.2.1 = 61 by omega) with e | e | e | e | e | e | e | e | e | e | e | e | e | e | e | e | e | e | e | e <;> rw [e] <;> decide
      rw [if_neg n]
      exact e
  | @bad i p ws p1 hi hk dd =>
    intro σ hl y st
    obtain ⟨σ3, f3, y3, k84, pre⟩ := z_front d hi hk y
    have hk2 := (z_R d dd).1 rfl [] _ 1 σ3 y3 rfl (Or.inr (Or.inr ⟨Or.inl rfl, fun c r e => (by cases e)⟩)) (Or.inl ⟨by decide, rfl⟩)
    obtain ⟨σ4, e4, f4, g4⟩ := hk2
    have y4 : x_G σ4 := f4.G y3.1.1
    obtain ⟨τ, e, f, g9, g12⟩ := z_fl (d + 5) (i := i + 1) y.2.2.2.2.2.2.2.2 y4 ((f4.I (by unfold z_yw; omega)).trans y3.2.1) g4
    refine ⟨τ, ?_, (f3.trans (z_yw_x f4)).trans f, g9, g12⟩
    rw [if_pos rfl, pre, e4, x_ci_s, if_pos z0]
    exact e
  | @semi i p ws p1 w hi hk dd h59 =>
    intro σ hl y st
    obtain ⟨σ3, f3, y3, k84, pre⟩ := z_front d hi hk y
    obtain ⟨P, o', i2', σ4, e4, f4, y4, hr, ho, hs, hp⟩ := (z_R d dd).1 rfl [] _ 1 σ3 y3 rfl (Or.inr (Or.inr ⟨Or.inl rfl, fun c r e => (by cases e)⟩)) (Or.inl ⟨by decide, rfl⟩)
    obtain ⟨σ5, e5, f5, g5⟩ := z_stop d i2' y4 hr (Or.inl rfl) hs (fun _ => h59) (fun e => absurd rfl e)
    have hG5 : x_G σ5 := f5.G y4.1.1
    obtain ⟨τ, e, f, g9, g12⟩ := z_fl (d + 5) (i := i + 1) y.2.2.2.2.2.2.2.2 hG5 ((f5.I (by unfold z_yw; omega)).trans y4.2.1) g5
    refine ⟨τ, ?_, ((f3.trans (z_yw_x f4)).trans (z_yw_x f5)).trans f, g9, g12⟩
    rw [if_pos rfl, pre, e4, e5, x_ci_s, if_pos z0]
    exact e
  | @go i p ws p1 w p' r hi hk dd h59 _ ih =>
    intro σ hl y st
    obtain ⟨σ3, f3, y3, k84, pre⟩ := z_front d hi hk y
    obtain ⟨P, o', i2', σ4, e4, f4, y4, hr, ho, hs, hp⟩ := (z_R d dd).1 rfl [] _ 1 σ3 y3 rfl (Or.inr (Or.inr ⟨Or.inl rfl, fun c r e => (by cases e)⟩)) (Or.inl ⟨by decide, rfl⟩)
    have y4' : z_YS C z t P o' p1 σ4 := by
      have e : P ++ z_pop 7 [] = P := List.append_nil P
      rw [e] at y4
      exact y4
    obtain ⟨σ5, e5, f5, y5⟩ := z_done d i2' y4' hr h59
    have eo : o' ++ P = (ws ++ [w]).flatten := by
      rw [ho, List.flatten_append, List.flatten_cons, List.flatten_nil, List.append_nil]
      show ws.flatten ++ (w ++ []) = _
      rw [List.append_nil]
    rw [eo] at y5
    have F : ∀ u, x_I σ5 84 u = x_I σ3 84 u := fun u => (f5.I (by unfold z_yw; omega)).trans (f4.I (by unfold z_yw; omega))
    obtain ⟨τ, e, f, g⟩ := ih σ5 (by rw [List.length_append]; show ws.length + 1 = _; omega) y5.T (fun j hj => by
      rw [F, k84]
      by_cases c : j = i
      · rw [if_pos (by omega), c, List.take_append_of_le_length (by omega), List.take_of_length_le (by omega)]
      · rw [if_neg (by omega), List.take_append_of_le_length (by omega)]
        exact st j (by omega))
    refine ⟨τ, ?_, ((f3.trans (z_yw_x f4)).trans (z_yw_x f5)).trans f, g⟩
    rw [pre, e4, e5, x_ci_s, if_neg one]
    exact e
