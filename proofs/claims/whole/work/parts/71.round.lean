/-! a round, both sides -/
def y_wo (b u : Nat) : Prop := x_wt b u ∨ b = 40 ∨ b = 41 ∨ b = 42 ∨ b = 43 ∨ b = 95 ∨ (b = 78 ∧ u = 43)
theorem y_wo_per (a u : Nat) (h : x_per a u = true) : ¬ y_wo a u := by
  rintro (h1 | rfl | rfl | rfl | rfl | rfl | ⟨rfl, rfl⟩)
  · exact x_wt_per a u h h1
  all_goals cases h
theorem y_tc4 {t : Nat} (ht : t < 6) : (29 ≤ x_tc t ∧ x_tc t < 70) ∧ (∀ v, (v = 1 ∨ v = 3) → x_tc t + v ≠ 40 ∧ x_tc t + v ≠ 41 ∧ x_tc t + v ≠ 42 ∧ x_tc t + v ≠ 43) := by
  rcases (show t = 0 ∨ t = 1 ∨ t = 2 ∨ t = 3 ∨ t = 4 ∨ t = 5 by omega) with rfl | rfl | rfl | rfl | rfl | rfl <;> exact ⟨⟨Nat.le_of_ble_eq_true rfl, Nat.le_of_ble_eq_true rfl⟩, fun v hv => by simp only [x_tc]; omega⟩
theorem x_tv.wo {σ τ : xS} {V : Nat → Nat → Prop} {t : Nat} {o : Nat → Nat} {p : Nat → List Int32} (ht : t < 6) (f : x_fr y_wo V σ τ) (h : x_tv σ t o p) : x_tv τ t o p := by
  obtain ⟨hc, h4⟩ := y_tc4 ht
  have h1 := h4 1 (Or.inl rfl)
  have h3 := h4 3 (Or.inr rfl)
  exact x_tv.at (fun u => f.I (by unfold y_wo x_wt; omega)) (fun u => f.I (by unfold y_wo x_wt; omega)) (fun u => f.I (fun g => g.elim (x_wt_n ht u).1 (fun g => by omega))) (fun u => f.I (fun g => g.elim (x_wt_n ht u).2 (fun g => by omega))) h
theorem y_ca.wo (n r tx : Nat) (o : Nat → Nat) (p : Nat → List Int32) (K M E S : Nat → Int32) (Y G : Int32) (W U : Nat → Nat) {V : Nat → Nat → Prop} {σ τ : xS} (hn : n ≤ 5) (hr : r < 6) (f : x_fr y_wo V σ τ) (h : y_ca n r tx o p K M E S Y G W U σ) : y_ca n r tx o p K M E S Y G W U τ := by
  obtain ⟨hG, hv, a1, a2, a3, a4, a5, a6⟩ := h
  have F : ∀ b u, b < 15 → x_I τ b u = x_I σ b u := fun b u h => f.I (by unfold y_wo x_wt; omega)
  refine ⟨f.G hG, hv.wo hr f, (F _ _ (by omega)).trans a1, (F _ _ (by omega)).trans a2, (F _ _ (by omega)).trans a3, (F _ _ (by omega)).trans a4, (F _ _ (by omega)).trans a5, fun l hl => ?_⟩
  obtain ⟨⟨c1, c2, c3, c4, c5⟩, c6⟩ := a6 l hl
  exact ⟨⟨(F _ _ (by omega)).trans c1, (F _ _ (by omega)).trans c2, (F _ _ (by omega)).trans c3, (F _ _ (by omega)).trans c4, (F _ _ (by omega)).trans c5⟩, (F _ _ (by omega)).trans c6⟩
theorem y_ra.wo (n r tx : Nat) (o : Nat → Nat) (p : Nat → List Int32) (K M E S : Nat → Int32) (Y G : Int32) (W U : Nat → Nat) {V : Nat → Nat → Prop} {σ τ : xS} (hr : r < 6) (f : x_fr y_wo V σ τ) (h : y_ra n r tx o p K M E S Y G W U σ) : y_ra n r tx o p K M E S Y G W U τ := by
  obtain ⟨hG, hv, a1, a2, a3, a4, a6⟩ := h
  have F : ∀ b u, (b = 79 ∨ b = 80 ∨ b = 81) ∨ (b = 78 ∧ u < 20) → x_I τ b u = x_I σ b u := fun b u h => f.I (by unfold y_wo x_wt; omega)
  refine ⟨f.G hG, hv.wo hr f, (F _ _ (by omega)).trans a1, (F _ _ (by omega)).trans a2, (F _ _ (by omega)).trans a3, (F _ _ (by omega)).trans a4, fun l hl => ?_⟩
  obtain ⟨⟨c1, c2, c3, c4, c5⟩, c6⟩ := a6 l hl
  exact ⟨⟨(F _ _ (by omega)).trans c1, (F _ _ (by omega)).trans c2, (F _ _ (by omega)).trans c3, (F _ _ (by omega)).trans c4, (F _ _ (by omega)).trans c5⟩, (F _ _ (by omega)).trans c6⟩
/-- hours -/
def y_hr (n : Nat) (H : Nat → Nat) (σ : xS) : Prop := ∀ l, l < n → x_I σ (3 + l) 5 = Int32.ofNat (H l) ∧ x_I σ 81 (6 * l + 3) = Int32.ofNat (H l)
theorem y_hr.wo {n : Nat} {H : Nat → Nat} {V : Nat → Nat → Prop} {σ τ : xS} (hn : n ≤ 5) (f : x_fr y_wo V σ τ) (h : y_hr n H σ) : y_hr n H τ := fun l hl => ⟨(f.I (by unfold y_wo x_wt; omega)).trans (h l hl).1, (f.I (by unfold y_wo x_wt; omega)).trans (h l hl).2⟩
def y_TT (p : Nat → List Int32) (K M E S : Nat → Int32) (Y : Int32) (U : Nat → Nat) (i4 : Int32) (u : Nat) : Nat := if i4 = 0 then 0 else y_tn p (K u) (M u) (E u) (S u) Y (U u)
theorem y_TT_b (p : Nat → List Int32) (K M E S : Nat → Int32) (Y : Int32) (U : Nat → Nat) (i4 : Int32) {n : Nat} (fx : y_fx n M E S) (u : Nat) (hu : u < n) : y_TT p K M E S Y U i4 u ≤ 8991 := by
  obtain ⟨mb, eb, sb⟩ := fx u hu
  obtain ⟨-, ⟨-, z2⟩, -, t2⟩ := y_oztn p (k := K u) (m := M u) (y := Y) eb sb (U u)
  unfold y_TT
  split <;> omega
theorem y_fil (d : Nat) (n r tx : Nat) (o : Nat → Nat) (p : Nat → List Int32) (K M E S : Nat → Int32) (Y G : Int32) (W U : Nat → Nat) (hn : n ≤ 5) (hr : r < 6) (fx : y_fx n M E S) (H : Nat → Nat) (s i4 : Int32) : ∀ q u σ, u + q = n → y_ca n r tx o p K M E S Y G W U σ → y_hr n H σ → x_I σ 40 3 = Int32.ofNat n → (∀ v, v < u → x_I σ 41 v = Int32.ofNat v ∧ x_I σ 42 v = Int32.ofNat (H v) ∧ x_I σ 43 v = Int32.ofNat (y_TT p K M E S Y U i4 v)) → ∃ τ, x_f (d + 4) 1 11 [some (.inr (.inr (some 40))), some (.inr (.inr (some 1))), some (.inr (.inr (some (x_tc r)))), some (.inl s), some (.inl i4), some (.inl (Int32.ofNat u)), none] [] σ = x_f (d + 4) 1 11 [some (.inr (.inr (some 40))), some (.inr (.inr (some 1))), some (.inr (.inr (some (x_tc r)))), some (.inl s), some (.inl i4), some (.inl (Int32.ofNat n)), none] [] τ ∧ x_fr y_wo x_w0 σ τ ∧ x_I τ 40 3 = Int32.ofNat n ∧ ∀ v, v < n → x_I τ 41 v = Int32.ofNat v ∧ x_I τ 42 v = Int32.ofNat (H v) ∧ x_I τ 43 v = Int32.ofNat (y_TT p K M E S Y U i4 v)
  | 0, u, σ, hi, ca, hh, h3, hc => by
    have : u = n := by omega
    subst this
    exact ⟨σ, rfl, x_fr.refl _ _ _, h3, hc⟩
  | q + 1, u, σ, hi, ca, hh, h3, hc => by
    have hu : u < n := by omega
    have hu5 : u < 5 := by omega
    obtain ⟨hG, hv, a1, a2, a3, a4, a5, a6⟩ := id ca
    obtain ⟨c1, c6⟩ := a6 u hu
    let σ1 := x_si σ 41 u (Int32.ofNat u)
    have hG1 : x_G σ1 := hG
    let σ2 := x_si σ1 42 u (Int32.ofNat (H u))
    have hG2 : x_G σ2 := hG
    have f2 : x_fr y_wo x_w0 σ σ2 := ((x_fr.refl y_wo x_w0 σ).si _ (Or.inr (Or.inr (Or.inl rfl)))).si _ (Or.inr (Or.inr (Or.inr (Or.inl rfl))))
    have h5 : x_I σ1 (3 + u) 5 = Int32.ofNat (H u) := ((x_Isi _ _ _ _ _ _).trans (if_neg (by omega))).trans (hh u hu).1
    have ca2 := ca.wo n r tx o p K M E S Y G W U hn hr f2
    have h32 : x_I σ2 40 3 = Int32.ofNat n := (x_Isi _ _ _ _ _ _).trans ((if_neg (by omega)).trans ((x_Isi _ _ _ _ _ _).trans ((if_neg (by omega)).trans h3)))
    have key : ∃ σ3, x_I σ3 40 3 = Int32.ofNat n ∧ x_fr y_wo x_w0 σ2 σ3 ∧ (∀ b v, (b = 41 ∨ b = 42 ∨ (b = 43 ∧ v ≠ u)) → x_I σ3 b v = x_I σ2 b v) ∧ x_I σ3 43 u = Int32.ofNat (y_TT p K M E S Y U i4 u) ∧ x_f (d + 4) 1 11 [some (.inr (.inr (some 40))), some (.inr (.inr (some 1))), some (.inr (.inr (some (x_tc r)))), some (.inl s), some (.inl i4), some (.inl (Int32.ofNat u)), none] [] σ = x_f (d + 4) 1 11 [some (.inr (.inr (some 40))), some (.inr (.inr (some 1))), some (.inr (.inr (some (x_tc r)))), some (.inl s), some (.inl i4), some (.inl (Int32.ofNat (u + 1))), none] [] σ3 := by
      have pre : ∀ R, (if i4 = 0 then x_f (d + 4) 1 11 [some (.inr (.inr (some 40))), some (.inr (.inr (some 1))), some (.inr (.inr (some (x_tc r)))), some (.inl s), some (.inl i4), some (.inl (Int32.ofNat (u + 1))), none] [] (x_si σ2 43 u 0) else x_der (some 1) fun a11 => x_ck σ2 a11 8 <| (x_der (some (3 + u)) fun a12 => x_ck σ2 a12 2 <| (x_der (some (3 + u)) fun a13 => x_ck σ2 a13 2 <| x_ci (x_run (d + 4) 18 [.inr (.inr (some (3 + u))), .inr (.inr (some (x_tc r))), .inl (x_I σ2 a11 2), .inl (x_I σ2 a12 7)] σ2) fun x15 σ14 => (x_der (some (3 + u)) fun a16 => x_ck σ14 a16 2 <| x_ci (x_run (d + 4) 20 [.inr (.inr (some (3 + u))), .inl x15] σ14) fun x18 σ17 => (x_cv (x_run (d + 4) 130 [.inr (.inr (x_Q σ2 40 2)), .inl (Int32.ofNat u), .inl x18] σ17) fun σ19 => x_f (d + 4) 1 11 [some (.inr (.inr (some 40))), some (.inr (.inr (some 1))), some (.inr (.inr (some (x_tc r)))), some (.inl s), some (.inl i4), some (.inl (Int32.ofNat u + 1)), none] [] σ19))))) = R → x_f (d + 4) 1 11 [some (.inr (.inr (some 40))), some (.inr (.inr (some 1))), some (.inr (.inr (some (x_tc r)))), some (.inl s), some (.inl i4), some (.inl (Int32.ofNat u)), none] [] σ = R := by
        intro R h
        rw [x_feq, e1_11, x_k40 hG, h3, if_neg (fun h => absurd ((x_le (by omega) (by omega)).mp h) (by omega)), x_der_s, x_k1 hG, m65_in _ hG hn hu a3, x_cr_s, x_nul_s, x_k40 hG, x_q40_0 hG, m130 _ hG (a := 41) (n := 5) rfl (by omega) (by omega), x_cv_s, x_k40 hG1, x_q40_1 hG1, x_der_s, x_kl3 hG1 hu5, h5, m130 _ hG1 (a := 42) (n := 5) rfl (by omega) (by omega), x_cv_s, x_k40 hG2, x_q40_2 hG2, m130 _ hG2 (a := 43) (n := 5) rfl (by omega) (by omega), x_cv_s, x_s1]
        rw [x_q40_2 hG2, x_s1] at h
        exact h
      by_cases z : i4 = 0
      · refine ⟨x_si σ2 43 u 0, (x_Isi _ _ _ _ _ _).trans ((if_neg (by omega)).trans h32), (x_fr.refl y_wo x_w0 σ2).si _ (Or.inr (Or.inr (Or.inr (Or.inr (Or.inl rfl))))), fun b v h => (x_Isi _ _ _ _ _ _).trans (if_neg (by omega)), ?_, pre _ (if_pos z)⟩
        rw [x_Isi, if_pos ⟨rfl, rfl⟩]
        unfold y_TT
        rw [if_pos z]
        rfl
      · obtain ⟨σ3, e3, f3⟩ := c18 d hG2 hr ca2.2.1 (x_kl hu5) (ca2.2.2.2.2.2.2.2 u hu).1 Y (Int32.ofNat (U u))
        have hG3 := f3.G hG2
        have cl3 := ((ca2.2.2.2.2.2.2.2 u hu).1).fr f3 (fun v => x_wt_o (by omega) v)
        have e20 := c20 (d + 3) hG3 (x_kl hu5) cl3 (x_Z p (K u) (M u) (E u) (S u) Y (Int32.ofNat (U u)))
        obtain ⟨mb, eb, sb⟩ := fx u hu
        obtain ⟨-, -, t1, -⟩ := y_oztn p (k := K u) (m := M u) (y := Y) eb sb (U u)
        rw [t1] at e20
        have W3 : ∀ b v, (b = 41 ∨ b = 42 ∨ b = 43 ∨ b = 40) → x_I σ3 b v = x_I σ2 b v := fun b v h => f3.I (by unfold x_wt; omega)
        refine ⟨x_si σ3 43 u (Int32.ofNat (y_tn p (K u) (M u) (E u) (S u) Y (U u))), (x_Isi _ _ _ _ _ _).trans ((if_neg (by omega)).trans ((W3 40 3 (by omega)).trans h32)), (f3.mono (fun _ _ h => Or.inl h) (fun _ _ h => h)).si _ (Or.inr (Or.inr (Or.inr (Or.inr (Or.inl rfl))))), fun b v h => (x_Isi _ _ _ _ _ _).trans ((if_neg (by omega)).trans (W3 b v (by omega))), ?_, pre _ ?_⟩
        · rw [x_Isi, if_pos ⟨rfl, rfl⟩]
          unfold y_TT
          rw [if_neg z]
        · rw [if_neg z, x_der_s, x_k1 hG2, x_der_s, x_kl3 hG2 hu5, x_der_s, x_kl3 hG2 hu5, ca2.2.2.2.2.2.1, (ca2.2.2.2.2.2.2.2 u hu).1.2.2.2.2, e3, x_ci_s, x_der_s, x_kl3 hG3 hu5, e20, x_ci_s, x_q40_2 hG2, m130 _ hG3 (a := 43) (n := 5) rfl (by omega) (by omega), x_cv_s, x_s1]
    obtain ⟨σ3, h33, f3, k3, k43, e3⟩ := key
    have f23 := f2.trans f3
    obtain ⟨τ, a, f, g3, g⟩ := y_fil d n r tx o p K M E S Y G W U hn hr fx H s i4 q (u + 1) σ3 (by omega) (ca.wo n r tx o p K M E S Y G W U hn hr f23) (hh.wo hn f23) h33 (fun v hv => by
      have S2 : ∀ b v, ¬ (b = 41 ∧ v = u) → ¬ (b = 42 ∧ v = u) → x_I σ2 b v = x_I σ b v := fun b v g1 g2 => (x_Isi _ _ _ _ _ _).trans ((if_neg g2).trans ((x_Isi _ _ _ _ _ _).trans (if_neg g1)))
      by_cases c : v = u
      · subst c
        exact ⟨(k3 41 v (by omega)).trans ((x_Isi _ _ _ _ _ _).trans ((if_neg (by omega)).trans ((x_Isi _ _ _ _ _ _).trans (if_pos ⟨rfl, rfl⟩)))), (k3 42 v (by omega)).trans ((x_Isi _ _ _ _ _ _).trans (if_pos ⟨rfl, rfl⟩)), k43⟩
      · obtain ⟨d1, d2, d3⟩ := hc v (by omega)
        exact ⟨(k3 41 v (by omega)).trans ((S2 _ _ (by omega) (by omega)).trans d1), (k3 42 v (by omega)).trans ((S2 _ _ (by omega) (by omega)).trans d2), (k3 43 v (by omega)).trans ((S2 _ _ (by omega) (by omega)).trans d3)⟩)
    exact ⟨τ, e3.trans a, f23.trans f, g3, g⟩
/-- the best round -/
def y_br (H T : Nat → Nat) (n s : Nat) (i4 : Int32) : Nat × Nat := (y_seq n 120 (List.range n)).foldl (y_up (y_va H T n s i4) (y_co n)) (y_va H T n s i4 (List.range n), y_co n (List.range n))
theorem m1 (d : Nat) (n r tx : Nat) (o : Nat → Nat) (p : Nat → List Int32) (K M E S : Nat → Int32) (Y G : Int32) (W U : Nat → Nat) (hn : n ≤ 5) (hr : r < 6) (fx : y_fx n M E S) {H : Nat → Nat} (hH : ∀ l, l < n → H l < 12) {s : Nat} (hs : s < 12) (i4 : Int32) {σ : xS} (ca : y_ca n r tx o p K M E S Y G W U σ) (hh : y_hr n H σ) : ∃ τ, x_run (d + 5) 1 [.inr (.inr (some 40)), .inr (.inr (some 1)), .inr (.inr (some (x_tc r))), .inl (Int32.ofNat s), .inl i4] σ = some (none, τ) ∧ x_fr y_wo x_w0 σ τ ∧ x_I τ 40 4 = Int32.ofNat (y_br H (y_TT p K M E S Y U i4) n s i4).1 ∧ x_I τ 40 5 = Int32.ofNat (y_br H (y_TT p K M E S Y U i4) n s i4).2 := by
  obtain ⟨hG, hv, a1, a2, a3, a4, a5, a6⟩ := id ca
  let σ0 := x_si σ 40 3 (Int32.ofNat n)
  have f0 : x_fr y_wo x_w0 σ σ0 := (x_fr.refl y_wo x_w0 σ).si _ (Or.inr (Or.inl rfl))
  obtain ⟨σ1, e1, f1, h3, hc⟩ := y_fil d n r tx o p K M E S Y G W U hn hr fx H (Int32.ofNat s) i4 n 0 σ0 (by omega) (ca.wo n r tx o p K M E S Y G W U hn hr f0) (hh.wo hn f0) ((x_Isi _ _ _ _ _ _).trans (if_pos ⟨rfl, rfl⟩)) (fun v hv => absurd hv (Nat.not_lt_zero v))
  have f01 := f0.trans f1
  have hG1 := f01.G hG
  have hT := y_TT_b p K M E S Y U i4 fx
  have hl := y_rg_pm hn
  have ct : y_ct 41 n (List.range n) σ1 := fun u hu => by rw [y_rg_gd n hn u hu]; exact (hc u hu).1
  have e2 := m2 (d + 2) H (y_TT p K M E S Y U i4) hn hl hH hG1 h3 ct (fun u hu => (hc u hu).2.1) (fun u hu => (hc u hu).2.2) i4 hs
  let σ2 := x_si σ1 40 4 (Int32.ofNat (y_va H (y_TT p K M E S Y U i4) n s i4 (List.range n)))
  have hG2 : x_G σ2 := hG1
  have I2 : ∀ b u, ¬ (b = 40 ∧ u = 4) → x_I σ2 b u = x_I σ1 b u := fun b u h => (x_Isi _ _ _ _ _ _).trans (if_neg h)
  have e4 := m4 (d + 2) hn hG2 ((I2 _ _ (by omega)).trans h3) (fun u hu => (I2 _ _ (by omega)).trans (ct u hu))
  let σ3 := x_si σ2 40 5 (Int32.ofNat (y_co n (List.range n)))
  have hG3 : x_G σ3 := hG1
  have I3 : ∀ b u, ¬ (b = 40 ∧ (u = 4 ∨ u = 5)) → x_I σ3 b u = x_I σ1 b u := fun b u h => (x_Isi _ _ _ _ _ _).trans ((if_neg (by omega)).trans (I2 b u (by omega)))
  have f3 : x_fr y_wo x_w0 σ1 σ3 := ((x_fr.refl y_wo x_w0 σ1).si _ (Or.inr (Or.inl rfl))).si _ (Or.inr (Or.inl rfl))
  obtain ⟨τ, e5, f5, p4, p5⟩ := y_124 (d + 1) H (y_TT p K M E S Y U i4) hn hH hT i4 hs 120 0 (List.range n) (y_va H (y_TT p K M E S Y U i4) n s i4 (List.range n), y_co n (List.range n)) σ3 (by omega) hl hG3 ((I3 _ _ (by omega)).trans h3) (fun u hu => (I3 _ _ (by omega)).trans (ct u hu)) (fun u hu => (I3 _ _ (by omega)).trans (hc u hu).2.1) (fun u hu => (I3 _ _ (by omega)).trans (hc u hu).2.2) (y_va_b H _ hn hl hH hT hs i4) ((x_Isi _ _ _ _ _ _).trans ((if_neg (by omega)).trans ((x_Isi _ _ _ _ _ _).trans (if_pos ⟨rfl, rfl⟩)))) ((x_Isi _ _ _ _ _ _).trans (if_pos ⟨rfl, rfl⟩))
  refine ⟨τ, ?_, (f01.trans f3).trans (f5.mono (fun b u h => h.elim (fun h => Or.inr (Or.inr (Or.inl h))) (fun h => Or.inr (Or.inl h.1))) (fun _ _ h => h)), p4, p5⟩
  rw [r1, e1_0, x_der_s, x_k1 hG, x_k40 hG, a3]
  refine e1.trans ?_
  rw [x_feq, e1_11, x_k40 hG1, h3, if_pos (Int32.le_refl _), x_k40 hG1, e2, x_ci_s, x_k40 hG1, x_k40 hG2, e4, x_ci_s, x_k40 hG2]
  exact e5
