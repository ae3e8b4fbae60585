/-! run and odds -/
def y_wz (b u : Nat) : Prop := x_wt b u ∨ (15 ≤ b ∧ b < 22 ∧ b ≠ 16) ∨ b = 96 ∨ b = 97 ∨ (b = 78 ∧ (u = 47 ∨ u = 50 ∨ u = 51))
theorem y_wz_per (a u : Nat) (h : x_per a u = true) : ¬ y_wz a u := by
  rintro (h1 | h1 | rfl | rfl | ⟨rfl, rfl | rfl | rfl⟩)
  · exact x_wt_per a u h h1
  · rcases (show a = 15 ∨ a = 17 ∨ a = 18 ∨ a = 19 ∨ a = 20 ∨ a = 21 by omega) with rfl | rfl | rfl | rfl | rfl | rfl <;> cases h
  all_goals cases h
theorem x_tv.wz {σ τ : xS} {V : Nat → Nat → Prop} {t : Nat} {o : Nat → Nat} {p : Nat → List Int32} (ht : t < 6) (f : x_fr y_wz V σ τ) (h : x_tv σ t o p) : x_tv τ t o p := by
  have hc : 29 ≤ x_tc t ∧ x_tc t + 3 < 70 := by
    rcases (show t = 0 ∨ t = 1 ∨ t = 2 ∨ t = 3 ∨ t = 4 ∨ t = 5 by omega) with rfl | rfl | rfl | rfl | rfl | rfl <;> exact ⟨Nat.le_of_ble_eq_true rfl, Nat.le_of_ble_eq_true rfl⟩
  exact x_tv.at (fun u => f.I (by unfold y_wz x_wt; omega)) (fun u => f.I (by unfold y_wz x_wt; omega)) (fun u => f.I (fun g => g.elim (x_wt_n ht u).1 (fun g => by omega))) (fun u => f.I (fun g => g.elim (x_wt_n ht u).2 (fun g => by omega))) h
def y_ca (n r tx : Nat) (o : Nat → Nat) (p : Nat → List Int32) (K M E S : Nat → Int32) (Y G : Int32) (W U : Nat → Nat) (σ : xS) : Prop := x_G σ ∧ x_tv σ r o p ∧ x_I σ 0 7 = Int32.ofNat tx ∧ x_I σ 1 6 = Int32.ofNat r ∧ x_I σ 1 1 = Int32.ofNat n ∧ x_I σ 1 2 = Y ∧ x_I σ 1 4 = G ∧ ∀ l, l < n → y_cl σ (3 + l) (K l) (M l) (E l) (S l) (Int32.ofNat (U l)) ∧ x_I σ (3 + l) 2 = Int32.ofNat (W l)
def y_ra (n r tx : Nat) (o : Nat → Nat) (p : Nat → List Int32) (K M E S : Nat → Int32) (Y G : Int32) (W U : Nat → Nat) (σ : xS) : Prop := x_G σ ∧ x_tv σ r o p ∧ x_I σ 78 13 = Int32.ofNat r ∧ x_I σ 78 0 = Int32.ofNat n ∧ x_I σ 78 4 = Y ∧ x_I σ 78 6 = G ∧ ∀ l, l < n → y_rl σ l (K l) (M l) (E l) (S l) (Int32.ofNat (U l)) ∧ x_I σ 81 (6 * l) = Int32.ofNat (W l)
theorem y_ca.fr (n r tx : Nat) (o : Nat → Nat) (p : Nat → List Int32) (K M E S : Nat → Int32) (Y G : Int32) (W U : Nat → Nat) {V : Nat → Nat → Prop} {σ τ : xS} (hn : n ≤ 5) (hr : r < 6) (f : x_fr y_wz V σ τ) (h : y_ca n r tx o p K M E S Y G W U σ) : y_ca n r tx o p K M E S Y G W U τ := by
  obtain ⟨hG, hv, a1, a2, a3, a4, a5, a6⟩ := h
  have F : ∀ b u, b < 15 → x_I τ b u = x_I σ b u := fun b u h => f.I (by unfold y_wz x_wt; omega)
  refine ⟨f.G hG, hv.wz hr f, (F _ _ (by omega)).trans a1, (F _ _ (by omega)).trans a2, (F _ _ (by omega)).trans a3, (F _ _ (by omega)).trans a4, (F _ _ (by omega)).trans a5, fun l hl => ?_⟩
  obtain ⟨⟨c1, c2, c3, c4, c5⟩, c6⟩ := a6 l hl
  exact ⟨⟨(F _ _ (by omega)).trans c1, (F _ _ (by omega)).trans c2, (F _ _ (by omega)).trans c3, (F _ _ (by omega)).trans c4, (F _ _ (by omega)).trans c5⟩, (F _ _ (by omega)).trans c6⟩
theorem y_ra.fr (n r tx : Nat) (o : Nat → Nat) (p : Nat → List Int32) (K M E S : Nat → Int32) (Y G : Int32) (W U : Nat → Nat) {V : Nat → Nat → Prop} {σ τ : xS} (hr : r < 6) (f : x_fr y_wz V σ τ) (h : y_ra n r tx o p K M E S Y G W U σ) : y_ra n r tx o p K M E S Y G W U τ := by
  obtain ⟨hG, hv, a1, a2, a3, a4, a6⟩ := h
  have F : ∀ b u, (b = 79 ∨ b = 80 ∨ b = 81) ∨ (b = 78 ∧ u < 20) → x_I τ b u = x_I σ b u := fun b u h => f.I (by unfold y_wz x_wt; omega)
  refine ⟨f.G hG, hv.wz hr f, (F _ _ (by omega)).trans a1, (F _ _ (by omega)).trans a2, (F _ _ (by omega)).trans a3, (F _ _ (by omega)).trans a4, fun l hl => ?_⟩
  obtain ⟨⟨c1, c2, c3, c4, c5⟩, c6⟩ := a6 l hl
  exact ⟨⟨(F _ _ (by omega)).trans c1, (F _ _ (by omega)).trans c2, (F _ _ (by omega)).trans c3, (F _ _ (by omega)).trans c4, (F _ _ (by omega)).trans c5⟩, (F _ _ (by omega)).trans c6⟩
theorem m198' (d : Nat) (n r tx : Nat) (o : Nat → Nat) (p : Nat → List Int32) (K M E S : Nat → Int32) (Y G : Int32) (W U : Nat → Nat) (hn : n ≤ 5) (hr : r < 6) (fx : y_fx n M E S) {N : Nat} (hN : N ≤ 100) {s : Nat} (hs : s ≤ 200000) (hb : ∀ l, l < n → W l ≤ 99999 ∧ U l ≤ 99) {σ : xS} (h : y_ra n r tx o p K M E S Y G W U σ) : ∃ τ, x_run (d + 6) 198 [.inr (.inr (some 78)), .inl (Int32.ofNat s), .inl (Int32.ofNat N)] σ = some (some (.inl (Int32.ofNat (x_it (y_yz p K M E S Y G n) 0 N ((W, U, 0, s + 1, 0), (-1, -1))).1.2.2.1)), τ) ∧ x_fr y_wz y_vt σ τ ∧ x_I τ 78 50 = (x_it (y_yz p K M E S Y G n) 0 N ((W, U, 0, s + 1, 0), (-1, -1))).2.1 ∧ x_I τ 78 51 = (x_it (y_yz p K M E S Y G n) 0 N ((W, U, 0, s + 1, 0), (-1, -1))).2.2 ∧ ∀ l, l < n → x_I τ 97 l = Int32.ofNat ((x_it (y_yz p K M E S Y G n) 0 N ((W, U, 0, s + 1, 0), (-1, -1))).1.1 l) := by
  obtain ⟨hG, hv, a1, a2, a3, a4, a6⟩ := h
  obtain ⟨τ, e, f, g1, g2, g3⟩ := m198 d hn hr fx (Y := Y) (G := G) hN hs hG hv a1 a2 a3 a4 hb a6
  refine ⟨τ, e, ⟨f.1, f.2.1, fun b u h => ?_, f.2.2.2⟩, g3⟩
  by_cases c1 : b = 81 ∧ u < 30
  · rw [c1.1, g1 u c1.2]
  · by_cases c2 : b = 78 ∧ u = 4
    · rw [c2.1, c2.2, g2]
    · exact f.I (fun g => h (by
        rcases g with g | g | g | g | g
        · exact Or.inl g
        · exact absurd g c1
        · exact Or.inr (Or.inr (Or.inl g))
        · exact Or.inr (Or.inr (Or.inr (Or.inl g)))
        · exact Or.inr (Or.inr (Or.inr (Or.inr ⟨g.1, by omega⟩)))))
theorem m125 (d : Nat) (n r tx : Nat) (o : Nat → Nat) (p : Nat → List Int32) (K M E S : Nat → Int32) (Y G : Int32) (W U : Nat → Nat) (hn : n ≤ 5) (ht : tx ≤ 6) (hr : r < tx) (fx : y_fx n M E S) {N : Nat} (hN : N ≤ 40) {s : Nat} (hs : s ≤ 200000) (till : Int32) (hb : ∀ l, l < n → W l ≤ 99999 ∧ U l ≤ 99) {σ : xS} (h : y_ca n r tx o p K M E S Y G W U σ) : ∃ τ, x_run (d + 6) 125 [.inr (.inr (some 0)), .inl (Int32.ofNat s), .inl (Int32.ofNat N), .inl till] σ = some (none, τ) ∧ x_fr y_wz y_vt σ τ ∧ x_I τ 15 8 = (x_it (y_yz p K M E S Y G n) 0 N ((W, U, 0, s + 1, 0), (-1, -1))).2.1 ∧ x_I τ 15 1 = Int32.ofNat n ∧ (till = 0 → x_I τ 15 9 = (x_it (y_yz p K M E S Y G n) 0 N ((W, U, 0, s + 1, 0), (-1, -1))).2.2 ∧ y_mc 15 n K M E S τ (x_it (y_yz p K M E S Y G n) 0 N ((W, U, 0, s + 1, 0), (-1, -1))).1) := by
  obtain ⟨hG, hv, a1, a2, a3, a4, a5, a6⟩ := h
  obtain ⟨σ1, e1, f1, g1, g2, g3, g4, g5⟩ := m66 (d + 3) (c := 15) (a := 1) (Or.inr (Or.inr rfl)) (Or.inl rfl) (by omega) hG
  have hG1 := f1.G hG
  have f1' : x_fr y_wz y_vt σ σ1 := f1.mono (fun b u h => Or.inr (Or.inl (by omega))) (fun _ _ h => h.elim)
  have e2 := m23 (d + 4) hG1 hs
  let σ2 := x_sl σ1 44 0 (Int64.ofNat (s + 1))
  have hG2 : x_G σ2 := hG1
  have f12 : x_fr y_wz y_vt σ σ2 := f1'.sl _ trivial
  have I2 : ∀ b u, x_I σ2 b u = x_I σ1 b u := fun b u => rfl
  obtain ⟨τ, e3, f3, q8, q9⟩ := l125 d hn ht hr fx (Y := Y) (G := G) hN till N 0 ((W, U, 0, s + 1, 0), (-1, -1)) σ2 (by omega) hG2 (hv.wz (by omega) f12) ((f12.I (by unfold y_wz x_wt; omega)).trans a1) ((f12.I (by unfold y_wz x_wt; omega)).trans a2) ((g2 1 (by omega) (by omega)).trans a3) (((g2 2 (by omega) (by omega)).trans a4).trans (Int32.add_zero Y).symm) ((g2 4 (by omega) (by omega)).trans a5) ⟨hb, by show s + 1 < _; omega⟩ ⟨fun l hl => by
    obtain ⟨⟨c1, c2, c3, c4, c5⟩, c6⟩ := a6 l hl
    have F : ∀ u, u < 8 → x_I σ2 (15 + 2 + l) u = x_I σ (3 + l) u := fun u hu => (g1 l u (by omega) hu).trans (by rw [show 1 + 2 + l = 3 + l by omega])
    exact ⟨⟨(F 0 (by omega)).trans c1, (F 1 (by omega)).trans c2, (F 3 (by omega)).trans c3, (F 4 (by omega)).trans c4, (F 7 (by omega)).trans c5⟩, (F 2 (by omega)).trans c6⟩, by show x_J (x_sl σ1 44 0 (Int64.ofNat (s + 1))) 44 0 = _; rw [x_Jsl, if_pos ⟨rfl, rfl⟩], g3⟩ g4 g5
  refine ⟨τ, ?_, f12.trans (f3.mono (fun b u h => h.elim Or.inl (fun h => Or.inr (Or.inl ⟨h.1, h.2.1, h.2.2.1⟩))) (fun _ _ h => h)), q8, ?_, q9⟩
  · rw [r125, e125_0, x_k0 hG, x_k0 hG, x_q0_2 hG, x_der_s, x_k15 hG, x_q0_0 hG, e1, x_cv_s, x_k0 hG1, x_q0_13 hG1, x_der_s, x_k44 hG1, e2, x_cv_s]
    exact e3
  · exact (f3.I (by unfold y_tw5 x_wt; omega)).trans ((g2 1 (by omega) (by omega)).trans a3)
